set_option maxRecDepth 20000 in
set_option maxHeartbeats 4000000 in
theorem e_X7_put_0 (X : Nat × (Nat → Int32)) (d n : Nat) (w : Bool × Bool × Bool) (I : Nat → Nat → Int32) (J : Nat → Nat → Int64) (x1 : Int32) : aR X d m_X7_put (n + 1) 0 [some (.ref 1), some (.int x1), none] (0, 0) (mkS w I J) =
  aR X d m_X7_put n 2 [some (.ref 1), some (.int x1), some (.int (nI 24))] (0, 0) (mkS w I J) := rfl
set_option maxRecDepth 20000 in
set_option maxHeartbeats 4000000 in
theorem e_X7_put_2 (X : Nat × (Nat → Int32)) (d n : Nat) (w : Bool × Bool × Bool) (I : Nat → Nat → Int32) (J : Nat → Nat → Int64) (x1 : Int32) (x2 : Int32) : aR X d m_X7_put (n + 1) 2 [some (.ref 1), some (.int x1), some (.int x2)] (0, 0) (mkS w I J) =
  if x2 < 0 then (rV (mkS w I J)) else if (I 1 1) < (nI 600) then (if (I 1 1) < 0 ∨ 600 ≤ (I 1 1).toNatClampNeg then none else aR X d m_X7_put n 2 [some (.ref 1), some (.int x1), some (.int (x2 + nI 4294967288))] (0, 0) (mkS w (uI (uI I 2 (I 1 1).toNatClampNeg (((x1.toUInt32 >>> (x2.toUInt32 &&& Int32.toUInt32 31)).toInt32) &&& (nI 255))) 1 1 (((uI I 2 (I 1 1).toNatClampNeg (((x1.toUInt32 >>> (x2.toUInt32 &&& Int32.toUInt32 31)).toInt32) &&& (nI 255))) 1 1) + (nI 1))) J)) else aR X d m_X7_put n 2 [some (.ref 1), some (.int x1), some (.int (x2 + nI 4294967288))] (0, 0) (mkS w I J) := rfl
set_option maxRecDepth 20000 in
set_option maxHeartbeats 4000000 in
theorem e_X7_open_0 (X : Nat × (Nat → Int32)) (d n : Nat) (w : Bool × Bool × Bool) (I : Nat → Nat → Int32) (J : Nat → Nat → Int64) (x1 : Int32) : aR X d m_X7_open (n + 1) 0 [some (.ref 1), some (.int x1)] (0, 0) (mkS w I J) =
  cV (am_call X aP d 81 [.ref 1, .int (nI 0)] (mkS w (uI (uI (uI (uI (uI I 1 1 (nI 0)) 1 2 x1) 1 4 (nI 0)) 1 6 (nI 0)) 1 7 (nI 4294967295)) J)) (fun s1 => rV (mkS w (gI s1) (gJ s1))) (fun e9 s1 => rX e9 (mkS w (gI s1) (gJ s1))) := rfl
set_option maxRecDepth 20000 in
set_option maxHeartbeats 4000000 in
theorem e_X7_moveTo_0 (X : Nat × (Nat → Int32)) (d n : Nat) (w : Bool × Bool × Bool) (I : Nat → Nat → Int32) (J : Nat → Nat → Int64) (x1 : Int32) : aR X d m_X7_moveTo (n + 1) 0 [some (.ref 1), some (.int x1)] (0, 0) (mkS w I J) =
  aR X d m_X7_moveTo n 3 [some (.ref 1), none] (0, 0) (mkS w (uI I 1 3 x1) J) := rfl
set_option maxRecDepth 20000 in
set_option maxHeartbeats 4000000 in
theorem e_X7_moveTo_3 (X : Nat × (Nat → Int32)) (d n : Nat) (w : Bool × Bool × Bool) (I : Nat → Nat → Int32) (J : Nat → Nat → Int64)  : aR X d m_X7_moveTo (n + 1) 3 [some (.ref 1), none] (0, 0) (mkS w I J) =
  if (I 1 3) < (I 1 2) then (if (I 1 3) < 0 ∨ 600 ≤ (I 1 3).toNatClampNeg then none else if (I 2 (I 1 3).toNatClampNeg) = (nI 32) then (aR X d m_X7_moveTo n 3 [some (.ref 1), none] (0, 0) (mkS w (uI I 1 3 ((I 1 3) + (nI 1))) J)) else rV (mkS w I J)) else rV (mkS w I J) := rfl
set_option maxRecDepth 20000 in
set_option maxHeartbeats 4000000 in
theorem e_X7_ends_0 (X : Nat × (Nat → Int32)) (d n : Nat) (w : Bool × Bool × Bool) (I : Nat → Nat → Int32) (J : Nat → Nat → Int64)  : aR X d m_X7_ends (n + 1) 0 [some (.ref 1)] (0, 0) (mkS w I J) =
  if (I 1 3) < (I 1 2) then (rI (nI 0) (mkS w I J)) else rI (nI 1) (mkS w I J) := rfl
set_option maxRecDepth 20000 in
set_option maxHeartbeats 4000000 in
theorem e_X7_stands_0 (X : Nat × (Nat → Int32)) (d n : Nat) (w : Bool × Bool × Bool) (I : Nat → Nat → Int32) (J : Nat → Nat → Int64) (x1 : Int32) : aR X d m_X7_stands (n + 1) 0 [some (.ref 1), some (.int x1)] (0, 0) (mkS w I J) =
  if (I 1 3) < (I 1 2) then (if (I 1 3) < 0 ∨ 600 ≤ (I 1 3).toNatClampNeg then none else if (I 2 (I 1 3).toNatClampNeg) = x1 then (rI (nI 1) (mkS w I J)) else rI (nI 0) (mkS w I J)) else rI (nI 0) (mkS w I J) := rfl
set_option maxRecDepth 20000 in
set_option maxHeartbeats 4000000 in
theorem e_X7_digitStands_0 (X : Nat × (Nat → Int32)) (d n : Nat) (w : Bool × Bool × Bool) (I : Nat → Nat → Int32) (J : Nat → Nat → Int64)  : aR X d m_X7_digitStands (n + 1) 0 [some (.ref 1)] (0, 0) (mkS w I J) =
  if (I 1 3) < (I 1 2) then (if (I 1 3) < 0 ∨ 600 ≤ (I 1 3).toNatClampNeg then none else cI (am_call X aP d 85 [.int (I 2 (I 1 3).toNatClampNeg)] (mkS w I J)) (fun r2 s1 => if r2 = 0 then (rI (nI 0) (mkS w (gI s1) (gJ s1))) else rI (nI 1) (mkS w (gI s1) (gJ s1))) (fun e9 s1 => rX e9 (mkS w (gI s1) (gJ s1)))) else rI (nI 0) (mkS w I J) := rfl
set_option maxRecDepth 20000 in
set_option maxHeartbeats 4000000 in
theorem e_X7_isDigit_0 (X : Nat × (Nat → Int32)) (d n : Nat) (w : Bool × Bool × Bool) (I : Nat → Nat → Int32) (J : Nat → Nat → Int64) (x0 : Int32) : aR X d m_X7_isDigit (n + 1) 0 [some (.int x0)] (0, 0) (mkS w I J) =
  if x0 < (nI 48) then (rI (nI 0) (mkS w I J)) else if (nI 57) < x0 then (rI (nI 0) (mkS w I J)) else rI (nI 1) (mkS w I J) := rfl
set_option maxRecDepth 20000 in
set_option maxHeartbeats 4000000 in
theorem e_X7_isLetter_0 (X : Nat × (Nat → Int32)) (d n : Nat) (w : Bool × Bool × Bool) (I : Nat → Nat → Int32) (J : Nat → Nat → Int64) (x0 : Int32) : aR X d m_X7_isLetter (n + 1) 0 [some (.int x0)] (0, 0) (mkS w I J) =
  if x0 < (nI 97) then (rI (nI 0) (mkS w I J)) else if (nI 122) < x0 then (rI (nI 0) (mkS w I J)) else rI (nI 1) (mkS w I J) := rfl
set_option maxRecDepth 20000 in
set_option maxHeartbeats 4000000 in
theorem e_X7_takes_0 (X : Nat × (Nat → Int32)) (d n : Nat) (w : Bool × Bool × Bool) (I : Nat → Nat → Int32) (J : Nat → Nat → Int64) (x1 : Int32) : aR X d m_X7_takes (n + 1) 0 [some (.ref 1), some (.int x1)] (0, 0) (mkS w I J) =
  cI (am_call X aP d 83 [.ref 1, .int x1] (mkS w I J)) (fun r2 s1 => if r2 = 0 then (rI (nI 0) (mkS w (gI s1) (gJ s1))) else cV (am_call X aP d 81 [.ref 1, .int (((uI (gI s1) 1 4 ((gI s1) 1 3)) 1 3) + (nI 1))] (mkS w (uI (gI s1) 1 4 ((gI s1) 1 3)) (gJ s1))) (fun s3 => rI (nI 1) (mkS w (gI s3) (gJ s3))) (fun e9 s3 => rX e9 (mkS w (gI s3) (gJ s3)))) (fun e9 s1 => rX e9 (mkS w (gI s1) (gJ s1))) := rfl
set_option maxRecDepth 20000 in
set_option maxHeartbeats 4000000 in
theorem e_X7_needs_0 (X : Nat × (Nat → Int32)) (d n : Nat) (w : Bool × Bool × Bool) (I : Nat → Nat → Int32) (J : Nat → Nat → Int64) (x1 : Int32) : aR X d m_X7_needs (n + 1) 0 [some (.ref 1), some (.int x1)] (0, 0) (mkS w I J) =
  cI (am_call X aP d 87 [.ref 1, .int x1] (mkS w I J)) (fun r2 s1 => if r2 = 0 then (cI (am_call X aP d 91 [.ref 1, .int (nI 1)] (mkS w (gI s1) (gJ s1))) (fun r4 s3 => if r4 = 0 then (rI (nI 0) (mkS w (gI s3) (gJ s3))) else rI (nI 1) (mkS w (gI s3) (gJ s3))) (fun e9 s3 => rX e9 (mkS w (gI s3) (gJ s3)))) else rI (nI 1) (mkS w (gI s1) (gJ s1))) (fun e9 s1 => rX e9 (mkS w (gI s1) (gJ s1))) := rfl
set_option maxRecDepth 20000 in
set_option maxHeartbeats 4000000 in
theorem e_X7_takesWord_0 (X : Nat × (Nat → Int32)) (d n : Nat) (w : Bool × Bool × Bool) (I : Nat → Nat → Int32) (J : Nat → Nat → Int64) (o1 : Nat) : aR X d m_X7_takesWord (n + 1) 0 [some (.ref 1), some (.ref o1), none, none] (0, 0) (mkS w I J) =
  aR X d m_X7_takesWord n 2 [some (.ref 1), some (.ref o1), some (.int (nI 0)), none] (0, 0) (mkS w I J) := rfl
set_option maxRecDepth 20000 in
set_option maxHeartbeats 4000000 in
theorem e_X7_takesWord_2 (X : Nat × (Nat → Int32)) (d n : Nat) (w : Bool × Bool × Bool) (I : Nat → Nat → Int32) (J : Nat → Nat → Int64) (o1 : Nat) (x2 : Int32) : aR X d m_X7_takesWord (n + 1) 2 [some (.ref 1), some (.ref o1), some (.int x2), none] (0, 0) (mkS w I J) =
  if ((I 1 3) + x2) < (I 1 2) then (if ((I 1 3) + x2) < 0 ∨ 600 ≤ ((I 1 3) + x2).toNatClampNeg then none else cI (am_call X aP d 86 [.int (I 2 ((I 1 3) + x2).toNatClampNeg)] (mkS w I J)) (fun r2 s1 => if r2 = 0 then (aR X d m_X7_takesWord n 20 [some (.ref 1), some (.ref o1), some (.int x2), none] (0, 0) (mkS w (gI s1) (gJ s1))) else aR X d m_X7_takesWord n 2 [some (.ref 1), some (.ref o1), some (.int (x2 + nI 1)), none] (0, 0) (mkS w (gI s1) (gJ s1))) (fun e9 s1 => rX e9 (mkS w (gI s1) (gJ s1)))) else aR X d m_X7_takesWord n 20 [some (.ref 1), some (.ref o1), some (.int x2), none] (0, 0) (mkS w I J) := rfl
set_option maxRecDepth 20000 in
set_option maxHeartbeats 4000000 in
theorem e_X7_takesWord_20 (X : Nat × (Nat → Int32)) (d n : Nat) (w : Bool × Bool × Bool) (I : Nat → Nat → Int32) (J : Nat → Nat → Int64) (o1 : Nat) (x2 : Int32) : aR X d m_X7_takesWord (n + 1) 20 [some (.ref 1), some (.ref o1), some (.int x2), none] (0, 0) (mkS w I J) =
  if KK o1 = 20 then (cI (am_call X aP d 1001 [.ref o1] (mkS w I J)) (fun r2 s1 => if x2 = r2 then (aR X d m_X7_takesWord n 28 [some (.ref 1), some (.ref o1), some (.int x2), some (.int (nI 0))] (0, 0) (mkS w (gI s1) (gJ s1))) else rI (nI 0) (mkS w (gI s1) (gJ s1))) (fun e9 s1 => rX e9 (mkS w (gI s1) (gJ s1)))) else none := rfl
set_option maxRecDepth 20000 in
set_option maxHeartbeats 4000000 in
theorem e_X7_takesWord_28 (X : Nat × (Nat → Int32)) (d n : Nat) (w : Bool × Bool × Bool) (I : Nat → Nat → Int32) (J : Nat → Nat → Int64) (o1 : Nat) (x2 : Int32) (x3 : Int32) : aR X d m_X7_takesWord (n + 1) 28 [some (.ref 1), some (.ref o1), some (.int x2), some (.int x3)] (0, 0) (mkS w I J) =
  if x3 < x2 then (if ((I 1 3) + x3) < 0 ∨ 600 ≤ ((I 1 3) + x3).toNatClampNeg then none else if KK o1 = 20 then (cI (am_call X aP d 1002 [.ref o1, .int x3] (mkS w I J)) (fun r2 s1 => if (I 2 ((I 1 3) + x3).toNatClampNeg) = r2 then (aR X d m_X7_takesWord n 28 [some (.ref 1), some (.ref o1), some (.int x2), some (.int (x3 + nI 1))] (0, 0) (mkS w (gI s1) (gJ s1))) else rI (nI 0) (mkS w (gI s1) (gJ s1))) (fun e9 s1 => rX e9 (mkS w (gI s1) (gJ s1)))) else none) else cV (am_call X aP d 81 [.ref 1, .int (((uI I 1 4 (I 1 3)) 1 3) + x2)] (mkS w (uI I 1 4 (I 1 3)) J)) (fun s3 => rI (nI 1) (mkS w (gI s3) (gJ s3))) (fun e9 s3 => rX e9 (mkS w (gI s3) (gJ s3))) := rfl
set_option maxRecDepth 20000 in
set_option maxHeartbeats 4000000 in
theorem e_X7_needsNumber_0 (X : Nat × (Nat → Int32)) (d n : Nat) (w : Bool × Bool × Bool) (I : Nat → Nat → Int32) (J : Nat → Nat → Int64) (x1 : Int32) (x2 : Int32) : aR X d m_X7_needsNumber (n + 1) 0 [some (.ref 1), some (.int x1), some (.int x2), none] (0, 0) (mkS w I J) =
  cI (am_call X aP d 84 [.ref 1] (mkS w I J)) (fun r2 s1 => if r2 = 0 then (cI (am_call X aP d 91 [.ref 1, .int (nI 1)] (mkS w (gI s1) (gJ s1))) (fun r4 s3 => (match bok r4 with
  | true => rI r4 (mkS w (gI s3) (gJ s3))
  | false => none)) (fun e9 s3 => rX e9 (mkS w (gI s3) (gJ s3)))) else aR X d m_X7_needsNumber n 17 [some (.ref 1), some (.int x1), some (.int x2), some (.int ((uI (uI (gI s1) 1 4 ((gI s1) 1 3)) 1 5 (nI 0)) 1 3))] (0, 0) (mkS w (uI (uI (gI s1) 1 4 ((gI s1) 1 3)) 1 5 (nI 0)) (gJ s1))) (fun e9 s1 => rX e9 (mkS w (gI s1) (gJ s1))) := rfl
set_option maxRecDepth 20000 in
set_option maxHeartbeats 4000000 in
theorem e_X7_needsNumber_17 (X : Nat × (Nat → Int32)) (d n : Nat) (w : Bool × Bool × Bool) (I : Nat → Nat → Int32) (J : Nat → Nat → Int64) (x1 : Int32) (x2 : Int32) (x3 : Int32) : aR X d m_X7_needsNumber (n + 1) 17 [some (.ref 1), some (.int x1), some (.int x2), some (.int x3)] (0, 0) (mkS w I J) =
  if x3 < (I 1 2) then (if x3 < 0 ∨ 600 ≤ x3.toNatClampNeg then none else cI (am_call X aP d 85 [.int (I 2 x3.toNatClampNeg)] (mkS w I J)) (fun r2 s1 => if r2 = 0 then (aR X d m_X7_needsNumber n 44 [some (.ref 1), some (.int x1), some (.int x2), some (.int x3)] (0, 0) (mkS w (gI s1) (gJ s1))) else if x3 < 0 ∨ 600 ≤ x3.toNatClampNeg then none else cI (am_call X aP d 301 [.int (nI 100000), .int (((((gI s1) 1 5) * (nI 10)) + ((gI s1) 2 x3.toNatClampNeg)) - (nI 48))] (mkS w (gI s1) (gJ s1))) (fun r4 s3 => aR X d m_X7_needsNumber n 17 [some (.ref 1), some (.int x1), some (.int x2), some (.int (x3 + nI 1))] (0, 0) (mkS w (uI (gI s3) 1 5 r4) (gJ s3))) (fun e9 s3 => rX e9 (mkS w (gI s3) (gJ s3)))) (fun e9 s1 => rX e9 (mkS w (gI s1) (gJ s1)))) else aR X d m_X7_needsNumber n 44 [some (.ref 1), some (.int x1), some (.int x2), some (.int x3)] (0, 0) (mkS w I J) := rfl
set_option maxRecDepth 20000 in
set_option maxHeartbeats 4000000 in
theorem e_X7_needsNumber_44 (X : Nat × (Nat → Int32)) (d n : Nat) (w : Bool × Bool × Bool) (I : Nat → Nat → Int32) (J : Nat → Nat → Int64) (x1 : Int32) (x2 : Int32) (x3 : Int32) : aR X d m_X7_needsNumber (n + 1) 44 [some (.ref 1), some (.int x1), some (.int x2), some (.int x3)] (0, 0) (mkS w I J) =
  cV (am_call X aP d 81 [.ref 1, .int x3] (mkS w I J)) (fun s1 => if ((gI s1) 1 5) < x1 then (aR X d m_X7_needsNumber n 55 [some (.ref 1), none, none, none] (0, 0) (mkS w (gI s1) (gJ s1))) else if x2 < ((gI s1) 1 5) then (aR X d m_X7_needsNumber n 55 [some (.ref 1), none, none, none] (0, 0) (mkS w (gI s1) (gJ s1))) else rI (nI 1) (mkS w (gI s1) (gJ s1))) (fun e9 s1 => rX e9 (mkS w (gI s1) (gJ s1))) := rfl
set_option maxRecDepth 20000 in
set_option maxHeartbeats 4000000 in
theorem e_X7_needsNumber_55 (X : Nat × (Nat → Int32)) (d n : Nat) (w : Bool × Bool × Bool) (I : Nat → Nat → Int32) (J : Nat → Nat → Int64)  : aR X d m_X7_needsNumber (n + 1) 55 [some (.ref 1), none, none, none] (0, 0) (mkS w I J) =
  cI (am_call X aP d 92 [.ref 1, .int (nI 2)] (mkS w I J)) (fun r2 s1 => if r2 = 0 then (rI (nI 0) (mkS w (gI s1) (gJ s1))) else rI (nI 1) (mkS w (gI s1) (gJ s1))) (fun e9 s1 => rX e9 (mkS w (gI s1) (gJ s1))) := rfl
set_option maxRecDepth 20000 in
set_option maxHeartbeats 4000000 in
theorem e_X7_failHere_0 (X : Nat × (Nat → Int32)) (d n : Nat) (w : Bool × Bool × Bool) (I : Nat → Nat → Int32) (J : Nat → Nat → Int64) (x1 : Int32) : aR X d m_X7_failHere (n + 1) 0 [some (.ref 1), some (.int x1)] (0, 0) (mkS w I J) =
  rI (nI 0) (mkS w (uI (uI I 1 6 x1) 1 7 ((uI I 1 6 x1) 1 3)) J) := rfl
set_option maxRecDepth 20000 in
set_option maxHeartbeats 4000000 in
theorem e_X7_failAtToken_0 (X : Nat × (Nat → Int32)) (d n : Nat) (w : Bool × Bool × Bool) (I : Nat → Nat → Int32) (J : Nat → Nat → Int64) (x1 : Int32) : aR X d m_X7_failAtToken (n + 1) 0 [some (.ref 1), some (.int x1)] (0, 0) (mkS w I J) =
  rI (nI 0) (mkS w (uI (uI I 1 6 x1) 1 7 ((uI I 1 6 x1) 1 4)) J) := rfl
