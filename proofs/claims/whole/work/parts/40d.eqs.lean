set_option maxRecDepth 100000 in
set_option maxHeartbeats 4000000 in
theorem e_L_land_0 (X : Nat × (Nat → Int32)) (d n : Nat) (w : Bool × Bool × Bool) (I : Nat → Nat → Int32) (J : Nat → Nat → Int64) (x1 : Int32) : aR X d m_L_land (n + 1) 0 [some (.ref 0), some (.int x1), some (.ref 158), none] (0, 0) (mkS w I J) =
  cI (am_call X aP d 104 [.ref 0, .int x1] (mkS w I J)) (fun r2 s1 => if (nI 0) < 0 ∨ 1 ≤ (nI 0).toNatClampNeg then none else rI (nI 0) (((gN s1), (gI s1), (uJ (gJ s1) 158 (nI 0).toNatClampNeg r2.toInt64), (gR s1)) : aSt)) (fun e9 s1 => if e9 = 2 then (rI (nI 1) (((gN s1), (gI s1), (gJ s1), (gR s1)) : aSt)) else rX e9 s1) := rfl
set_option maxRecDepth 100000 in
set_option maxHeartbeats 4000000 in
theorem e_L_law_0 (X : Nat × (Nat → Int32)) (d n : Nat) (w : Bool × Bool × Bool) (I : Nat → Nat → Int32) (J : Nat → Nat → Int64) (x1 : Int32) : aR X d m_L_law (n + 1) 0 [some (.ref 0), some (.int x1), some (.ref 158), none] (0, 0) (mkS w I J) =
  cI (am_call X aP d 105 [.ref 0, .int x1] (mkS w I J)) (fun r2 s1 => if (nI 0) < 0 ∨ 1 ≤ (nI 0).toNatClampNeg then none else rI (nI 0) (((gN s1), (gI s1), (uJ (gJ s1) 158 (nI 0).toNatClampNeg r2.toInt64), (gR s1)) : aSt)) (fun e9 s1 => if e9 = 2 then (rI (nI 1) (((gN s1), (gI s1), (gJ s1), (gR s1)) : aSt)) else rX e9 s1) := rfl
set_option maxRecDepth 100000 in
set_option maxHeartbeats 4000000 in
theorem e_L_work_0 (X : Nat × (Nat → Int32)) (d n : Nat) (w : Bool × Bool × Bool) (I : Nat → Nat → Int32) (J : Nat → Nat → Int64) (x1 : Int32) : aR X d m_L_work (n + 1) 0 [some (.ref 0), some (.int x1), some (.ref 158), none] (0, 0) (mkS w I J) =
  cI (am_call X aP d 106 [.ref 0, .int x1] (mkS w I J)) (fun r2 s1 => if (nI 0) < 0 ∨ 1 ≤ (nI 0).toNatClampNeg then none else rI (nI 0) (mkS w (gI s1) (uJ (gJ s1) 158 (nI 0).toNatClampNeg r2.toInt64))) (fun e9 s1 => if e9 = 2 then (rI (nI 1) (mkS w (gI s1) (gJ s1))) else rX e9 (mkS w (gI s1) (gJ s1))) := rfl
set_option maxRecDepth 100000 in
set_option maxHeartbeats 4000000 in
theorem e_L_book_0 (X : Nat × (Nat → Int32)) (d n : Nat) (w : Bool × Bool × Bool) (I : Nat → Nat → Int32) (J : Nat → Nat → Int64) (x1 : Int32) : aR X d m_L_book (n + 1) 0 [some (.ref 0), some (.int x1), some (.ref 158), none] (0, 0) (mkS w I J) =
  cI (am_call X aP d 107 [.ref 0, .int x1] (mkS w I J)) (fun r2 s1 => if (nI 0) < 0 ∨ 1 ≤ (nI 0).toNatClampNeg then none else rI (nI 0) (((gN s1), (gI s1), (uJ (gJ s1) 158 (nI 0).toNatClampNeg r2.toInt64), (gR s1)) : aSt)) (fun e9 s1 => if e9 = 2 then (rI (nI 1) (((gN s1), (gI s1), (gJ s1), (gR s1)) : aSt)) else rX e9 s1) := rfl
set_option maxRecDepth 100000 in
set_option maxHeartbeats 4000000 in
theorem e_L_told_0 (X : Nat × (Nat → Int32)) (d n : Nat) (w : Bool × Bool × Bool) (I : Nat → Nat → Int32) (J : Nat → Nat → Int64) (x1 : Int32) : aR X d m_L_told (n + 1) 0 [some (.ref 0), some (.int x1), some (.ref 158), none] (0, 0) (mkS w I J) =
  cI (am_call X aP d 110 [.ref 0, .int x1] (mkS w I J)) (fun r2 s1 => if (nI 0) < 0 ∨ 1 ≤ (nI 0).toNatClampNeg then none else rI (nI 0) (mkS w (gI s1) (uJ (gJ s1) 158 (nI 0).toNatClampNeg r2.toInt64))) (fun e9 s1 => if e9 = 2 then (rI (nI 1) (mkS w (gI s1) (gJ s1))) else rX e9 (mkS w (gI s1) (gJ s1))) := rfl
set_option maxRecDepth 100000 in
set_option maxHeartbeats 4000000 in
theorem e_L_town_0 (X : Nat × (Nat → Int32)) (d n : Nat) (w : Bool × Bool × Bool) (I : Nat → Nat → Int32) (J : Nat → Nat → Int64) (x1 : Int32) (x2 : Int32) : aR X d m_L_town (n + 1) 0 [some (.ref 0), some (.int x1), some (.int x2), some (.ref 158), none] (0, 0) (mkS w I J) =
  cI (am_call X aP d 111 [.ref 0, .int x1, .int x2] (mkS w I J)) (fun r2 s1 => if (nI 0) < 0 ∨ 1 ≤ (nI 0).toNatClampNeg then none else rI (nI 0) (mkS w (gI s1) (uJ (gJ s1) 158 (nI 0).toNatClampNeg r2.toInt64))) (fun e9 s1 => if e9 = 1 then (rI (nI 1) (mkS w (gI s1) (gJ s1))) else if e9 = 2 then (rI (nI 2) (mkS w (gI s1) (gJ s1))) else rX e9 (mkS w (gI s1) (gJ s1))) := rfl
set_option maxRecDepth 100000 in
set_option maxHeartbeats 4000000 in
theorem e_L_road_0 (X : Nat × (Nat → Int32)) (d n : Nat) (w : Bool × Bool × Bool) (I : Nat → Nat → Int32) (J : Nat → Nat → Int64) (x1 : Int32) (x2 : Int32) : aR X d m_L_road (n + 1) 0 [some (.ref 0), some (.int x1), some (.int x2), some (.ref 158), none] (0, 0) (mkS w I J) =
  cI (am_call X aP d 112 [.ref 0, .int x1, .int x2] (mkS w I J)) (fun r2 s1 => if (nI 0) < 0 ∨ 1 ≤ (nI 0).toNatClampNeg then none else rI (nI 0) (mkS w (gI s1) (uJ (gJ s1) 158 (nI 0).toNatClampNeg r2.toInt64))) (fun e9 s1 => if e9 = 1 then (rI (nI 1) (mkS w (gI s1) (gJ s1))) else if e9 = 2 then (rI (nI 2) (mkS w (gI s1) (gJ s1))) else rX e9 (mkS w (gI s1) (gJ s1))) := rfl
set_option maxRecDepth 100000 in
set_option maxHeartbeats 4000000 in
theorem e_L_carter_0 (X : Nat × (Nat → Int32)) (d n : Nat) (w : Bool × Bool × Bool) (I : Nat → Nat → Int32) (J : Nat → Nat → Int64) (x1 : Int32) (x2 : Int32) : aR X d m_L_carter (n + 1) 0 [some (.ref 0), some (.int x1), some (.int x2), some (.ref 158), none] (0, 0) (mkS w I J) =
  cI (am_call X aP d 113 [.ref 0, .int x1, .int x2] (mkS w I J)) (fun r2 s1 => if (nI 0) < 0 ∨ 1 ≤ (nI 0).toNatClampNeg then none else rI (nI 0) (mkS w (gI s1) (uJ (gJ s1) 158 (nI 0).toNatClampNeg r2.toInt64))) (fun e9 s1 => if e9 = 1 then (rI (nI 1) (mkS w (gI s1) (gJ s1))) else if e9 = 2 then (rI (nI 2) (mkS w (gI s1) (gJ s1))) else rX e9 (mkS w (gI s1) (gJ s1))) := rfl
set_option maxRecDepth 100000 in
set_option maxHeartbeats 4000000 in
theorem e_L_would_0 (X : Nat × (Nat → Int32)) (d n : Nat) (w : Bool × Bool × Bool) (I : Nat → Nat → Int32) (J : Nat → Nat → Int64) (x1 : Int32) (x2 : Int32) (x3 : Int32) (x4 : Int32) (x5 : Int32) (x6 : Int32) (x7 : Int32) (x8 : Int32) : aR X d m_L_would (n + 1) 0 [some (.ref 0), some (.int x1), some (.int x2), some (.int x3), some (.int x4), some (.int x5), some (.int x6), some (.int x7), some (.int x8), some (.ref 158), none] (0, 0) (mkS w I J) =
  cI (am_call X aP d 114 [.ref 0, .int x1, .int x2, .int x3, .int x4, .int x5, .int x6, .int x7, .int x8] (mkS w I J)) (fun r2 s1 => if (nI 0) < 0 ∨ 1 ≤ (nI 0).toNatClampNeg then none else rI (nI 0) (mkS w (gI s1) (uJ (gJ s1) 158 (nI 0).toNatClampNeg r2.toInt64))) (fun e9 s1 => if e9 = 2 then (rI (nI 1) (mkS w (gI s1) (gJ s1))) else rX e9 (mkS w (gI s1) (gJ s1))) := rfl
set_option maxRecDepth 100000 in
set_option maxHeartbeats 4000000 in
theorem e_L_lasts_0 (X : Nat × (Nat → Int32)) (d n : Nat) (w : Bool × Bool × Bool) (I : Nat → Nat → Int32) (J : Nat → Nat → Int64) (x1 : Int32) (x2 : Int32) : aR X d m_L_lasts (n + 1) 0 [some (.ref 0), some (.int x1), some (.int x2), some (.ref 158), none] (0, 0) (mkS w I J) =
  cI (am_call X aP d 115 [.ref 0, .int x1, .int x2] (mkS w I J)) (fun r2 s1 => if (nI 0) < 0 ∨ 1 ≤ (nI 0).toNatClampNeg then none else rI (nI 0) (mkS w (gI s1) (uJ (gJ s1) 158 (nI 0).toNatClampNeg r2.toInt64))) (fun e9 s1 => if e9 = 1 then (rI (nI 1) (mkS w (gI s1) (gJ s1))) else if e9 = 2 then (rI (nI 2) (mkS w (gI s1) (gJ s1))) else rX e9 (mkS w (gI s1) (gJ s1))) := rfl
set_option maxRecDepth 100000 in
set_option maxHeartbeats 4000000 in
theorem e_L_soon_0 (X : Nat × (Nat → Int32)) (d n : Nat) (w : Bool × Bool × Bool) (I : Nat → Nat → Int32) (J : Nat → Nat → Int64) (x1 : Int32) (x2 : Int32) (x3 : Int32) : aR X d m_L_soon (n + 1) 0 [some (.ref 0), some (.int x1), some (.int x2), some (.int x3), some (.ref 158), none] (0, 0) (mkS w I J) =
  cI (am_call X aP d 116 [.ref 0, .int x1, .int x2, .int x3] (mkS w I J)) (fun r2 s1 => if (nI 0) < 0 ∨ 1 ≤ (nI 0).toNatClampNeg then none else rI (nI 0) (mkS w (gI s1) (uJ (gJ s1) 158 (nI 0).toNatClampNeg r2.toInt64))) (fun e9 s1 => if e9 = 1 then (rI (nI 1) (mkS w (gI s1) (gJ s1))) else if e9 = 2 then (rI (nI 2) (mkS w (gI s1) (gJ s1))) else rX e9 (mkS w (gI s1) (gJ s1))) := rfl
set_option maxRecDepth 100000 in
set_option maxHeartbeats 4000000 in
theorem e_L_way_0 (X : Nat × (Nat → Int32)) (d n : Nat) (w : Bool × Bool × Bool) (I : Nat → Nat → Int32) (J : Nat → Nat → Int64) (x1 : Int32) (x2 : Int32) (x3 : Int32) (x4 : Int32) : aR X d m_L_way (n + 1) 0 [some (.ref 0), some (.int x1), some (.int x2), some (.int x3), some (.int x4), some (.ref 158), none] (0, 0) (mkS w I J) =
  cI (am_call X aP d 117 [.ref 0, .int x1, .int x2, .int x3, .int x4] (mkS w I J)) (fun r2 s1 => if (nI 0) < 0 ∨ 1 ≤ (nI 0).toNatClampNeg then none else rI (nI 0) (mkS w (gI s1) (uJ (gJ s1) 158 (nI 0).toNatClampNeg r2.toInt64))) (fun e9 s1 => if e9 = 1 then (rI (nI 1) (mkS w (gI s1) (gJ s1))) else if e9 = 2 then (rI (nI 2) (mkS w (gI s1) (gJ s1))) else rX e9 (mkS w (gI s1) (gJ s1))) := rfl
set_option maxRecDepth 100000 in
set_option maxHeartbeats 4000000 in
theorem e_L_latest_0 (X : Nat × (Nat → Int32)) (d n : Nat) (w : Bool × Bool × Bool) (I : Nat → Nat → Int32) (J : Nat → Nat → Int64) (x1 : Int32) (x2 : Int32) (x3 : Int32) (x4 : Int32) : aR X d m_L_latest (n + 1) 0 [some (.ref 0), some (.int x1), some (.int x2), some (.int x3), some (.int x4), some (.ref 158), none] (0, 0) (mkS w I J) =
  cI (am_call X aP d 118 [.ref 0, .int x1, .int x2, .int x3, .int x4] (mkS w I J)) (fun r2 s1 => if (nI 0) < 0 ∨ 1 ≤ (nI 0).toNatClampNeg then none else rI (nI 0) (mkS w (gI s1) (uJ (gJ s1) 158 (nI 0).toNatClampNeg r2.toInt64))) (fun e9 s1 => if e9 = 1 then (rI (nI 1) (mkS w (gI s1) (gJ s1))) else if e9 = 2 then (rI (nI 2) (mkS w (gI s1) (gJ s1))) else rX e9 (mkS w (gI s1) (gJ s1))) := rfl
set_option maxRecDepth 100000 in
set_option maxHeartbeats 4000000 in
theorem e_L_day_0 (X : Nat × (Nat → Int32)) (d n : Nat) (w : Bool × Bool × Bool) (I : Nat → Nat → Int32) (J : Nat → Nat → Int64) (x1 : Int32) (x2 : Int32) (x3 : Int32) : aR X d m_L_day (n + 1) 0 [some (.ref 0), some (.int x1), some (.int x2), some (.int x3), some (.ref 158), none] (0, 0) (mkS w I J) =
  cI (am_call X aP d 119 [.ref 0, .int x1, .int x2, .int x3] (mkS w I J)) (fun r2 s1 => if (nI 0) < 0 ∨ 1 ≤ (nI 0).toNatClampNeg then none else rI (nI 0) (mkS w (gI s1) (uJ (gJ s1) 158 (nI 0).toNatClampNeg r2.toInt64))) (fun e9 s1 => if e9 = 1 then (rI (nI 1) (mkS w (gI s1) (gJ s1))) else if e9 = 2 then (rI (nI 2) (mkS w (gI s1) (gJ s1))) else rX e9 (mkS w (gI s1) (gJ s1))) := rfl
set_option maxRecDepth 100000 in
set_option maxHeartbeats 4000000 in
theorem e_L_farthest_0 (X : Nat × (Nat → Int32)) (d n : Nat) (w : Bool × Bool × Bool) (I : Nat → Nat → Int32) (J : Nat → Nat → Int64) (x1 : Int32) : aR X d m_L_farthest (n + 1) 0 [some (.ref 0), some (.int x1), some (.ref 158), none] (0, 0) (mkS w I J) =
  cI (am_call X aP d 120 [.ref 0, .int x1] (mkS w I J)) (fun r2 s1 => if (nI 0) < 0 ∨ 1 ≤ (nI 0).toNatClampNeg then none else rI (nI 0) (mkS w (gI s1) (uJ (gJ s1) 158 (nI 0).toNatClampNeg r2.toInt64))) (fun e9 s1 => if e9 = 2 then (rI (nI 1) (mkS w (gI s1) (gJ s1))) else rX e9 (mkS w (gI s1) (gJ s1))) := rfl
set_option maxRecDepth 100000 in
set_option maxHeartbeats 4000000 in
theorem e_L_joined_0 (X : Nat × (Nat → Int32)) (d n : Nat) (w : Bool × Bool × Bool) (I : Nat → Nat → Int32) (J : Nat → Nat → Int64) (x1 : Int32) : aR X d m_L_joined (n + 1) 0 [some (.ref 0), some (.int x1), some (.ref 158), none] (0, 0) (mkS w I J) =
  cI (am_call X aP d 121 [.ref 0, .int x1] (mkS w I J)) (fun r2 s1 => if r2 = 0 then (if (nI 0) < 0 ∨ 1 ≤ (nI 0).toNatClampNeg then none else rI (nI 0) (mkS w (gI s1) (uJ (gJ s1) 158 (nI 0).toNatClampNeg (lN 0)))) else if (nI 0) < 0 ∨ 1 ≤ (nI 0).toNatClampNeg then none else rI (nI 0) (mkS w (gI s1) (uJ (gJ s1) 158 (nI 0).toNatClampNeg (lN 1)))) (fun e9 s1 => if e9 = 2 then (rI (nI 1) (mkS w (gI s1) (gJ s1))) else rX e9 (mkS w (gI s1) (gJ s1))) := rfl
set_option maxRecDepth 100000 in
set_option maxHeartbeats 4000000 in
theorem e_L_part_0 (X : Nat × (Nat → Int32)) (d n : Nat) (w : Bool × Bool × Bool) (I : Nat → Nat → Int32) (J : Nat → Nat → Int64) (x1 : Int32) (x2 : Int32) (x3 : Int32) : aR X d m_L_part (n + 1) 0 [some (.ref 0), some (.int x1), some (.int x2), some (.int x3), some (.ref 158), none] (0, 0) (mkS w I J) =
  cI (am_call X aP d 122 [.ref 0, .int x1, .int x2, .int x3] (mkS w I J)) (fun r2 s1 => if (nI 0) < 0 ∨ 1 ≤ (nI 0).toNatClampNeg then none else rI (nI 0) (mkS w (gI s1) (uJ (gJ s1) 158 (nI 0).toNatClampNeg r2.toInt64))) (fun e9 s1 => if e9 = 1 then (rI (nI 1) (mkS w (gI s1) (gJ s1))) else if e9 = 2 then (rI (nI 2) (mkS w (gI s1) (gJ s1))) else rX e9 (mkS w (gI s1) (gJ s1))) := rfl
set_option maxRecDepth 100000 in
set_option maxHeartbeats 4000000 in
theorem e_L_mend_0 (X : Nat × (Nat → Int32)) (d n : Nat) (w : Bool × Bool × Bool) (I : Nat → Nat → Int32) (J : Nat → Nat → Int64) (x1 : Int32) : aR X d m_L_mend (n + 1) 0 [some (.ref 0), some (.int x1), some (.ref 158), none] (0, 0) (mkS w I J) =
  cI (am_call X aP d 123 [.ref 0, .int x1] (mkS w I J)) (fun r2 s1 => if (nI 0) < 0 ∨ 1 ≤ (nI 0).toNatClampNeg then none else rI (nI 0) (mkS w (gI s1) (uJ (gJ s1) 158 (nI 0).toNatClampNeg r2.toInt64))) (fun e9 s1 => if e9 = 2 then (rI (nI 1) (mkS w (gI s1) (gJ s1))) else rX e9 (mkS w (gI s1) (gJ s1))) := rfl
set_option maxRecDepth 100000 in
set_option maxHeartbeats 4000000 in
theorem e_L_picnic_0 (X : Nat × (Nat → Int32)) (d n : Nat) (w : Bool × Bool × Bool) (I : Nat → Nat → Int32) (J : Nat → Nat → Int64) (x1 : Int32) : aR X d m_L_picnic (n + 1) 0 [some (.ref 0), some (.int x1), some (.ref 158), none] (0, 0) (mkS w I J) =
  cI (am_call X aP d 124 [.ref 0, .int x1] (mkS w I J)) (fun r2 s1 => if (nI 0) < 0 ∨ 1 ≤ (nI 0).toNatClampNeg then none else rI (nI 0) (mkS w (gI s1) (uJ (gJ s1) 158 (nI 0).toNatClampNeg r2.toInt64))) (fun e9 s1 => if e9 = 2 then (rI (nI 1) (mkS w (gI s1) (gJ s1))) else rX e9 (mkS w (gI s1) (gJ s1))) := rfl
set_option maxRecDepth 100000 in
set_option maxHeartbeats 4000000 in
theorem e_L_fits_0 (X : Nat × (Nat → Int32)) (d n : Nat) (w : Bool × Bool × Bool) (I : Nat → Nat → Int32) (J : Nat → Nat → Int64) (x1 : Int32) : aR X d m_L_fits (n + 1) 0 [some (.ref 0), some (.int x1), some (.ref 158), none] (0, 0) (mkS w I J) =
  cI (am_call X aP d 125 [.ref 0, .int x1] (mkS w I J)) (fun r2 s1 => if (nI 0) < 0 ∨ 1 ≤ (nI 0).toNatClampNeg then none else rI (nI 0) (mkS w (gI s1) (uJ (gJ s1) 158 (nI 0).toNatClampNeg r2.toInt64))) (fun e9 s1 => if e9 = 1 then (rI (nI 1) (mkS w (gI s1) (gJ s1))) else rX e9 (mkS w (gI s1) (gJ s1))) := rfl
set_option maxRecDepth 100000 in
set_option maxHeartbeats 4000000 in
theorem e_L_look_0 (X : Nat × (Nat → Int32)) (d n : Nat) (w : Bool × Bool × Bool) (I : Nat → Nat → Int32) (J : Nat → Nat → Int64) (x1 : Int32) (x2 : Int32) : aR X d m_L_look (n + 1) 0 [some (.ref 0), some (.int x1), some (.int x2), some (.ref 158), none] (0, 0) (mkS w I J) =
  cI (am_call X aP d 126 [.ref 0, .int x1, .int x2] (mkS w I J)) (fun r2 s1 => if (nI 0) < 0 ∨ 1 ≤ (nI 0).toNatClampNeg then none else rI (nI 0) (mkS w (gI s1) (uJ (gJ s1) 158 (nI 0).toNatClampNeg r2.toInt64))) (fun e9 s1 => if e9 = 1 then (rI (nI 1) (mkS w (gI s1) (gJ s1))) else if e9 = 2 then (rI (nI 2) (mkS w (gI s1) (gJ s1))) else rX e9 (mkS w (gI s1) (gJ s1))) := rfl
set_option maxRecDepth 100000 in
set_option maxHeartbeats 4000000 in
theorem e_L_inn_0 (X : Nat × (Nat → Int32)) (d n : Nat) (w : Bool × Bool × Bool) (I : Nat → Nat → Int32) (J : Nat → Nat → Int64) (x1 : Int32) (x2 : Int32) (x3 : Int32) : aR X d m_L_inn (n + 1) 0 [some (.ref 0), some (.int x1), some (.int x2), some (.int x3), some (.ref 158), none] (0, 0) (mkS w I J) =
  cI (am_call X aP d 127 [.ref 0, .int x1, .int x2, .int x3] (mkS w I J)) (fun r2 s1 => if (nI 0) < 0 ∨ 1 ≤ (nI 0).toNatClampNeg then none else rI (nI 0) (mkS w (gI s1) (uJ (gJ s1) 158 (nI 0).toNatClampNeg r2.toInt64))) (fun e9 s1 => if e9 = 2 then (rI (nI 1) (mkS w (gI s1) (gJ s1))) else rX e9 (mkS w (gI s1) (gJ s1))) := rfl
set_option maxRecDepth 100000 in
set_option maxHeartbeats 4000000 in
theorem e_L_luck_0 (X : Nat × (Nat → Int32)) (d n : Nat) (w : Bool × Bool × Bool) (I : Nat → Nat → Int32) (J : Nat → Nat → Int64) (x1 : Int32) (x2 : Int32) (x3 : Int32) (x4 : Int32) : aR X d m_L_luck (n + 1) 0 [some (.ref 0), some (.int x1), some (.int x2), some (.int x3), some (.int x4), some (.ref 158), none] (0, 0) (mkS w I J) =
  cJ (am_call X aP d 129 [.ref 0, .int x1, .int x2, .int x3, .int x4] (mkS w I J)) (fun r2 s1 => if (nI 0) < 0 ∨ 1 ≤ (nI 0).toNatClampNeg then none else rI (nI 0) (mkS w (gI s1) (uJ (gJ s1) 158 (nI 0).toNatClampNeg r2))) (fun e9 s1 => if e9 = 2 then (rI (nI 1) (mkS w (gI s1) (gJ s1))) else rX e9 (mkS w (gI s1) (gJ s1))) := rfl
set_option maxRecDepth 100000 in
set_option maxHeartbeats 4000000 in
theorem e_L_oats_0 (X : Nat × (Nat → Int32)) (d n : Nat) (w : Bool × Bool × Bool) (I : Nat → Nat → Int32) (J : Nat → Nat → Int64) (x1 : Int32) (x2 : Int32) (x3 : Int32) : aR X d m_L_oats (n + 1) 0 [some (.ref 0), some (.int x1), some (.int x2), some (.int x3), some (.ref 158), none] (0, 0) (mkS w I J) =
  cI (am_call X aP d 131 [.ref 0, .int x1, .int x2, .int x3] (mkS w I J)) (fun r2 s1 => if (nI 0) < 0 ∨ 1 ≤ (nI 0).toNatClampNeg then none else rI (nI 0) (mkS w (gI s1) (uJ (gJ s1) 158 (nI 0).toNatClampNeg r2.toInt64))) (fun e9 s1 => if e9 = 1 then (rI (nI 1) (mkS w (gI s1) (gJ s1))) else if e9 = 2 then (rI (nI 2) (mkS w (gI s1) (gJ s1))) else rX e9 (mkS w (gI s1) (gJ s1))) := rfl
set_option maxRecDepth 100000 in
set_option maxHeartbeats 4000000 in
theorem e_L_weariest_0 (X : Nat × (Nat → Int32)) (d n : Nat) (w : Bool × Bool × Bool) (I : Nat → Nat → Int32) (J : Nat → Nat → Int64) (x1 : Int32) : aR X d m_L_weariest (n + 1) 0 [some (.ref 0), some (.int x1), some (.ref 158), none] (0, 0) (mkS w I J) =
  cI (am_call X aP d 133 [.ref 0, .int x1] (mkS w I J)) (fun r2 s1 => if (nI 0) < 0 ∨ 1 ≤ (nI 0).toNatClampNeg then none else rI (nI 0) (mkS w (gI s1) (uJ (gJ s1) 158 (nI 0).toNatClampNeg r2.toInt64))) (fun e9 s1 => if e9 = 2 then (rI (nI 1) (mkS w (gI s1) (gJ s1))) else rX e9 (mkS w (gI s1) (gJ s1))) := rfl
set_option maxRecDepth 100000 in
set_option maxHeartbeats 4000000 in
theorem e_L_arrives_0 (X : Nat × (Nat → Int32)) (d n : Nat) (w : Bool × Bool × Bool) (I : Nat → Nat → Int32) (J : Nat → Nat → Int64) (x1 : Int32) : aR X d m_L_arrives (n + 1) 0 [some (.ref 0), some (.int x1), some (.ref 158), none] (0, 0) (mkS w I J) =
  cI (am_call X aP d 134 [.ref 0, .int x1] (mkS w I J)) (fun r2 s1 => if (nI 0) < 0 ∨ 1 ≤ (nI 0).toNatClampNeg then none else rI (nI 0) (mkS w (gI s1) (uJ (gJ s1) 158 (nI 0).toNatClampNeg r2.toInt64))) (fun e9 s1 => if e9 = 1 then (rI (nI 1) (mkS w (gI s1) (gJ s1))) else rX e9 (mkS w (gI s1) (gJ s1))) := rfl
set_option maxRecDepth 100000 in
set_option maxHeartbeats 4000000 in
theorem e_L_reach_0 (X : Nat × (Nat → Int32)) (d n : Nat) (w : Bool × Bool × Bool) (I : Nat → Nat → Int32) (J : Nat → Nat → Int64) (x1 : Int32) (x2 : Int32) : aR X d m_L_reach (n + 1) 0 [some (.ref 0), some (.int x1), some (.int x2), some (.ref 158), none] (0, 0) (mkS w I J) =
  cI (am_call X aP d 135 [.ref 0, .int x1, .int x2] (mkS w I J)) (fun r2 s1 => if (nI 0) < 0 ∨ 1 ≤ (nI 0).toNatClampNeg then none else rI (nI 0) (mkS w (gI s1) (uJ (gJ s1) 158 (nI 0).toNatClampNeg r2.toInt64))) (fun e9 s1 => if e9 = 1 then (rI (nI 1) (mkS w (gI s1) (gJ s1))) else if e9 = 2 then (rI (nI 2) (mkS w (gI s1) (gJ s1))) else rX e9 (mkS w (gI s1) (gJ s1))) := rfl
set_option maxRecDepth 100000 in
set_option maxHeartbeats 4000000 in
theorem e_L_year_0 (X : Nat × (Nat → Int32)) (d n : Nat) (w : Bool × Bool × Bool) (I : Nat → Nat → Int32) (J : Nat → Nat → Int64) (x1 : Int32) (x2 : Int32) (x3 : Int32) (x4 : Int32) : aR X d m_L_year (n + 1) 0 [some (.ref 0), some (.int x1), some (.int x2), some (.int x3), some (.int x4), some (.ref 158), none] (0, 0) (mkS w I J) =
  cI (am_call X aP d 136 [.ref 0, .int x1, .int x2, .int x3, .int x4] (mkS w I J)) (fun r2 s1 => if (nI 0) < 0 ∨ 1 ≤ (nI 0).toNatClampNeg then none else rI (nI 0) (mkS w (gI s1) (uJ (gJ s1) 158 (nI 0).toNatClampNeg r2.toInt64))) (fun e9 s1 => if e9 = 2 then (rI (nI 1) (mkS w (gI s1) (gJ s1))) else rX e9 (mkS w (gI s1) (gJ s1))) := rfl
set_option maxRecDepth 100000 in
set_option maxHeartbeats 4000000 in
theorem e_L_span_0 (X : Nat × (Nat → Int32)) (d n : Nat) (w : Bool × Bool × Bool) (I : Nat → Nat → Int32) (J : Nat → Nat → Int64) (x1 : Int32) (x2 : Int32) (x3 : Int32) (x4 : Int32) (x5 : Int32) (x6 : Int32) : aR X d m_L_span (n + 1) 0 [some (.ref 0), some (.int x1), some (.int x2), some (.int x3), some (.int x4), some (.int x5), some (.int x6), some (.ref 158), none] (0, 0) (mkS w I J) =
  cI (am_call X aP d 137 [.ref 0, .int x1, .int x2, .int x3, .int x4, .int x5, .int x6] (mkS w I J)) (fun r2 s1 => if (nI 0) < 0 ∨ 1 ≤ (nI 0).toNatClampNeg then none else rI (nI 0) (mkS w (gI s1) (uJ (gJ s1) 158 (nI 0).toNatClampNeg r2.toInt64))) (fun e9 s1 => if e9 = 2 then (rI (nI 1) (mkS w (gI s1) (gJ s1))) else rX e9 (mkS w (gI s1) (gJ s1))) := rfl
