/-! THE LAW'S CASES, PIECE BY PIECE -/
noncomputable def lw (X : Nat × (Nat → Int32)) (d n k i : Nat) (ls : aL) (stk : List Value) (cn : Nat × Nat) (st : aSt) : aRes := am_in X (am_call X aP d) m_L_law_ (am_run X (am_call X aP d) m_L_law_ n) k (m_L_law_.1.drop i) ls stk cn st
abbrev lwL (x4 : Int32) (a b c : Option Value) : aL := [some (.ref 1000000), some (.ref 0), some (.ref 132), some (.ref 158), some (.int x4), a, b, c]
theorem lw_aR {X : Nat × (Nat → Int32)} {d n i : Nat} {ls : aL} {cn : Nat × Nat} {st : aSt} : aR X d m_L_law_ (n + 1) i ls cn st = lw X d n 400 i ls [] cn st := rfl
theorem kp_mk {w : Bool × Bool × Bool} {I I1 : Nat → Nat → Int32} {J J1 : Nat → Nat → Int64} : kp (mkS w I J) (mkS w I1 J1) = mkS w I1 J1 := id rfl
set_option maxRecDepth 100000 in
set_option maxHeartbeats 100000 in
theorem lwp_25_400 {X : Nat × (Nat → Int32)} {d n k : Nat} {x4 : Int32}  {c1 c2 : Nat} {st : aSt} : lw X d n (k + 6) 25 (lwL x4 none none none) ([]) (c1, c2) st = if (x4 + (nI 1)) < 0 ∨ X.1 ≤ (x4 + (nI 1)).toNatClampNeg then none else lw X d n k 31 (lwL x4 none none none) ([.int (X.2 (x4 + (nI 1)).toNatClampNeg), .ref 0]) (c1, c2) st := rfl
set_option maxRecDepth 100000 in
set_option maxHeartbeats 100000 in
theorem lwp_31_394 {X : Nat × (Nat → Int32)} {d n k : Nat} {x4 : Int32} {v1 : Int32} {c1 c2 : Nat} {st : aSt} : lw X d n (k + 5) 31 (lwL x4 none none none) ([.int v1, .ref 0]) (c1, c2) st = if (x4 + (nI 2)) < 0 ∨ X.1 ≤ (x4 + (nI 2)).toNatClampNeg then none else lw X d n k 36 (lwL x4 none none none) ([.int (X.2 (x4 + (nI 2)).toNatClampNeg), .int v1, .ref 0]) (c1, c2) st := rfl
set_option maxRecDepth 100000 in
set_option maxHeartbeats 100000 in
theorem lwp_36_389 {X : Nat × (Nat → Int32)} {d n k : Nat} {x4 : Int32} {v1 : Int32} {v2 : Int32} {c1 c2 : Nat} {st : aSt} : lw X d n (k + 5) 36 (lwL x4 none none none) ([.int v2, .int v1, .ref 0]) (c1, c2) st = if (x4 + (nI 3)) < 0 ∨ X.1 ≤ (x4 + (nI 3)).toNatClampNeg then none else lw X d n k 41 (lwL x4 none none none) ([.int (X.2 (x4 + (nI 3)).toNatClampNeg), .int v2, .int v1, .ref 0]) (c1, c2) st := rfl
set_option maxRecDepth 100000 in
set_option maxHeartbeats 100000 in
theorem lwp_41_384 {X : Nat × (Nat → Int32)} {d n k : Nat} {x4 : Int32} {v1 : Int32} {v2 : Int32} {v3 : Int32} {c1 c2 : Nat} {st : aSt} : lw X d n (k + 5) 41 (lwL x4 none none none) ([.int v3, .int v2, .int v1, .ref 0]) (c1, c2) st = if (x4 + (nI 4)) < 0 ∨ X.1 ≤ (x4 + (nI 4)).toNatClampNeg then none else lw X d n k 46 (lwL x4 none none none) ([.int (X.2 (x4 + (nI 4)).toNatClampNeg), .int v3, .int v2, .int v1, .ref 0]) (c1, c2) st := rfl
set_option maxRecDepth 100000 in
set_option maxHeartbeats 100000 in
theorem lwp_46_379 {X : Nat × (Nat → Int32)} {d n k : Nat} {x4 : Int32} {v1 : Int32} {v2 : Int32} {v3 : Int32} {v4 : Int32} {c1 c2 : Nat} {st : aSt} : lw X d n (k + 5) 46 (lwL x4 none none none) ([.int v4, .int v3, .int v2, .int v1, .ref 0]) (c1, c2) st = if (x4 + (nI 5)) < 0 ∨ X.1 ≤ (x4 + (nI 5)).toNatClampNeg then none else lw X d n k 51 (lwL x4 none none none) ([.int (X.2 (x4 + (nI 5)).toNatClampNeg), .int v4, .int v3, .int v2, .int v1, .ref 0]) (c1, c2) st := rfl
set_option maxRecDepth 100000 in
set_option maxHeartbeats 100000 in
theorem lwp_51_374 {X : Nat × (Nat → Int32)} {d n k : Nat} {x4 : Int32} {v1 : Int32} {v2 : Int32} {v3 : Int32} {v4 : Int32} {v5 : Int32} {c1 c2 : Nat} {st : aSt} : lw X d n (k + 1) 51 (lwL x4 none none none) ([.int v5, .int v4, .int v3, .int v2, .int v1, .ref 0]) (c1, c2) st = if c1 + 0 ≤ 601024 ∧ c2 + 0 ≤ 7293034 then cI (am_call X aP d 103 [.ref 0, .int v1, .int v2, .int v3, .int v4, .int v5] st) (fun r1 s1 => lw X d n k 52 (lwL x4 none none none) ([.int r1]) (c1 + 0, c2 + 0) (kp st s1)) (fun e s1 => rX e (kp st s1)) else none := rfl
set_option maxRecDepth 100000 in
set_option maxHeartbeats 100000 in
theorem lwp_52_373 {X : Nat × (Nat → Int32)} {d n k : Nat} {x4 : Int32} {v1 : Int32} {c1 c2 : Nat} {st : aSt} : lw X d n (k + 6) 52 (lwL x4 none none none) ([.int v1]) (c1, c2) st = if (x4 + (nI 1)) < 0 ∨ X.1 ≤ (x4 + (nI 1)).toNatClampNeg then none else lw X d n k 58 (lwL x4 none none none) ([.int (X.2 (x4 + (nI 1)).toNatClampNeg), .ref 132, .int v1]) (c1, c2) st := rfl
set_option maxRecDepth 100000 in
set_option maxHeartbeats 100000 in
theorem lwp_58_367 {X : Nat × (Nat → Int32)} {d n k : Nat} {x4 : Int32} {v1 : Int32} {v2 : Int32} {c1 c2 : Nat} {st : aSt} : lw X d n (k + 5) 58 (lwL x4 none none none) ([.int v2, .ref 132, .int v1]) (c1, c2) st = if (x4 + (nI 2)) < 0 ∨ X.1 ≤ (x4 + (nI 2)).toNatClampNeg then none else lw X d n k 63 (lwL x4 none none none) ([.int (X.2 (x4 + (nI 2)).toNatClampNeg), .int v2, .ref 132, .int v1]) (c1, c2) st := rfl
set_option maxRecDepth 100000 in
set_option maxHeartbeats 100000 in
theorem lwp_63_362 {X : Nat × (Nat → Int32)} {d n k : Nat} {x4 : Int32} {v1 : Int32} {v2 : Int32} {v3 : Int32} {c1 c2 : Nat} {st : aSt} : lw X d n (k + 5) 63 (lwL x4 none none none) ([.int v3, .int v2, .ref 132, .int v1]) (c1, c2) st = if (x4 + (nI 3)) < 0 ∨ X.1 ≤ (x4 + (nI 3)).toNatClampNeg then none else lw X d n k 68 (lwL x4 none none none) ([.int (X.2 (x4 + (nI 3)).toNatClampNeg), .int v3, .int v2, .ref 132, .int v1]) (c1, c2) st := rfl
set_option maxRecDepth 100000 in
set_option maxHeartbeats 100000 in
theorem lwp_68_357 {X : Nat × (Nat → Int32)} {d n k : Nat} {x4 : Int32} {v1 : Int32} {v2 : Int32} {v3 : Int32} {v4 : Int32} {c1 c2 : Nat} {st : aSt} : lw X d n (k + 5) 68 (lwL x4 none none none) ([.int v4, .int v3, .int v2, .ref 132, .int v1]) (c1, c2) st = if (x4 + (nI 4)) < 0 ∨ X.1 ≤ (x4 + (nI 4)).toNatClampNeg then none else lw X d n k 73 (lwL x4 none none none) ([.int (X.2 (x4 + (nI 4)).toNatClampNeg), .int v4, .int v3, .int v2, .ref 132, .int v1]) (c1, c2) st := rfl
set_option maxRecDepth 100000 in
set_option maxHeartbeats 100000 in
theorem lwp_73_352 {X : Nat × (Nat → Int32)} {d n k : Nat} {x4 : Int32} {v1 : Int32} {v2 : Int32} {v3 : Int32} {v4 : Int32} {v5 : Int32} {c1 c2 : Nat} {st : aSt} : lw X d n (k + 5) 73 (lwL x4 none none none) ([.int v5, .int v4, .int v3, .int v2, .ref 132, .int v1]) (c1, c2) st = if (x4 + (nI 5)) < 0 ∨ X.1 ≤ (x4 + (nI 5)).toNatClampNeg then none else lw X d n k 78 (lwL x4 none none none) ([.int (X.2 (x4 + (nI 5)).toNatClampNeg), .int v5, .int v4, .int v3, .int v2, .ref 132, .int v1]) (c1, c2) st := rfl
set_option maxRecDepth 100000 in
set_option maxHeartbeats 100000 in
theorem lwp_78_347 {X : Nat × (Nat → Int32)} {d n k : Nat} {x4 : Int32} {v1 : Int32} {v2 : Int32} {v3 : Int32} {v4 : Int32} {v5 : Int32} {v6 : Int32} {c1 c2 : Nat} {st : aSt} : lw X d n (k + 1) 78 (lwL x4 none none none) ([.int v6, .int v5, .int v4, .int v3, .int v2, .ref 132, .int v1]) (c1, c2) st = if c1 + 0 ≤ 601024 ∧ c2 + 0 ≤ 7293034 then cI (am_call X aP d 156 [.ref 132, .int v2, .int v3, .int v4, .int v5, .int v6] st) (fun r1 s1 => lw X d n k 79 (lwL x4 none none none) ([.int r1, .int v1]) (c1 + 0, c2 + 0) (kp st s1)) (fun e s1 => rX e (kp st s1)) else none := rfl
set_option maxRecDepth 100000 in
set_option maxHeartbeats 100000 in
theorem lwp_79_346 {X : Nat × (Nat → Int32)} {d n k : Nat} {x4 : Int32} {v1 : Int32} {v2 : Int32} {c1 c2 : Nat} {st : aSt} : lw X d n (k + 12) 79 (lwL x4 none none none) ([.int v2, .int v1]) (c1, c2) st = if v1 = v2 then aR X d m_L_law_ n 1561 (lwL x4 none none none) (c1, c2) st else rI (nI 0) st := rfl
set_option maxRecDepth 100000 in
set_option maxHeartbeats 100000 in
theorem lwp_82_400 {X : Nat × (Nat → Int32)} {d n k : Nat} {x4 : Int32}  {c1 c2 : Nat} {st : aSt} : lw X d n (k + 6) 82 (lwL x4 none none none) ([]) (c1, c2) st = if (x4 + (nI 1)) < 0 ∨ X.1 ≤ (x4 + (nI 1)).toNatClampNeg then none else lw X d n k 88 (lwL x4 none none none) ([.int (X.2 (x4 + (nI 1)).toNatClampNeg), .ref 0]) (c1, c2) st := rfl
set_option maxRecDepth 100000 in
set_option maxHeartbeats 100000 in
theorem lwp_88_394 {X : Nat × (Nat → Int32)} {d n k : Nat} {x4 : Int32} {v1 : Int32} {c1 c2 : Nat} {st : aSt} : lw X d n (k + 2) 88 (lwL x4 none none none) ([.int v1, .ref 0]) (c1, c2) st = if c1 + 1 ≤ 601024 ∧ c2 + 6 ≤ 7293034 then cI (am_call X aP d 269 [.ref 0, .int v1, .ref 158] st) (fun r1 s1 => lw X d n k 90 (lwL x4 none none none) ([.int r1]) (c1 + 1, c2 + 6) s1) (fun e s1 => rX e s1) else none := rfl
set_option maxRecDepth 100000 in
set_option maxHeartbeats 100000 in
theorem lwp_90_392 {X : Nat × (Nat → Int32)} {d n k : Nat} {x4 : Int32} {v1 : Int32} {c1 c2 : Nat} {st : aSt} : lw X d n (k + 7) 90 (lwL x4 none none none) ([.int v1]) (c1, c2) st = if (x4 + (nI 1)) < 0 ∨ X.1 ≤ (x4 + (nI 1)).toNatClampNeg then none else lw X d n k 97 (lwL x4 (some (.int v1)) none none) ([.int (X.2 (x4 + (nI 1)).toNatClampNeg), .ref 132]) (c1, c2) st := rfl
set_option maxRecDepth 100000 in
set_option maxHeartbeats 100000 in
theorem lwp_97_385 {X : Nat × (Nat → Int32)} {d n k : Nat} {x4 : Int32} {v1 : Int32} {v2 : Int32} {c1 c2 : Nat} {st : aSt} : lw X d n (k + 1) 97 (lwL x4 (some (.int v1)) none none) ([.int v2, .ref 132]) (c1, c2) st = if c1 + 0 ≤ 601024 ∧ c2 + 0 ≤ 7293034 then cI (am_call X aP d 179 [.ref 132, .int v2] st) (fun r1 s1 => lw X d n k 98 (lwL x4 (some (.int v1)) none none) ([.int r1]) (c1 + 0, c2 + 0) (kp st s1)) (fun e s1 => rX e (kp st s1)) else none := rfl
set_option maxRecDepth 100000 in
set_option maxHeartbeats 100000 in
theorem lwp_98_384 {X : Nat × (Nat → Int32)} {d n k : Nat} {x4 : Int32} {v1 : Int32} {v2 : Int32} {c1 c2 : Nat} {st : aSt} : lw X d n (k + 3) 98 (lwL x4 (some (.int v1)) none none) ([.int v2]) (c1, c2) st = if c1 + 0 ≤ 601024 ∧ c2 + 0 ≤ 7293034 then cI (am_call X aP d 152 [.ref 132] st) (fun r1 s1 => lw X d n k 101 (lwL x4 (some (.int v1)) (some (.int v2)) none) ([.int r1]) (c1 + 0, c2 + 0) (kp st s1)) (fun e s1 => rX e (kp st s1)) else none := rfl
set_option maxRecDepth 100000 in
set_option maxHeartbeats 100000 in
theorem lwp_101_381 {X : Nat × (Nat → Int32)} {d n k : Nat} {x4 : Int32} {v1 : Int32} {v2 : Int32} {v3 : Int32} {c1 c2 : Nat} {st : aSt} : lw X d n (k + 4) 101 (lwL x4 (some (.int v1)) (some (.int v2)) none) ([.int v3]) (c1, c2) st = if v3 = v1 then lw X d n (k + 2) 105 (lwL x4 (some (.int v1)) (some (.int v2)) none) ([]) (c1, c2) st else rI (nI 0) st := rfl
set_option maxRecDepth 100000 in
set_option maxHeartbeats 100000 in
theorem lwp_105_379 {X : Nat × (Nat → Int32)} {d n k : Nat} {x4 : Int32} {v1 : Int32} {v2 : Int32} {c1 c2 : Nat} {st : aSt} : lw X d n (k + 4) 105 (lwL x4 (some (.int v1)) (some (.int v2)) none) ([]) (c1, c2) st = if v1 = 0 then lw X d n (k + 2) 107 (lwL x4 (some (.int v1)) (some (.int v2)) none) ([]) (c1, c2) st else aR X d m_L_law_ n 1561 (lwL x4 none none none) (c1, c2) st := rfl
set_option maxRecDepth 100000 in
set_option maxHeartbeats 100000 in
theorem lwp_107_377 {X : Nat × (Nat → Int32)} {d n k : Nat} {x4 : Int32} {v1 : Int32} {v2 : Int32} {c1 c2 : Nat} {st : aSt} : lw X d n (k + 3) 107 (lwL x4 (some (.int v1)) (some (.int v2)) none) ([]) (c1, c2) st = if (nI 0) < 0 ∨ 1 ≤ (nI 0).toNatClampNeg then none else lw X d n k 110 (lwL x4 (some (.int v1)) (some (.int v2)) none) ([.long (gJ st 158 (nI 0).toNatClampNeg)]) (c1, c2) st := rfl
set_option maxRecDepth 100000 in
set_option maxHeartbeats 100000 in
theorem lwp_110_374 {X : Nat × (Nat → Int32)} {d n k : Nat} {x4 : Int32} {v1 : Int32} {v2 : Int32} {v3 : Int64} {c1 c2 : Nat} {st : aSt} : lw X d n (k + 12) 110 (lwL x4 (some (.int v1)) (some (.int v2)) none) ([.long v3]) (c1, c2) st = if lg_cmp (v3) (v2.toInt64) = 0 then aR X d m_L_law_ n 1561 (lwL x4 none none none) (c1, c2) st else rI (nI 0) st := rfl
set_option maxRecDepth 100000 in
set_option maxHeartbeats 100000 in
theorem lwp_117_400 {X : Nat × (Nat → Int32)} {d n k : Nat} {x4 : Int32}  {c1 c2 : Nat} {st : aSt} : lw X d n (k + 6) 117 (lwL x4 none none none) ([]) (c1, c2) st = if (x4 + (nI 1)) < 0 ∨ X.1 ≤ (x4 + (nI 1)).toNatClampNeg then none else lw X d n k 123 (lwL x4 none none none) ([.int (X.2 (x4 + (nI 1)).toNatClampNeg), .ref 0]) (c1, c2) st := rfl
set_option maxRecDepth 100000 in
set_option maxHeartbeats 100000 in
theorem lwp_123_394 {X : Nat × (Nat → Int32)} {d n k : Nat} {x4 : Int32} {v1 : Int32} {c1 c2 : Nat} {st : aSt} : lw X d n (k + 2) 123 (lwL x4 none none none) ([.int v1, .ref 0]) (c1, c2) st = if c1 + 1 ≤ 601024 ∧ c2 + 6 ≤ 7293034 then cI (am_call X aP d 270 [.ref 0, .int v1, .ref 158] st) (fun r1 s1 => lw X d n k 125 (lwL x4 none none none) ([.int r1]) (c1 + 1, c2 + 6) s1) (fun e s1 => rX e s1) else none := rfl
set_option maxRecDepth 100000 in
set_option maxHeartbeats 100000 in
theorem lwp_125_392 {X : Nat × (Nat → Int32)} {d n k : Nat} {x4 : Int32} {v1 : Int32} {c1 c2 : Nat} {st : aSt} : lw X d n (k + 7) 125 (lwL x4 none none none) ([.int v1]) (c1, c2) st = if (x4 + (nI 1)) < 0 ∨ X.1 ≤ (x4 + (nI 1)).toNatClampNeg then none else lw X d n k 132 (lwL x4 (some (.int v1)) none none) ([.int (X.2 (x4 + (nI 1)).toNatClampNeg), .ref 132]) (c1, c2) st := rfl
set_option maxRecDepth 100000 in
set_option maxHeartbeats 100000 in
theorem lwp_132_385 {X : Nat × (Nat → Int32)} {d n k : Nat} {x4 : Int32} {v1 : Int32} {v2 : Int32} {c1 c2 : Nat} {st : aSt} : lw X d n (k + 1) 132 (lwL x4 (some (.int v1)) none none) ([.int v2, .ref 132]) (c1, c2) st = if c1 + 0 ≤ 601024 ∧ c2 + 0 ≤ 7293034 then cI (am_call X aP d 187 [.ref 132, .int v2] st) (fun r1 s1 => lw X d n k 133 (lwL x4 (some (.int v1)) none none) ([.int r1]) (c1 + 0, c2 + 0) (kp st s1)) (fun e s1 => rX e (kp st s1)) else none := rfl
set_option maxRecDepth 100000 in
set_option maxHeartbeats 100000 in
theorem lwp_133_384 {X : Nat × (Nat → Int32)} {d n k : Nat} {x4 : Int32} {v1 : Int32} {v2 : Int32} {c1 c2 : Nat} {st : aSt} : lw X d n (k + 3) 133 (lwL x4 (some (.int v1)) none none) ([.int v2]) (c1, c2) st = if c1 + 0 ≤ 601024 ∧ c2 + 0 ≤ 7293034 then cI (am_call X aP d 152 [.ref 132] st) (fun r1 s1 => lw X d n k 136 (lwL x4 (some (.int v1)) (some (.int v2)) none) ([.int r1]) (c1 + 0, c2 + 0) (kp st s1)) (fun e s1 => rX e (kp st s1)) else none := rfl
set_option maxRecDepth 100000 in
set_option maxHeartbeats 100000 in
theorem lwp_136_381 {X : Nat × (Nat → Int32)} {d n k : Nat} {x4 : Int32} {v1 : Int32} {v2 : Int32} {v3 : Int32} {c1 c2 : Nat} {st : aSt} : lw X d n (k + 4) 136 (lwL x4 (some (.int v1)) (some (.int v2)) none) ([.int v3]) (c1, c2) st = if v3 = v1 then lw X d n (k + 2) 140 (lwL x4 (some (.int v1)) (some (.int v2)) none) ([]) (c1, c2) st else rI (nI 0) st := rfl
set_option maxRecDepth 100000 in
set_option maxHeartbeats 100000 in
theorem lwp_140_379 {X : Nat × (Nat → Int32)} {d n k : Nat} {x4 : Int32} {v1 : Int32} {v2 : Int32} {c1 c2 : Nat} {st : aSt} : lw X d n (k + 4) 140 (lwL x4 (some (.int v1)) (some (.int v2)) none) ([]) (c1, c2) st = if v1 = 0 then lw X d n (k + 2) 142 (lwL x4 (some (.int v1)) (some (.int v2)) none) ([]) (c1, c2) st else aR X d m_L_law_ n 1561 (lwL x4 none none none) (c1, c2) st := rfl
set_option maxRecDepth 100000 in
set_option maxHeartbeats 100000 in
theorem lwp_142_377 {X : Nat × (Nat → Int32)} {d n k : Nat} {x4 : Int32} {v1 : Int32} {v2 : Int32} {c1 c2 : Nat} {st : aSt} : lw X d n (k + 3) 142 (lwL x4 (some (.int v1)) (some (.int v2)) none) ([]) (c1, c2) st = if (nI 0) < 0 ∨ 1 ≤ (nI 0).toNatClampNeg then none else lw X d n k 145 (lwL x4 (some (.int v1)) (some (.int v2)) none) ([.long (gJ st 158 (nI 0).toNatClampNeg)]) (c1, c2) st := rfl
set_option maxRecDepth 100000 in
set_option maxHeartbeats 100000 in
theorem lwp_145_374 {X : Nat × (Nat → Int32)} {d n k : Nat} {x4 : Int32} {v1 : Int32} {v2 : Int32} {v3 : Int64} {c1 c2 : Nat} {st : aSt} : lw X d n (k + 12) 145 (lwL x4 (some (.int v1)) (some (.int v2)) none) ([.long v3]) (c1, c2) st = if lg_cmp (v3) (v2.toInt64) = 0 then aR X d m_L_law_ n 1561 (lwL x4 none none none) (c1, c2) st else rI (nI 0) st := rfl
set_option maxRecDepth 100000 in
set_option maxHeartbeats 100000 in
theorem lwp_152_400 {X : Nat × (Nat → Int32)} {d n k : Nat} {x4 : Int32}  {c1 c2 : Nat} {st : aSt} : lw X d n (k + 6) 152 (lwL x4 none none none) ([]) (c1, c2) st = if (x4 + (nI 1)) < 0 ∨ X.1 ≤ (x4 + (nI 1)).toNatClampNeg then none else lw X d n k 158 (lwL x4 none none none) ([.int (X.2 (x4 + (nI 1)).toNatClampNeg), .ref 0]) (c1, c2) st := rfl
set_option maxRecDepth 100000 in
set_option maxHeartbeats 100000 in
theorem lwp_158_394 {X : Nat × (Nat → Int32)} {d n k : Nat} {x4 : Int32} {v1 : Int32} {c1 c2 : Nat} {st : aSt} : lw X d n (k + 2) 158 (lwL x4 none none none) ([.int v1, .ref 0]) (c1, c2) st = if c1 + 1 ≤ 601024 ∧ c2 + 6 ≤ 7293034 then cI (am_call X aP d 271 [.ref 0, .int v1, .ref 158] st) (fun r1 s1 => lw X d n k 160 (lwL x4 none none none) ([.int r1]) (c1 + 1, c2 + 6) (kp st s1)) (fun e s1 => rX e (kp st s1)) else none := rfl
set_option maxRecDepth 100000 in
set_option maxHeartbeats 100000 in
theorem lwp_160_392 {X : Nat × (Nat → Int32)} {d n k : Nat} {x4 : Int32} {v1 : Int32} {c1 c2 : Nat} {st : aSt} : lw X d n (k + 7) 160 (lwL x4 none none none) ([.int v1]) (c1, c2) st = if (x4 + (nI 1)) < 0 ∨ X.1 ≤ (x4 + (nI 1)).toNatClampNeg then none else lw X d n k 167 (lwL x4 (some (.int v1)) none none) ([.int (X.2 (x4 + (nI 1)).toNatClampNeg), .ref 132]) (c1, c2) st := rfl
set_option maxRecDepth 100000 in
set_option maxHeartbeats 100000 in
theorem lwp_167_385 {X : Nat × (Nat → Int32)} {d n k : Nat} {x4 : Int32} {v1 : Int32} {v2 : Int32} {c1 c2 : Nat} {st : aSt} : lw X d n (k + 1) 167 (lwL x4 (some (.int v1)) none none) ([.int v2, .ref 132]) (c1, c2) st = if c1 + 0 ≤ 601024 ∧ c2 + 0 ≤ 7293034 then cI (am_call X aP d 195 [.ref 132, .int v2] st) (fun r1 s1 => lw X d n k 168 (lwL x4 (some (.int v1)) none none) ([.int r1]) (c1 + 0, c2 + 0) (kp st s1)) (fun e s1 => rX e (kp st s1)) else none := rfl
set_option maxRecDepth 100000 in
set_option maxHeartbeats 100000 in
theorem lwp_168_384 {X : Nat × (Nat → Int32)} {d n k : Nat} {x4 : Int32} {v1 : Int32} {v2 : Int32} {c1 c2 : Nat} {st : aSt} : lw X d n (k + 3) 168 (lwL x4 (some (.int v1)) none none) ([.int v2]) (c1, c2) st = if c1 + 0 ≤ 601024 ∧ c2 + 0 ≤ 7293034 then cI (am_call X aP d 152 [.ref 132] st) (fun r1 s1 => lw X d n k 171 (lwL x4 (some (.int v1)) (some (.int v2)) none) ([.int r1]) (c1 + 0, c2 + 0) (kp st s1)) (fun e s1 => rX e (kp st s1)) else none := rfl
set_option maxRecDepth 100000 in
set_option maxHeartbeats 100000 in
theorem lwp_171_381 {X : Nat × (Nat → Int32)} {d n k : Nat} {x4 : Int32} {v1 : Int32} {v2 : Int32} {v3 : Int32} {c1 c2 : Nat} {st : aSt} : lw X d n (k + 4) 171 (lwL x4 (some (.int v1)) (some (.int v2)) none) ([.int v3]) (c1, c2) st = if v3 = v1 then lw X d n (k + 2) 175 (lwL x4 (some (.int v1)) (some (.int v2)) none) ([]) (c1, c2) st else rI (nI 0) st := rfl
set_option maxRecDepth 100000 in
set_option maxHeartbeats 100000 in
theorem lwp_175_379 {X : Nat × (Nat → Int32)} {d n k : Nat} {x4 : Int32} {v1 : Int32} {v2 : Int32} {c1 c2 : Nat} {st : aSt} : lw X d n (k + 4) 175 (lwL x4 (some (.int v1)) (some (.int v2)) none) ([]) (c1, c2) st = if v1 = 0 then lw X d n (k + 2) 177 (lwL x4 (some (.int v1)) (some (.int v2)) none) ([]) (c1, c2) st else aR X d m_L_law_ n 1561 (lwL x4 none none none) (c1, c2) st := rfl
set_option maxRecDepth 100000 in
set_option maxHeartbeats 100000 in
theorem lwp_177_377 {X : Nat × (Nat → Int32)} {d n k : Nat} {x4 : Int32} {v1 : Int32} {v2 : Int32} {c1 c2 : Nat} {st : aSt} : lw X d n (k + 3) 177 (lwL x4 (some (.int v1)) (some (.int v2)) none) ([]) (c1, c2) st = if (nI 0) < 0 ∨ 1 ≤ (nI 0).toNatClampNeg then none else lw X d n k 180 (lwL x4 (some (.int v1)) (some (.int v2)) none) ([.long (gJ st 158 (nI 0).toNatClampNeg)]) (c1, c2) st := rfl
set_option maxRecDepth 100000 in
set_option maxHeartbeats 100000 in
theorem lwp_180_374 {X : Nat × (Nat → Int32)} {d n k : Nat} {x4 : Int32} {v1 : Int32} {v2 : Int32} {v3 : Int64} {c1 c2 : Nat} {st : aSt} : lw X d n (k + 12) 180 (lwL x4 (some (.int v1)) (some (.int v2)) none) ([.long v3]) (c1, c2) st = if lg_cmp (v3) (v2.toInt64) = 0 then aR X d m_L_law_ n 1561 (lwL x4 none none none) (c1, c2) st else rI (nI 0) st := rfl
set_option maxRecDepth 100000 in
set_option maxHeartbeats 100000 in
theorem lwp_187_400 {X : Nat × (Nat → Int32)} {d n k : Nat} {x4 : Int32}  {c1 c2 : Nat} {st : aSt} : lw X d n (k + 6) 187 (lwL x4 none none none) ([]) (c1, c2) st = if (x4 + (nI 1)) < 0 ∨ X.1 ≤ (x4 + (nI 1)).toNatClampNeg then none else lw X d n k 193 (lwL x4 none none none) ([.int (X.2 (x4 + (nI 1)).toNatClampNeg), .ref 0]) (c1, c2) st := rfl
set_option maxRecDepth 100000 in
set_option maxHeartbeats 100000 in
theorem lwp_193_394 {X : Nat × (Nat → Int32)} {d n k : Nat} {x4 : Int32} {v1 : Int32} {c1 c2 : Nat} {st : aSt} : lw X d n (k + 2) 193 (lwL x4 none none none) ([.int v1, .ref 0]) (c1, c2) st = if c1 + 1 ≤ 601024 ∧ c2 + 6 ≤ 7293034 then cI (am_call X aP d 272 [.ref 0, .int v1, .ref 158] st) (fun r1 s1 => lw X d n k 195 (lwL x4 none none none) ([.int r1]) (c1 + 1, c2 + 6) s1) (fun e s1 => rX e s1) else none := rfl
set_option maxRecDepth 100000 in
set_option maxHeartbeats 100000 in
theorem lwp_195_392 {X : Nat × (Nat → Int32)} {d n k : Nat} {x4 : Int32} {v1 : Int32} {c1 c2 : Nat} {st : aSt} : lw X d n (k + 7) 195 (lwL x4 none none none) ([.int v1]) (c1, c2) st = if (x4 + (nI 1)) < 0 ∨ X.1 ≤ (x4 + (nI 1)).toNatClampNeg then none else lw X d n k 202 (lwL x4 (some (.int v1)) none none) ([.int (X.2 (x4 + (nI 1)).toNatClampNeg), .ref 132]) (c1, c2) st := rfl
set_option maxRecDepth 100000 in
set_option maxHeartbeats 100000 in
theorem lwp_202_385 {X : Nat × (Nat → Int32)} {d n k : Nat} {x4 : Int32} {v1 : Int32} {v2 : Int32} {c1 c2 : Nat} {st : aSt} : lw X d n (k + 1) 202 (lwL x4 (some (.int v1)) none none) ([.int v2, .ref 132]) (c1, c2) st = if c1 + 0 ≤ 601024 ∧ c2 + 0 ≤ 7293034 then cI (am_call X aP d 211 [.ref 132, .int v2] st) (fun r1 s1 => lw X d n k 203 (lwL x4 (some (.int v1)) none none) ([.int r1]) (c1 + 0, c2 + 0) (kp st s1)) (fun e s1 => rX e (kp st s1)) else none := rfl
set_option maxRecDepth 100000 in
set_option maxHeartbeats 100000 in
theorem lwp_203_384 {X : Nat × (Nat → Int32)} {d n k : Nat} {x4 : Int32} {v1 : Int32} {v2 : Int32} {c1 c2 : Nat} {st : aSt} : lw X d n (k + 3) 203 (lwL x4 (some (.int v1)) none none) ([.int v2]) (c1, c2) st = if c1 + 0 ≤ 601024 ∧ c2 + 0 ≤ 7293034 then cI (am_call X aP d 152 [.ref 132] st) (fun r1 s1 => lw X d n k 206 (lwL x4 (some (.int v1)) (some (.int v2)) none) ([.int r1]) (c1 + 0, c2 + 0) (kp st s1)) (fun e s1 => rX e (kp st s1)) else none := rfl
set_option maxRecDepth 100000 in
set_option maxHeartbeats 100000 in
theorem lwp_206_381 {X : Nat × (Nat → Int32)} {d n k : Nat} {x4 : Int32} {v1 : Int32} {v2 : Int32} {v3 : Int32} {c1 c2 : Nat} {st : aSt} : lw X d n (k + 4) 206 (lwL x4 (some (.int v1)) (some (.int v2)) none) ([.int v3]) (c1, c2) st = if v3 = v1 then lw X d n (k + 2) 210 (lwL x4 (some (.int v1)) (some (.int v2)) none) ([]) (c1, c2) st else rI (nI 0) st := rfl
set_option maxRecDepth 100000 in
set_option maxHeartbeats 100000 in
theorem lwp_210_379 {X : Nat × (Nat → Int32)} {d n k : Nat} {x4 : Int32} {v1 : Int32} {v2 : Int32} {c1 c2 : Nat} {st : aSt} : lw X d n (k + 4) 210 (lwL x4 (some (.int v1)) (some (.int v2)) none) ([]) (c1, c2) st = if v1 = 0 then lw X d n (k + 2) 212 (lwL x4 (some (.int v1)) (some (.int v2)) none) ([]) (c1, c2) st else aR X d m_L_law_ n 1561 (lwL x4 none none none) (c1, c2) st := rfl
set_option maxRecDepth 100000 in
set_option maxHeartbeats 100000 in
theorem lwp_212_377 {X : Nat × (Nat → Int32)} {d n k : Nat} {x4 : Int32} {v1 : Int32} {v2 : Int32} {c1 c2 : Nat} {st : aSt} : lw X d n (k + 3) 212 (lwL x4 (some (.int v1)) (some (.int v2)) none) ([]) (c1, c2) st = if (nI 0) < 0 ∨ 1 ≤ (nI 0).toNatClampNeg then none else lw X d n k 215 (lwL x4 (some (.int v1)) (some (.int v2)) none) ([.long (gJ st 158 (nI 0).toNatClampNeg)]) (c1, c2) st := rfl
set_option maxRecDepth 100000 in
set_option maxHeartbeats 100000 in
theorem lwp_215_374 {X : Nat × (Nat → Int32)} {d n k : Nat} {x4 : Int32} {v1 : Int32} {v2 : Int32} {v3 : Int64} {c1 c2 : Nat} {st : aSt} : lw X d n (k + 12) 215 (lwL x4 (some (.int v1)) (some (.int v2)) none) ([.long v3]) (c1, c2) st = if lg_cmp (v3) (v2.toInt64) = 0 then aR X d m_L_law_ n 1561 (lwL x4 none none none) (c1, c2) st else rI (nI 0) st := rfl
set_option maxRecDepth 100000 in
set_option maxHeartbeats 100000 in
theorem lwp_222_400 {X : Nat × (Nat → Int32)} {d n k : Nat} {x4 : Int32}  {c1 c2 : Nat} {st : aSt} : lw X d n (k + 2) 222 (lwL x4 none none none) ([]) (c1, c2) st = if c1 + 0 ≤ 601024 ∧ c2 + 0 ≤ 7293034 then cI (am_call X aP d 108 [.ref 0] st) (fun r1 s1 => lw X d n k 224 (lwL x4 none none none) ([.int r1]) (c1 + 0, c2 + 0) (kp st s1)) (fun e s1 => rX e (kp st s1)) else none := rfl
set_option maxRecDepth 100000 in
set_option maxHeartbeats 100000 in
theorem lwp_224_398 {X : Nat × (Nat → Int32)} {d n k : Nat} {x4 : Int32} {v1 : Int32} {c1 c2 : Nat} {st : aSt} : lw X d n (k + 2) 224 (lwL x4 none none none) ([.int v1]) (c1, c2) st = if c1 + 0 ≤ 601024 ∧ c2 + 0 ≤ 7293034 then cI (am_call X aP d 170 [.ref 132] st) (fun r1 s1 => lw X d n k 226 (lwL x4 none none none) ([.int r1, .int v1]) (c1 + 0, c2 + 0) (kp st s1)) (fun e s1 => rX e (kp st s1)) else none := rfl
set_option maxRecDepth 100000 in
set_option maxHeartbeats 100000 in
theorem lwp_226_396 {X : Nat × (Nat → Int32)} {d n k : Nat} {x4 : Int32} {v1 : Int32} {v2 : Int32} {c1 c2 : Nat} {st : aSt} : lw X d n (k + 12) 226 (lwL x4 none none none) ([.int v2, .int v1]) (c1, c2) st = if v1 = v2 then aR X d m_L_law_ n 1561 (lwL x4 none none none) (c1, c2) st else rI (nI 0) st := rfl
set_option maxRecDepth 100000 in
set_option maxHeartbeats 100000 in
theorem lwp_229_400 {X : Nat × (Nat → Int32)} {d n k : Nat} {x4 : Int32}  {c1 c2 : Nat} {st : aSt} : lw X d n (k + 2) 229 (lwL x4 none none none) ([]) (c1, c2) st = if c1 + 0 ≤ 601024 ∧ c2 + 0 ≤ 7293034 then cI (am_call X aP d 109 [.ref 0] st) (fun r1 s1 => lw X d n k 231 (lwL x4 none none none) ([.int r1]) (c1 + 0, c2 + 0) (kp st s1)) (fun e s1 => rX e (kp st s1)) else none := rfl
set_option maxRecDepth 100000 in
set_option maxHeartbeats 100000 in
theorem lwp_231_398 {X : Nat × (Nat → Int32)} {d n k : Nat} {x4 : Int32} {v1 : Int32} {c1 c2 : Nat} {st : aSt} : lw X d n (k + 2) 231 (lwL x4 none none none) ([.int v1]) (c1, c2) st = if c1 + 0 ≤ 601024 ∧ c2 + 0 ≤ 7293034 then cI (am_call X aP d 212 [.ref 132] st) (fun r1 s1 => lw X d n k 233 (lwL x4 none none none) ([.int r1, .int v1]) (c1 + 0, c2 + 0) (kp st s1)) (fun e s1 => rX e (kp st s1)) else none := rfl
set_option maxRecDepth 100000 in
set_option maxHeartbeats 100000 in
theorem lwp_233_396 {X : Nat × (Nat → Int32)} {d n k : Nat} {x4 : Int32} {v1 : Int32} {v2 : Int32} {c1 c2 : Nat} {st : aSt} : lw X d n (k + 12) 233 (lwL x4 none none none) ([.int v2, .int v1]) (c1, c2) st = if v1 = v2 then aR X d m_L_law_ n 1561 (lwL x4 none none none) (c1, c2) st else rI (nI 0) st := rfl
set_option maxRecDepth 100000 in
set_option maxHeartbeats 100000 in
theorem lwp_236_400 {X : Nat × (Nat → Int32)} {d n k : Nat} {x4 : Int32}  {c1 c2 : Nat} {st : aSt} : lw X d n (k + 6) 236 (lwL x4 none none none) ([]) (c1, c2) st = if (x4 + (nI 1)) < 0 ∨ X.1 ≤ (x4 + (nI 1)).toNatClampNeg then none else lw X d n k 242 (lwL x4 none none none) ([.int (X.2 (x4 + (nI 1)).toNatClampNeg), .ref 0]) (c1, c2) st := rfl
set_option maxRecDepth 100000 in
set_option maxHeartbeats 100000 in
theorem lwp_242_394 {X : Nat × (Nat → Int32)} {d n k : Nat} {x4 : Int32} {v1 : Int32} {c1 c2 : Nat} {st : aSt} : lw X d n (k + 2) 242 (lwL x4 none none none) ([.int v1, .ref 0]) (c1, c2) st = if c1 + 1 ≤ 601024 ∧ c2 + 6 ≤ 7293034 then cI (am_call X aP d 273 [.ref 0, .int v1, .ref 158] st) (fun r1 s1 => lw X d n k 244 (lwL x4 none none none) ([.int r1]) (c1 + 1, c2 + 6) (kp st s1)) (fun e s1 => rX e (kp st s1)) else none := rfl
set_option maxRecDepth 100000 in
set_option maxHeartbeats 100000 in
theorem lwp_244_392 {X : Nat × (Nat → Int32)} {d n k : Nat} {x4 : Int32} {v1 : Int32} {c1 c2 : Nat} {st : aSt} : lw X d n (k + 7) 244 (lwL x4 none none none) ([.int v1]) (c1, c2) st = if (x4 + (nI 1)) < 0 ∨ X.1 ≤ (x4 + (nI 1)).toNatClampNeg then none else lw X d n k 251 (lwL x4 (some (.int v1)) none none) ([.int (X.2 (x4 + (nI 1)).toNatClampNeg), .ref 132]) (c1, c2) st := rfl
set_option maxRecDepth 100000 in
set_option maxHeartbeats 100000 in
theorem lwp_251_385 {X : Nat × (Nat → Int32)} {d n k : Nat} {x4 : Int32} {v1 : Int32} {v2 : Int32} {c1 c2 : Nat} {st : aSt} : lw X d n (k + 1) 251 (lwL x4 (some (.int v1)) none none) ([.int v2, .ref 132]) (c1, c2) st = if c1 + 0 ≤ 601024 ∧ c2 + 0 ≤ 7293034 then cI (am_call X aP d 215 [.ref 132, .int v2] st) (fun r1 s1 => lw X d n k 252 (lwL x4 (some (.int v1)) none none) ([.int r1]) (c1 + 0, c2 + 0) (kp st s1)) (fun e s1 => rX e (kp st s1)) else none := rfl
set_option maxRecDepth 100000 in
set_option maxHeartbeats 100000 in
theorem lwp_252_384 {X : Nat × (Nat → Int32)} {d n k : Nat} {x4 : Int32} {v1 : Int32} {v2 : Int32} {c1 c2 : Nat} {st : aSt} : lw X d n (k + 3) 252 (lwL x4 (some (.int v1)) none none) ([.int v2]) (c1, c2) st = if c1 + 0 ≤ 601024 ∧ c2 + 0 ≤ 7293034 then cI (am_call X aP d 152 [.ref 132] st) (fun r1 s1 => lw X d n k 255 (lwL x4 (some (.int v1)) (some (.int v2)) none) ([.int r1]) (c1 + 0, c2 + 0) (kp st s1)) (fun e s1 => rX e (kp st s1)) else none := rfl
set_option maxRecDepth 100000 in
set_option maxHeartbeats 100000 in
theorem lwp_255_381 {X : Nat × (Nat → Int32)} {d n k : Nat} {x4 : Int32} {v1 : Int32} {v2 : Int32} {v3 : Int32} {c1 c2 : Nat} {st : aSt} : lw X d n (k + 4) 255 (lwL x4 (some (.int v1)) (some (.int v2)) none) ([.int v3]) (c1, c2) st = if v3 = v1 then lw X d n (k + 2) 259 (lwL x4 (some (.int v1)) (some (.int v2)) none) ([]) (c1, c2) st else rI (nI 0) st := rfl
set_option maxRecDepth 100000 in
set_option maxHeartbeats 100000 in
theorem lwp_259_379 {X : Nat × (Nat → Int32)} {d n k : Nat} {x4 : Int32} {v1 : Int32} {v2 : Int32} {c1 c2 : Nat} {st : aSt} : lw X d n (k + 4) 259 (lwL x4 (some (.int v1)) (some (.int v2)) none) ([]) (c1, c2) st = if v1 = 0 then lw X d n (k + 2) 261 (lwL x4 (some (.int v1)) (some (.int v2)) none) ([]) (c1, c2) st else aR X d m_L_law_ n 1561 (lwL x4 none none none) (c1, c2) st := rfl
set_option maxRecDepth 100000 in
set_option maxHeartbeats 100000 in
theorem lwp_261_377 {X : Nat × (Nat → Int32)} {d n k : Nat} {x4 : Int32} {v1 : Int32} {v2 : Int32} {c1 c2 : Nat} {st : aSt} : lw X d n (k + 3) 261 (lwL x4 (some (.int v1)) (some (.int v2)) none) ([]) (c1, c2) st = if (nI 0) < 0 ∨ 1 ≤ (nI 0).toNatClampNeg then none else lw X d n k 264 (lwL x4 (some (.int v1)) (some (.int v2)) none) ([.long (gJ st 158 (nI 0).toNatClampNeg)]) (c1, c2) st := rfl
set_option maxRecDepth 100000 in
set_option maxHeartbeats 100000 in
theorem lwp_264_374 {X : Nat × (Nat → Int32)} {d n k : Nat} {x4 : Int32} {v1 : Int32} {v2 : Int32} {v3 : Int64} {c1 c2 : Nat} {st : aSt} : lw X d n (k + 12) 264 (lwL x4 (some (.int v1)) (some (.int v2)) none) ([.long v3]) (c1, c2) st = if lg_cmp (v3) (v2.toInt64) = 0 then aR X d m_L_law_ n 1561 (lwL x4 none none none) (c1, c2) st else rI (nI 0) st := rfl
set_option maxRecDepth 100000 in
set_option maxHeartbeats 100000 in
theorem lwp_271_400 {X : Nat × (Nat → Int32)} {d n k : Nat} {x4 : Int32}  {c1 c2 : Nat} {st : aSt} : lw X d n (k + 6) 271 (lwL x4 none none none) ([]) (c1, c2) st = if (x4 + (nI 1)) < 0 ∨ X.1 ≤ (x4 + (nI 1)).toNatClampNeg then none else lw X d n k 277 (lwL x4 none none none) ([.int (X.2 (x4 + (nI 1)).toNatClampNeg), .ref 0]) (c1, c2) st := rfl
set_option maxRecDepth 100000 in
set_option maxHeartbeats 100000 in
theorem lwp_277_394 {X : Nat × (Nat → Int32)} {d n k : Nat} {x4 : Int32} {v1 : Int32} {c1 c2 : Nat} {st : aSt} : lw X d n (k + 5) 277 (lwL x4 none none none) ([.int v1, .ref 0]) (c1, c2) st = if (x4 + (nI 2)) < 0 ∨ X.1 ≤ (x4 + (nI 2)).toNatClampNeg then none else lw X d n k 282 (lwL x4 none none none) ([.int (X.2 (x4 + (nI 2)).toNatClampNeg), .int v1, .ref 0]) (c1, c2) st := rfl
set_option maxRecDepth 100000 in
set_option maxHeartbeats 100000 in
theorem lwp_282_389 {X : Nat × (Nat → Int32)} {d n k : Nat} {x4 : Int32} {v1 : Int32} {v2 : Int32} {c1 c2 : Nat} {st : aSt} : lw X d n (k + 2) 282 (lwL x4 none none none) ([.int v2, .int v1, .ref 0]) (c1, c2) st = if c1 + 2 ≤ 601024 ∧ c2 + 12 ≤ 7293034 then cI (am_call X aP d 274 [.ref 0, .int v1, .int v2, .ref 158] st) (fun r1 s1 => lw X d n k 284 (lwL x4 none none none) ([.int r1]) (c1 + 2, c2 + 12) (kp st s1)) (fun e s1 => rX e (kp st s1)) else none := rfl
set_option maxRecDepth 100000 in
set_option maxHeartbeats 100000 in
theorem lwp_284_387 {X : Nat × (Nat → Int32)} {d n k : Nat} {x4 : Int32} {v1 : Int32} {c1 c2 : Nat} {st : aSt} : lw X d n (k + 7) 284 (lwL x4 none none none) ([.int v1]) (c1, c2) st = if (x4 + (nI 1)) < 0 ∨ X.1 ≤ (x4 + (nI 1)).toNatClampNeg then none else lw X d n k 291 (lwL x4 (some (.int v1)) none none) ([.int (X.2 (x4 + (nI 1)).toNatClampNeg), .ref 132]) (c1, c2) st := rfl
set_option maxRecDepth 100000 in
set_option maxHeartbeats 100000 in
theorem lwp_291_380 {X : Nat × (Nat → Int32)} {d n k : Nat} {x4 : Int32} {v1 : Int32} {v2 : Int32} {c1 c2 : Nat} {st : aSt} : lw X d n (k + 5) 291 (lwL x4 (some (.int v1)) none none) ([.int v2, .ref 132]) (c1, c2) st = if (x4 + (nI 2)) < 0 ∨ X.1 ≤ (x4 + (nI 2)).toNatClampNeg then none else lw X d n k 296 (lwL x4 (some (.int v1)) none none) ([.int (X.2 (x4 + (nI 2)).toNatClampNeg), .int v2, .ref 132]) (c1, c2) st := rfl
set_option maxRecDepth 100000 in
set_option maxHeartbeats 100000 in
theorem lwp_296_375 {X : Nat × (Nat → Int32)} {d n k : Nat} {x4 : Int32} {v1 : Int32} {v2 : Int32} {v3 : Int32} {c1 c2 : Nat} {st : aSt} : lw X d n (k + 1) 296 (lwL x4 (some (.int v1)) none none) ([.int v3, .int v2, .ref 132]) (c1, c2) st = if c1 + 0 ≤ 601024 ∧ c2 + 0 ≤ 7293034 then cI (am_call X aP d 219 [.ref 132, .int v2, .int v3] st) (fun r1 s1 => lw X d n k 297 (lwL x4 (some (.int v1)) none none) ([.int r1]) (c1 + 0, c2 + 0) (kp st s1)) (fun e s1 => rX e (kp st s1)) else none := rfl
set_option maxRecDepth 100000 in
set_option maxHeartbeats 100000 in
theorem lwp_297_374 {X : Nat × (Nat → Int32)} {d n k : Nat} {x4 : Int32} {v1 : Int32} {v2 : Int32} {c1 c2 : Nat} {st : aSt} : lw X d n (k + 3) 297 (lwL x4 (some (.int v1)) none none) ([.int v2]) (c1, c2) st = if c1 + 0 ≤ 601024 ∧ c2 + 0 ≤ 7293034 then cI (am_call X aP d 152 [.ref 132] st) (fun r1 s1 => lw X d n k 300 (lwL x4 (some (.int v1)) (some (.int v2)) none) ([.int r1]) (c1 + 0, c2 + 0) (kp st s1)) (fun e s1 => rX e (kp st s1)) else none := rfl
set_option maxRecDepth 100000 in
set_option maxHeartbeats 100000 in
theorem lwp_300_371 {X : Nat × (Nat → Int32)} {d n k : Nat} {x4 : Int32} {v1 : Int32} {v2 : Int32} {v3 : Int32} {c1 c2 : Nat} {st : aSt} : lw X d n (k + 4) 300 (lwL x4 (some (.int v1)) (some (.int v2)) none) ([.int v3]) (c1, c2) st = if v3 = v1 then lw X d n (k + 2) 304 (lwL x4 (some (.int v1)) (some (.int v2)) none) ([]) (c1, c2) st else rI (nI 0) st := rfl
set_option maxRecDepth 100000 in
set_option maxHeartbeats 100000 in
theorem lwp_304_369 {X : Nat × (Nat → Int32)} {d n k : Nat} {x4 : Int32} {v1 : Int32} {v2 : Int32} {c1 c2 : Nat} {st : aSt} : lw X d n (k + 4) 304 (lwL x4 (some (.int v1)) (some (.int v2)) none) ([]) (c1, c2) st = if v1 = 0 then lw X d n (k + 2) 306 (lwL x4 (some (.int v1)) (some (.int v2)) none) ([]) (c1, c2) st else aR X d m_L_law_ n 1561 (lwL x4 none none none) (c1, c2) st := rfl
set_option maxRecDepth 100000 in
set_option maxHeartbeats 100000 in
theorem lwp_306_367 {X : Nat × (Nat → Int32)} {d n k : Nat} {x4 : Int32} {v1 : Int32} {v2 : Int32} {c1 c2 : Nat} {st : aSt} : lw X d n (k + 3) 306 (lwL x4 (some (.int v1)) (some (.int v2)) none) ([]) (c1, c2) st = if (nI 0) < 0 ∨ 1 ≤ (nI 0).toNatClampNeg then none else lw X d n k 309 (lwL x4 (some (.int v1)) (some (.int v2)) none) ([.long (gJ st 158 (nI 0).toNatClampNeg)]) (c1, c2) st := rfl
set_option maxRecDepth 100000 in
set_option maxHeartbeats 100000 in
theorem lwp_309_364 {X : Nat × (Nat → Int32)} {d n k : Nat} {x4 : Int32} {v1 : Int32} {v2 : Int32} {v3 : Int64} {c1 c2 : Nat} {st : aSt} : lw X d n (k + 12) 309 (lwL x4 (some (.int v1)) (some (.int v2)) none) ([.long v3]) (c1, c2) st = if lg_cmp (v3) (v2.toInt64) = 0 then aR X d m_L_law_ n 1561 (lwL x4 none none none) (c1, c2) st else rI (nI 0) st := rfl
set_option maxRecDepth 100000 in
set_option maxHeartbeats 100000 in
theorem lwp_316_400 {X : Nat × (Nat → Int32)} {d n k : Nat} {x4 : Int32}  {c1 c2 : Nat} {st : aSt} : lw X d n (k + 6) 316 (lwL x4 none none none) ([]) (c1, c2) st = if (x4 + (nI 1)) < 0 ∨ X.1 ≤ (x4 + (nI 1)).toNatClampNeg then none else lw X d n k 322 (lwL x4 none none none) ([.int (X.2 (x4 + (nI 1)).toNatClampNeg), .ref 0]) (c1, c2) st := rfl
set_option maxRecDepth 100000 in
set_option maxHeartbeats 100000 in
theorem lwp_322_394 {X : Nat × (Nat → Int32)} {d n k : Nat} {x4 : Int32} {v1 : Int32} {c1 c2 : Nat} {st : aSt} : lw X d n (k + 5) 322 (lwL x4 none none none) ([.int v1, .ref 0]) (c1, c2) st = if (x4 + (nI 2)) < 0 ∨ X.1 ≤ (x4 + (nI 2)).toNatClampNeg then none else lw X d n k 327 (lwL x4 none none none) ([.int (X.2 (x4 + (nI 2)).toNatClampNeg), .int v1, .ref 0]) (c1, c2) st := rfl
set_option maxRecDepth 100000 in
set_option maxHeartbeats 100000 in
theorem lwp_327_389 {X : Nat × (Nat → Int32)} {d n k : Nat} {x4 : Int32} {v1 : Int32} {v2 : Int32} {c1 c2 : Nat} {st : aSt} : lw X d n (k + 2) 327 (lwL x4 none none none) ([.int v2, .int v1, .ref 0]) (c1, c2) st = if c1 + 2 ≤ 601024 ∧ c2 + 12 ≤ 7293034 then cI (am_call X aP d 275 [.ref 0, .int v1, .int v2, .ref 158] st) (fun r1 s1 => lw X d n k 329 (lwL x4 none none none) ([.int r1]) (c1 + 2, c2 + 12) (kp st s1)) (fun e s1 => rX e (kp st s1)) else none := rfl
set_option maxRecDepth 100000 in
set_option maxHeartbeats 100000 in
theorem lwp_329_387 {X : Nat × (Nat → Int32)} {d n k : Nat} {x4 : Int32} {v1 : Int32} {c1 c2 : Nat} {st : aSt} : lw X d n (k + 7) 329 (lwL x4 none none none) ([.int v1]) (c1, c2) st = if (x4 + (nI 1)) < 0 ∨ X.1 ≤ (x4 + (nI 1)).toNatClampNeg then none else lw X d n k 336 (lwL x4 (some (.int v1)) none none) ([.int (X.2 (x4 + (nI 1)).toNatClampNeg), .ref 132]) (c1, c2) st := rfl
set_option maxRecDepth 100000 in
set_option maxHeartbeats 100000 in
theorem lwp_336_380 {X : Nat × (Nat → Int32)} {d n k : Nat} {x4 : Int32} {v1 : Int32} {v2 : Int32} {c1 c2 : Nat} {st : aSt} : lw X d n (k + 5) 336 (lwL x4 (some (.int v1)) none none) ([.int v2, .ref 132]) (c1, c2) st = if (x4 + (nI 2)) < 0 ∨ X.1 ≤ (x4 + (nI 2)).toNatClampNeg then none else lw X d n k 341 (lwL x4 (some (.int v1)) none none) ([.int (X.2 (x4 + (nI 2)).toNatClampNeg), .int v2, .ref 132]) (c1, c2) st := rfl
set_option maxRecDepth 100000 in
set_option maxHeartbeats 100000 in
theorem lwp_341_375 {X : Nat × (Nat → Int32)} {d n k : Nat} {x4 : Int32} {v1 : Int32} {v2 : Int32} {v3 : Int32} {c1 c2 : Nat} {st : aSt} : lw X d n (k + 1) 341 (lwL x4 (some (.int v1)) none none) ([.int v3, .int v2, .ref 132]) (c1, c2) st = if c1 + 0 ≤ 601024 ∧ c2 + 0 ≤ 7293034 then cI (am_call X aP d 220 [.ref 132, .int v2, .int v3] st) (fun r1 s1 => lw X d n k 342 (lwL x4 (some (.int v1)) none none) ([.int r1]) (c1 + 0, c2 + 0) (kp st s1)) (fun e s1 => rX e (kp st s1)) else none := rfl
set_option maxRecDepth 100000 in
set_option maxHeartbeats 100000 in
theorem lwp_342_374 {X : Nat × (Nat → Int32)} {d n k : Nat} {x4 : Int32} {v1 : Int32} {v2 : Int32} {c1 c2 : Nat} {st : aSt} : lw X d n (k + 3) 342 (lwL x4 (some (.int v1)) none none) ([.int v2]) (c1, c2) st = if c1 + 0 ≤ 601024 ∧ c2 + 0 ≤ 7293034 then cI (am_call X aP d 152 [.ref 132] st) (fun r1 s1 => lw X d n k 345 (lwL x4 (some (.int v1)) (some (.int v2)) none) ([.int r1]) (c1 + 0, c2 + 0) (kp st s1)) (fun e s1 => rX e (kp st s1)) else none := rfl
set_option maxRecDepth 100000 in
set_option maxHeartbeats 100000 in
theorem lwp_345_371 {X : Nat × (Nat → Int32)} {d n k : Nat} {x4 : Int32} {v1 : Int32} {v2 : Int32} {v3 : Int32} {c1 c2 : Nat} {st : aSt} : lw X d n (k + 4) 345 (lwL x4 (some (.int v1)) (some (.int v2)) none) ([.int v3]) (c1, c2) st = if v3 = v1 then lw X d n (k + 2) 349 (lwL x4 (some (.int v1)) (some (.int v2)) none) ([]) (c1, c2) st else rI (nI 0) st := rfl
set_option maxRecDepth 100000 in
set_option maxHeartbeats 100000 in
theorem lwp_349_369 {X : Nat × (Nat → Int32)} {d n k : Nat} {x4 : Int32} {v1 : Int32} {v2 : Int32} {c1 c2 : Nat} {st : aSt} : lw X d n (k + 4) 349 (lwL x4 (some (.int v1)) (some (.int v2)) none) ([]) (c1, c2) st = if v1 = 0 then lw X d n (k + 2) 351 (lwL x4 (some (.int v1)) (some (.int v2)) none) ([]) (c1, c2) st else aR X d m_L_law_ n 1561 (lwL x4 none none none) (c1, c2) st := rfl
set_option maxRecDepth 100000 in
set_option maxHeartbeats 100000 in
theorem lwp_351_367 {X : Nat × (Nat → Int32)} {d n k : Nat} {x4 : Int32} {v1 : Int32} {v2 : Int32} {c1 c2 : Nat} {st : aSt} : lw X d n (k + 3) 351 (lwL x4 (some (.int v1)) (some (.int v2)) none) ([]) (c1, c2) st = if (nI 0) < 0 ∨ 1 ≤ (nI 0).toNatClampNeg then none else lw X d n k 354 (lwL x4 (some (.int v1)) (some (.int v2)) none) ([.long (gJ st 158 (nI 0).toNatClampNeg)]) (c1, c2) st := rfl
set_option maxRecDepth 100000 in
set_option maxHeartbeats 100000 in
theorem lwp_354_364 {X : Nat × (Nat → Int32)} {d n k : Nat} {x4 : Int32} {v1 : Int32} {v2 : Int32} {v3 : Int64} {c1 c2 : Nat} {st : aSt} : lw X d n (k + 12) 354 (lwL x4 (some (.int v1)) (some (.int v2)) none) ([.long v3]) (c1, c2) st = if lg_cmp (v3) (v2.toInt64) = 0 then aR X d m_L_law_ n 1561 (lwL x4 none none none) (c1, c2) st else rI (nI 0) st := rfl
set_option maxRecDepth 100000 in
set_option maxHeartbeats 100000 in
theorem lwp_361_400 {X : Nat × (Nat → Int32)} {d n k : Nat} {x4 : Int32}  {c1 c2 : Nat} {st : aSt} : lw X d n (k + 6) 361 (lwL x4 none none none) ([]) (c1, c2) st = if (x4 + (nI 1)) < 0 ∨ X.1 ≤ (x4 + (nI 1)).toNatClampNeg then none else lw X d n k 367 (lwL x4 none none none) ([.int (X.2 (x4 + (nI 1)).toNatClampNeg), .ref 0]) (c1, c2) st := rfl
set_option maxRecDepth 100000 in
set_option maxHeartbeats 100000 in
theorem lwp_367_394 {X : Nat × (Nat → Int32)} {d n k : Nat} {x4 : Int32} {v1 : Int32} {c1 c2 : Nat} {st : aSt} : lw X d n (k + 5) 367 (lwL x4 none none none) ([.int v1, .ref 0]) (c1, c2) st = if (x4 + (nI 2)) < 0 ∨ X.1 ≤ (x4 + (nI 2)).toNatClampNeg then none else lw X d n k 372 (lwL x4 none none none) ([.int (X.2 (x4 + (nI 2)).toNatClampNeg), .int v1, .ref 0]) (c1, c2) st := rfl
set_option maxRecDepth 100000 in
set_option maxHeartbeats 100000 in
theorem lwp_372_389 {X : Nat × (Nat → Int32)} {d n k : Nat} {x4 : Int32} {v1 : Int32} {v2 : Int32} {c1 c2 : Nat} {st : aSt} : lw X d n (k + 2) 372 (lwL x4 none none none) ([.int v2, .int v1, .ref 0]) (c1, c2) st = if c1 + 2 ≤ 601024 ∧ c2 + 12 ≤ 7293034 then cI (am_call X aP d 276 [.ref 0, .int v1, .int v2, .ref 158] st) (fun r1 s1 => lw X d n k 374 (lwL x4 none none none) ([.int r1]) (c1 + 2, c2 + 12) (kp st s1)) (fun e s1 => rX e (kp st s1)) else none := rfl
set_option maxRecDepth 100000 in
set_option maxHeartbeats 100000 in
theorem lwp_374_387 {X : Nat × (Nat → Int32)} {d n k : Nat} {x4 : Int32} {v1 : Int32} {c1 c2 : Nat} {st : aSt} : lw X d n (k + 7) 374 (lwL x4 none none none) ([.int v1]) (c1, c2) st = if (x4 + (nI 1)) < 0 ∨ X.1 ≤ (x4 + (nI 1)).toNatClampNeg then none else lw X d n k 381 (lwL x4 (some (.int v1)) none none) ([.int (X.2 (x4 + (nI 1)).toNatClampNeg), .ref 132]) (c1, c2) st := rfl
set_option maxRecDepth 100000 in
set_option maxHeartbeats 100000 in
theorem lwp_381_380 {X : Nat × (Nat → Int32)} {d n k : Nat} {x4 : Int32} {v1 : Int32} {v2 : Int32} {c1 c2 : Nat} {st : aSt} : lw X d n (k + 5) 381 (lwL x4 (some (.int v1)) none none) ([.int v2, .ref 132]) (c1, c2) st = if (x4 + (nI 2)) < 0 ∨ X.1 ≤ (x4 + (nI 2)).toNatClampNeg then none else lw X d n k 386 (lwL x4 (some (.int v1)) none none) ([.int (X.2 (x4 + (nI 2)).toNatClampNeg), .int v2, .ref 132]) (c1, c2) st := rfl
set_option maxRecDepth 100000 in
set_option maxHeartbeats 100000 in
theorem lwp_386_375 {X : Nat × (Nat → Int32)} {d n k : Nat} {x4 : Int32} {v1 : Int32} {v2 : Int32} {v3 : Int32} {c1 c2 : Nat} {st : aSt} : lw X d n (k + 1) 386 (lwL x4 (some (.int v1)) none none) ([.int v3, .int v2, .ref 132]) (c1, c2) st = if c1 + 0 ≤ 601024 ∧ c2 + 0 ≤ 7293034 then cI (am_call X aP d 221 [.ref 132, .int v2, .int v3] st) (fun r1 s1 => lw X d n k 387 (lwL x4 (some (.int v1)) none none) ([.int r1]) (c1 + 0, c2 + 0) (kp st s1)) (fun e s1 => rX e (kp st s1)) else none := rfl
set_option maxRecDepth 100000 in
set_option maxHeartbeats 100000 in
theorem lwp_387_374 {X : Nat × (Nat → Int32)} {d n k : Nat} {x4 : Int32} {v1 : Int32} {v2 : Int32} {c1 c2 : Nat} {st : aSt} : lw X d n (k + 3) 387 (lwL x4 (some (.int v1)) none none) ([.int v2]) (c1, c2) st = if c1 + 0 ≤ 601024 ∧ c2 + 0 ≤ 7293034 then cI (am_call X aP d 152 [.ref 132] st) (fun r1 s1 => lw X d n k 390 (lwL x4 (some (.int v1)) (some (.int v2)) none) ([.int r1]) (c1 + 0, c2 + 0) (kp st s1)) (fun e s1 => rX e (kp st s1)) else none := rfl
set_option maxRecDepth 100000 in
set_option maxHeartbeats 100000 in
theorem lwp_390_371 {X : Nat × (Nat → Int32)} {d n k : Nat} {x4 : Int32} {v1 : Int32} {v2 : Int32} {v3 : Int32} {c1 c2 : Nat} {st : aSt} : lw X d n (k + 4) 390 (lwL x4 (some (.int v1)) (some (.int v2)) none) ([.int v3]) (c1, c2) st = if v3 = v1 then lw X d n (k + 2) 394 (lwL x4 (some (.int v1)) (some (.int v2)) none) ([]) (c1, c2) st else rI (nI 0) st := rfl
set_option maxRecDepth 100000 in
set_option maxHeartbeats 100000 in
theorem lwp_394_369 {X : Nat × (Nat → Int32)} {d n k : Nat} {x4 : Int32} {v1 : Int32} {v2 : Int32} {c1 c2 : Nat} {st : aSt} : lw X d n (k + 4) 394 (lwL x4 (some (.int v1)) (some (.int v2)) none) ([]) (c1, c2) st = if v1 = 0 then lw X d n (k + 2) 396 (lwL x4 (some (.int v1)) (some (.int v2)) none) ([]) (c1, c2) st else aR X d m_L_law_ n 1561 (lwL x4 none none none) (c1, c2) st := rfl
