/-! more pieces -/
set_option maxRecDepth 100000 in
set_option maxHeartbeats 100000 in
theorem lwp_396_367 {X : Nat × (Nat → Int32)} {d n k : Nat} {x4 : Int32} {v1 : Int32} {v2 : Int32} {c1 c2 : Nat} {st : aSt} : lw X d n (k + 3) 396 (lwL x4 (some (.int v1)) (some (.int v2)) none) ([]) (c1, c2) st = if (nI 0) < 0 ∨ 1 ≤ (nI 0).toNatClampNeg then none else lw X d n k 399 (lwL x4 (some (.int v1)) (some (.int v2)) none) ([.long (gJ st 158 (nI 0).toNatClampNeg)]) (c1, c2) st := rfl
set_option maxRecDepth 100000 in
set_option maxHeartbeats 100000 in
theorem lwp_399_364 {X : Nat × (Nat → Int32)} {d n k : Nat} {x4 : Int32} {v1 : Int32} {v2 : Int32} {v3 : Int64} {c1 c2 : Nat} {st : aSt} : lw X d n (k + 12) 399 (lwL x4 (some (.int v1)) (some (.int v2)) none) ([.long v3]) (c1, c2) st = if lg_cmp (v3) (v2.toInt64) = 0 then aR X d m_L_law_ n 1561 (lwL x4 none none none) (c1, c2) st else rI (nI 0) st := rfl
set_option maxRecDepth 100000 in
set_option maxHeartbeats 100000 in
theorem lwp_406_400 {X : Nat × (Nat → Int32)} {d n k : Nat} {x4 : Int32}  {c1 c2 : Nat} {st : aSt} : lw X d n (k + 6) 406 (lwL x4 none none none) ([]) (c1, c2) st = if (x4 + (nI 1)) < 0 ∨ X.1 ≤ (x4 + (nI 1)).toNatClampNeg then none else lw X d n k 412 (lwL x4 none none none) ([.int (X.2 (x4 + (nI 1)).toNatClampNeg), .ref 0]) (c1, c2) st := rfl
set_option maxRecDepth 100000 in
set_option maxHeartbeats 100000 in
theorem lwp_412_394 {X : Nat × (Nat → Int32)} {d n k : Nat} {x4 : Int32} {v1 : Int32} {c1 c2 : Nat} {st : aSt} : lw X d n (k + 5) 412 (lwL x4 none none none) ([.int v1, .ref 0]) (c1, c2) st = if (x4 + (nI 2)) < 0 ∨ X.1 ≤ (x4 + (nI 2)).toNatClampNeg then none else lw X d n k 417 (lwL x4 none none none) ([.int (X.2 (x4 + (nI 2)).toNatClampNeg), .int v1, .ref 0]) (c1, c2) st := rfl
set_option maxRecDepth 100000 in
set_option maxHeartbeats 100000 in
theorem lwp_417_389 {X : Nat × (Nat → Int32)} {d n k : Nat} {x4 : Int32} {v1 : Int32} {v2 : Int32} {c1 c2 : Nat} {st : aSt} : lw X d n (k + 5) 417 (lwL x4 none none none) ([.int v2, .int v1, .ref 0]) (c1, c2) st = if (x4 + (nI 3)) < 0 ∨ X.1 ≤ (x4 + (nI 3)).toNatClampNeg then none else lw X d n k 422 (lwL x4 none none none) ([.int (X.2 (x4 + (nI 3)).toNatClampNeg), .int v2, .int v1, .ref 0]) (c1, c2) st := rfl
set_option maxRecDepth 100000 in
set_option maxHeartbeats 100000 in
theorem lwp_422_384 {X : Nat × (Nat → Int32)} {d n k : Nat} {x4 : Int32} {v1 : Int32} {v2 : Int32} {v3 : Int32} {c1 c2 : Nat} {st : aSt} : lw X d n (k + 5) 422 (lwL x4 none none none) ([.int v3, .int v2, .int v1, .ref 0]) (c1, c2) st = if (x4 + (nI 4)) < 0 ∨ X.1 ≤ (x4 + (nI 4)).toNatClampNeg then none else lw X d n k 427 (lwL x4 none none none) ([.int (X.2 (x4 + (nI 4)).toNatClampNeg), .int v3, .int v2, .int v1, .ref 0]) (c1, c2) st := rfl
set_option maxRecDepth 100000 in
set_option maxHeartbeats 100000 in
theorem lwp_427_379 {X : Nat × (Nat → Int32)} {d n k : Nat} {x4 : Int32} {v1 : Int32} {v2 : Int32} {v3 : Int32} {v4 : Int32} {c1 c2 : Nat} {st : aSt} : lw X d n (k + 5) 427 (lwL x4 none none none) ([.int v4, .int v3, .int v2, .int v1, .ref 0]) (c1, c2) st = if (x4 + (nI 5)) < 0 ∨ X.1 ≤ (x4 + (nI 5)).toNatClampNeg then none else lw X d n k 432 (lwL x4 none none none) ([.int (X.2 (x4 + (nI 5)).toNatClampNeg), .int v4, .int v3, .int v2, .int v1, .ref 0]) (c1, c2) st := rfl
set_option maxRecDepth 100000 in
set_option maxHeartbeats 100000 in
theorem lwp_432_374 {X : Nat × (Nat → Int32)} {d n k : Nat} {x4 : Int32} {v1 : Int32} {v2 : Int32} {v3 : Int32} {v4 : Int32} {v5 : Int32} {c1 c2 : Nat} {st : aSt} : lw X d n (k + 5) 432 (lwL x4 none none none) ([.int v5, .int v4, .int v3, .int v2, .int v1, .ref 0]) (c1, c2) st = if (x4 + (nI 6)) < 0 ∨ X.1 ≤ (x4 + (nI 6)).toNatClampNeg then none else lw X d n k 437 (lwL x4 none none none) ([.int (X.2 (x4 + (nI 6)).toNatClampNeg), .int v5, .int v4, .int v3, .int v2, .int v1, .ref 0]) (c1, c2) st := rfl
set_option maxRecDepth 100000 in
set_option maxHeartbeats 100000 in
theorem lwp_437_369 {X : Nat × (Nat → Int32)} {d n k : Nat} {x4 : Int32} {v1 : Int32} {v2 : Int32} {v3 : Int32} {v4 : Int32} {v5 : Int32} {v6 : Int32} {c1 c2 : Nat} {st : aSt} : lw X d n (k + 5) 437 (lwL x4 none none none) ([.int v6, .int v5, .int v4, .int v3, .int v2, .int v1, .ref 0]) (c1, c2) st = if (x4 + (nI 7)) < 0 ∨ X.1 ≤ (x4 + (nI 7)).toNatClampNeg then none else lw X d n k 442 (lwL x4 none none none) ([.int (X.2 (x4 + (nI 7)).toNatClampNeg), .int v6, .int v5, .int v4, .int v3, .int v2, .int v1, .ref 0]) (c1, c2) st := rfl
set_option maxRecDepth 100000 in
set_option maxHeartbeats 100000 in
theorem lwp_442_364 {X : Nat × (Nat → Int32)} {d n k : Nat} {x4 : Int32} {v1 : Int32} {v2 : Int32} {v3 : Int32} {v4 : Int32} {v5 : Int32} {v6 : Int32} {v7 : Int32} {c1 c2 : Nat} {st : aSt} : lw X d n (k + 5) 442 (lwL x4 none none none) ([.int v7, .int v6, .int v5, .int v4, .int v3, .int v2, .int v1, .ref 0]) (c1, c2) st = if (x4 + (nI 8)) < 0 ∨ X.1 ≤ (x4 + (nI 8)).toNatClampNeg then none else lw X d n k 447 (lwL x4 none none none) ([.int (X.2 (x4 + (nI 8)).toNatClampNeg), .int v7, .int v6, .int v5, .int v4, .int v3, .int v2, .int v1, .ref 0]) (c1, c2) st := rfl
set_option maxRecDepth 100000 in
set_option maxHeartbeats 100000 in
theorem lwp_447_359 {X : Nat × (Nat → Int32)} {d n k : Nat} {x4 : Int32} {v1 : Int32} {v2 : Int32} {v3 : Int32} {v4 : Int32} {v5 : Int32} {v6 : Int32} {v7 : Int32} {v8 : Int32} {c1 c2 : Nat} {st : aSt} : lw X d n (k + 2) 447 (lwL x4 none none none) ([.int v8, .int v7, .int v6, .int v5, .int v4, .int v3, .int v2, .int v1, .ref 0]) (c1, c2) st = if c1 + 4 ≤ 601024 ∧ c2 + 24 ≤ 7293034 then cI (am_call X aP d 277 [.ref 0, .int v1, .int v2, .int v3, .int v4, .int v5, .int v6, .int v7, .int v8, .ref 158] st) (fun r1 s1 => lw X d n k 449 (lwL x4 none none none) ([.int r1]) (c1 + 4, c2 + 24) (kp st s1)) (fun e s1 => rX e (kp st s1)) else none := rfl
set_option maxRecDepth 100000 in
set_option maxHeartbeats 100000 in
theorem lwp_449_357 {X : Nat × (Nat → Int32)} {d n k : Nat} {x4 : Int32} {v1 : Int32} {c1 c2 : Nat} {st : aSt} : lw X d n (k + 7) 449 (lwL x4 none none none) ([.int v1]) (c1, c2) st = if (x4 + (nI 1)) < 0 ∨ X.1 ≤ (x4 + (nI 1)).toNatClampNeg then none else lw X d n k 456 (lwL x4 (some (.int v1)) none none) ([.int (X.2 (x4 + (nI 1)).toNatClampNeg), .ref 132]) (c1, c2) st := rfl
set_option maxRecDepth 100000 in
set_option maxHeartbeats 100000 in
theorem lwp_456_350 {X : Nat × (Nat → Int32)} {d n k : Nat} {x4 : Int32} {v1 : Int32} {v2 : Int32} {c1 c2 : Nat} {st : aSt} : lw X d n (k + 5) 456 (lwL x4 (some (.int v1)) none none) ([.int v2, .ref 132]) (c1, c2) st = if (x4 + (nI 2)) < 0 ∨ X.1 ≤ (x4 + (nI 2)).toNatClampNeg then none else lw X d n k 461 (lwL x4 (some (.int v1)) none none) ([.int (X.2 (x4 + (nI 2)).toNatClampNeg), .int v2, .ref 132]) (c1, c2) st := rfl
set_option maxRecDepth 100000 in
set_option maxHeartbeats 100000 in
theorem lwp_461_345 {X : Nat × (Nat → Int32)} {d n k : Nat} {x4 : Int32} {v1 : Int32} {v2 : Int32} {v3 : Int32} {c1 c2 : Nat} {st : aSt} : lw X d n (k + 5) 461 (lwL x4 (some (.int v1)) none none) ([.int v3, .int v2, .ref 132]) (c1, c2) st = if (x4 + (nI 3)) < 0 ∨ X.1 ≤ (x4 + (nI 3)).toNatClampNeg then none else lw X d n k 466 (lwL x4 (some (.int v1)) none none) ([.int (X.2 (x4 + (nI 3)).toNatClampNeg), .int v3, .int v2, .ref 132]) (c1, c2) st := rfl
set_option maxRecDepth 100000 in
set_option maxHeartbeats 100000 in
theorem lwp_466_340 {X : Nat × (Nat → Int32)} {d n k : Nat} {x4 : Int32} {v1 : Int32} {v2 : Int32} {v3 : Int32} {v4 : Int32} {c1 c2 : Nat} {st : aSt} : lw X d n (k + 5) 466 (lwL x4 (some (.int v1)) none none) ([.int v4, .int v3, .int v2, .ref 132]) (c1, c2) st = if (x4 + (nI 4)) < 0 ∨ X.1 ≤ (x4 + (nI 4)).toNatClampNeg then none else lw X d n k 471 (lwL x4 (some (.int v1)) none none) ([.int (X.2 (x4 + (nI 4)).toNatClampNeg), .int v4, .int v3, .int v2, .ref 132]) (c1, c2) st := rfl
set_option maxRecDepth 100000 in
set_option maxHeartbeats 100000 in
theorem lwp_471_335 {X : Nat × (Nat → Int32)} {d n k : Nat} {x4 : Int32} {v1 : Int32} {v2 : Int32} {v3 : Int32} {v4 : Int32} {v5 : Int32} {c1 c2 : Nat} {st : aSt} : lw X d n (k + 5) 471 (lwL x4 (some (.int v1)) none none) ([.int v5, .int v4, .int v3, .int v2, .ref 132]) (c1, c2) st = if (x4 + (nI 5)) < 0 ∨ X.1 ≤ (x4 + (nI 5)).toNatClampNeg then none else lw X d n k 476 (lwL x4 (some (.int v1)) none none) ([.int (X.2 (x4 + (nI 5)).toNatClampNeg), .int v5, .int v4, .int v3, .int v2, .ref 132]) (c1, c2) st := rfl
set_option maxRecDepth 100000 in
set_option maxHeartbeats 100000 in
theorem lwp_476_330 {X : Nat × (Nat → Int32)} {d n k : Nat} {x4 : Int32} {v1 : Int32} {v2 : Int32} {v3 : Int32} {v4 : Int32} {v5 : Int32} {v6 : Int32} {c1 c2 : Nat} {st : aSt} : lw X d n (k + 5) 476 (lwL x4 (some (.int v1)) none none) ([.int v6, .int v5, .int v4, .int v3, .int v2, .ref 132]) (c1, c2) st = if (x4 + (nI 6)) < 0 ∨ X.1 ≤ (x4 + (nI 6)).toNatClampNeg then none else lw X d n k 481 (lwL x4 (some (.int v1)) none none) ([.int (X.2 (x4 + (nI 6)).toNatClampNeg), .int v6, .int v5, .int v4, .int v3, .int v2, .ref 132]) (c1, c2) st := rfl
set_option maxRecDepth 100000 in
set_option maxHeartbeats 100000 in
theorem lwp_481_325 {X : Nat × (Nat → Int32)} {d n k : Nat} {x4 : Int32} {v1 : Int32} {v2 : Int32} {v3 : Int32} {v4 : Int32} {v5 : Int32} {v6 : Int32} {v7 : Int32} {c1 c2 : Nat} {st : aSt} : lw X d n (k + 5) 481 (lwL x4 (some (.int v1)) none none) ([.int v7, .int v6, .int v5, .int v4, .int v3, .int v2, .ref 132]) (c1, c2) st = if (x4 + (nI 7)) < 0 ∨ X.1 ≤ (x4 + (nI 7)).toNatClampNeg then none else lw X d n k 486 (lwL x4 (some (.int v1)) none none) ([.int (X.2 (x4 + (nI 7)).toNatClampNeg), .int v7, .int v6, .int v5, .int v4, .int v3, .int v2, .ref 132]) (c1, c2) st := rfl
set_option maxRecDepth 100000 in
set_option maxHeartbeats 100000 in
theorem lwp_486_320 {X : Nat × (Nat → Int32)} {d n k : Nat} {x4 : Int32} {v1 : Int32} {v2 : Int32} {v3 : Int32} {v4 : Int32} {v5 : Int32} {v6 : Int32} {v7 : Int32} {v8 : Int32} {c1 c2 : Nat} {st : aSt} : lw X d n (k + 5) 486 (lwL x4 (some (.int v1)) none none) ([.int v8, .int v7, .int v6, .int v5, .int v4, .int v3, .int v2, .ref 132]) (c1, c2) st = if (x4 + (nI 8)) < 0 ∨ X.1 ≤ (x4 + (nI 8)).toNatClampNeg then none else lw X d n k 491 (lwL x4 (some (.int v1)) none none) ([.int (X.2 (x4 + (nI 8)).toNatClampNeg), .int v8, .int v7, .int v6, .int v5, .int v4, .int v3, .int v2, .ref 132]) (c1, c2) st := rfl
set_option maxRecDepth 100000 in
set_option maxHeartbeats 100000 in
theorem lwp_491_315 {X : Nat × (Nat → Int32)} {d n k : Nat} {x4 : Int32} {v1 : Int32} {v2 : Int32} {v3 : Int32} {v4 : Int32} {v5 : Int32} {v6 : Int32} {v7 : Int32} {v8 : Int32} {v9 : Int32} {c1 c2 : Nat} {st : aSt} : lw X d n (k + 1) 491 (lwL x4 (some (.int v1)) none none) ([.int v9, .int v8, .int v7, .int v6, .int v5, .int v4, .int v3, .int v2, .ref 132]) (c1, c2) st = if c1 + 0 ≤ 601024 ∧ c2 + 0 ≤ 7293034 then cI (am_call X aP d 222 [.ref 132, .int v2, .int v3, .int v4, .int v5, .int v6, .int v7, .int v8, .int v9] st) (fun r1 s1 => lw X d n k 492 (lwL x4 (some (.int v1)) none none) ([.int r1]) (c1 + 0, c2 + 0) (kp st s1)) (fun e s1 => rX e (kp st s1)) else none := rfl
set_option maxRecDepth 100000 in
set_option maxHeartbeats 100000 in
theorem lwp_492_314 {X : Nat × (Nat → Int32)} {d n k : Nat} {x4 : Int32} {v1 : Int32} {v2 : Int32} {c1 c2 : Nat} {st : aSt} : lw X d n (k + 3) 492 (lwL x4 (some (.int v1)) none none) ([.int v2]) (c1, c2) st = if c1 + 0 ≤ 601024 ∧ c2 + 0 ≤ 7293034 then cI (am_call X aP d 152 [.ref 132] st) (fun r1 s1 => lw X d n k 495 (lwL x4 (some (.int v1)) (some (.int v2)) none) ([.int r1]) (c1 + 0, c2 + 0) (kp st s1)) (fun e s1 => rX e (kp st s1)) else none := rfl
set_option maxRecDepth 100000 in
set_option maxHeartbeats 100000 in
theorem lwp_495_311 {X : Nat × (Nat → Int32)} {d n k : Nat} {x4 : Int32} {v1 : Int32} {v2 : Int32} {v3 : Int32} {c1 c2 : Nat} {st : aSt} : lw X d n (k + 4) 495 (lwL x4 (some (.int v1)) (some (.int v2)) none) ([.int v3]) (c1, c2) st = if v3 = v1 then lw X d n (k + 2) 499 (lwL x4 (some (.int v1)) (some (.int v2)) none) ([]) (c1, c2) st else rI (nI 0) st := rfl
set_option maxRecDepth 100000 in
set_option maxHeartbeats 100000 in
theorem lwp_499_309 {X : Nat × (Nat → Int32)} {d n k : Nat} {x4 : Int32} {v1 : Int32} {v2 : Int32} {c1 c2 : Nat} {st : aSt} : lw X d n (k + 4) 499 (lwL x4 (some (.int v1)) (some (.int v2)) none) ([]) (c1, c2) st = if v1 = 0 then lw X d n (k + 2) 501 (lwL x4 (some (.int v1)) (some (.int v2)) none) ([]) (c1, c2) st else aR X d m_L_law_ n 1561 (lwL x4 none none none) (c1, c2) st := rfl
set_option maxRecDepth 100000 in
set_option maxHeartbeats 100000 in
theorem lwp_501_307 {X : Nat × (Nat → Int32)} {d n k : Nat} {x4 : Int32} {v1 : Int32} {v2 : Int32} {c1 c2 : Nat} {st : aSt} : lw X d n (k + 3) 501 (lwL x4 (some (.int v1)) (some (.int v2)) none) ([]) (c1, c2) st = if (nI 0) < 0 ∨ 1 ≤ (nI 0).toNatClampNeg then none else lw X d n k 504 (lwL x4 (some (.int v1)) (some (.int v2)) none) ([.long (gJ st 158 (nI 0).toNatClampNeg)]) (c1, c2) st := rfl
set_option maxRecDepth 100000 in
set_option maxHeartbeats 100000 in
theorem lwp_504_304 {X : Nat × (Nat → Int32)} {d n k : Nat} {x4 : Int32} {v1 : Int32} {v2 : Int32} {v3 : Int64} {c1 c2 : Nat} {st : aSt} : lw X d n (k + 12) 504 (lwL x4 (some (.int v1)) (some (.int v2)) none) ([.long v3]) (c1, c2) st = if lg_cmp (v3) (v2.toInt64) = 0 then aR X d m_L_law_ n 1561 (lwL x4 none none none) (c1, c2) st else rI (nI 0) st := rfl
set_option maxRecDepth 100000 in
set_option maxHeartbeats 100000 in
theorem lwp_511_400 {X : Nat × (Nat → Int32)} {d n k : Nat} {x4 : Int32}  {c1 c2 : Nat} {st : aSt} : lw X d n (k + 6) 511 (lwL x4 none none none) ([]) (c1, c2) st = if (x4 + (nI 1)) < 0 ∨ X.1 ≤ (x4 + (nI 1)).toNatClampNeg then none else lw X d n k 517 (lwL x4 none none none) ([.int (X.2 (x4 + (nI 1)).toNatClampNeg), .ref 0]) (c1, c2) st := rfl
set_option maxRecDepth 100000 in
set_option maxHeartbeats 100000 in
theorem lwp_517_394 {X : Nat × (Nat → Int32)} {d n k : Nat} {x4 : Int32} {v1 : Int32} {c1 c2 : Nat} {st : aSt} : lw X d n (k + 5) 517 (lwL x4 none none none) ([.int v1, .ref 0]) (c1, c2) st = if (x4 + (nI 2)) < 0 ∨ X.1 ≤ (x4 + (nI 2)).toNatClampNeg then none else lw X d n k 522 (lwL x4 none none none) ([.int (X.2 (x4 + (nI 2)).toNatClampNeg), .int v1, .ref 0]) (c1, c2) st := rfl
set_option maxRecDepth 100000 in
set_option maxHeartbeats 100000 in
theorem lwp_522_389 {X : Nat × (Nat → Int32)} {d n k : Nat} {x4 : Int32} {v1 : Int32} {v2 : Int32} {c1 c2 : Nat} {st : aSt} : lw X d n (k + 2) 522 (lwL x4 none none none) ([.int v2, .int v1, .ref 0]) (c1, c2) st = if c1 + 2 ≤ 601024 ∧ c2 + 12 ≤ 7293034 then cI (am_call X aP d 278 [.ref 0, .int v1, .int v2, .ref 158] st) (fun r1 s1 => lw X d n k 524 (lwL x4 none none none) ([.int r1]) (c1 + 2, c2 + 12) (kp st s1)) (fun e s1 => rX e (kp st s1)) else none := rfl
set_option maxRecDepth 100000 in
set_option maxHeartbeats 100000 in
theorem lwp_524_387 {X : Nat × (Nat → Int32)} {d n k : Nat} {x4 : Int32} {v1 : Int32} {c1 c2 : Nat} {st : aSt} : lw X d n (k + 7) 524 (lwL x4 none none none) ([.int v1]) (c1, c2) st = if (x4 + (nI 1)) < 0 ∨ X.1 ≤ (x4 + (nI 1)).toNatClampNeg then none else lw X d n k 531 (lwL x4 (some (.int v1)) none none) ([.int (X.2 (x4 + (nI 1)).toNatClampNeg), .ref 132]) (c1, c2) st := rfl
set_option maxRecDepth 100000 in
set_option maxHeartbeats 100000 in
theorem lwp_531_380 {X : Nat × (Nat → Int32)} {d n k : Nat} {x4 : Int32} {v1 : Int32} {v2 : Int32} {c1 c2 : Nat} {st : aSt} : lw X d n (k + 5) 531 (lwL x4 (some (.int v1)) none none) ([.int v2, .ref 132]) (c1, c2) st = if (x4 + (nI 2)) < 0 ∨ X.1 ≤ (x4 + (nI 2)).toNatClampNeg then none else lw X d n k 536 (lwL x4 (some (.int v1)) none none) ([.int (X.2 (x4 + (nI 2)).toNatClampNeg), .int v2, .ref 132]) (c1, c2) st := rfl
set_option maxRecDepth 100000 in
set_option maxHeartbeats 100000 in
theorem lwp_536_375 {X : Nat × (Nat → Int32)} {d n k : Nat} {x4 : Int32} {v1 : Int32} {v2 : Int32} {v3 : Int32} {c1 c2 : Nat} {st : aSt} : lw X d n (k + 1) 536 (lwL x4 (some (.int v1)) none none) ([.int v3, .int v2, .ref 132]) (c1, c2) st = if c1 + 0 ≤ 601024 ∧ c2 + 0 ≤ 7293034 then cI (am_call X aP d 225 [.ref 132, .int v2, .int v3] st) (fun r1 s1 => lw X d n k 537 (lwL x4 (some (.int v1)) none none) ([.int r1]) (c1 + 0, c2 + 0) (kp st s1)) (fun e s1 => rX e (kp st s1)) else none := rfl
set_option maxRecDepth 100000 in
set_option maxHeartbeats 100000 in
theorem lwp_537_374 {X : Nat × (Nat → Int32)} {d n k : Nat} {x4 : Int32} {v1 : Int32} {v2 : Int32} {c1 c2 : Nat} {st : aSt} : lw X d n (k + 3) 537 (lwL x4 (some (.int v1)) none none) ([.int v2]) (c1, c2) st = if c1 + 0 ≤ 601024 ∧ c2 + 0 ≤ 7293034 then cI (am_call X aP d 152 [.ref 132] st) (fun r1 s1 => lw X d n k 540 (lwL x4 (some (.int v1)) (some (.int v2)) none) ([.int r1]) (c1 + 0, c2 + 0) (kp st s1)) (fun e s1 => rX e (kp st s1)) else none := rfl
set_option maxRecDepth 100000 in
set_option maxHeartbeats 100000 in
theorem lwp_540_371 {X : Nat × (Nat → Int32)} {d n k : Nat} {x4 : Int32} {v1 : Int32} {v2 : Int32} {v3 : Int32} {c1 c2 : Nat} {st : aSt} : lw X d n (k + 4) 540 (lwL x4 (some (.int v1)) (some (.int v2)) none) ([.int v3]) (c1, c2) st = if v3 = v1 then lw X d n (k + 2) 544 (lwL x4 (some (.int v1)) (some (.int v2)) none) ([]) (c1, c2) st else rI (nI 0) st := rfl
set_option maxRecDepth 100000 in
set_option maxHeartbeats 100000 in
theorem lwp_544_369 {X : Nat × (Nat → Int32)} {d n k : Nat} {x4 : Int32} {v1 : Int32} {v2 : Int32} {c1 c2 : Nat} {st : aSt} : lw X d n (k + 4) 544 (lwL x4 (some (.int v1)) (some (.int v2)) none) ([]) (c1, c2) st = if v1 = 0 then lw X d n (k + 2) 546 (lwL x4 (some (.int v1)) (some (.int v2)) none) ([]) (c1, c2) st else aR X d m_L_law_ n 1561 (lwL x4 none none none) (c1, c2) st := rfl
set_option maxRecDepth 100000 in
set_option maxHeartbeats 100000 in
theorem lwp_546_367 {X : Nat × (Nat → Int32)} {d n k : Nat} {x4 : Int32} {v1 : Int32} {v2 : Int32} {c1 c2 : Nat} {st : aSt} : lw X d n (k + 3) 546 (lwL x4 (some (.int v1)) (some (.int v2)) none) ([]) (c1, c2) st = if (nI 0) < 0 ∨ 1 ≤ (nI 0).toNatClampNeg then none else lw X d n k 549 (lwL x4 (some (.int v1)) (some (.int v2)) none) ([.long (gJ st 158 (nI 0).toNatClampNeg)]) (c1, c2) st := rfl
set_option maxRecDepth 100000 in
set_option maxHeartbeats 100000 in
theorem lwp_549_364 {X : Nat × (Nat → Int32)} {d n k : Nat} {x4 : Int32} {v1 : Int32} {v2 : Int32} {v3 : Int64} {c1 c2 : Nat} {st : aSt} : lw X d n (k + 12) 549 (lwL x4 (some (.int v1)) (some (.int v2)) none) ([.long v3]) (c1, c2) st = if lg_cmp (v3) (v2.toInt64) = 0 then aR X d m_L_law_ n 1561 (lwL x4 none none none) (c1, c2) st else rI (nI 0) st := rfl
set_option maxRecDepth 100000 in
set_option maxHeartbeats 100000 in
theorem lwp_556_400 {X : Nat × (Nat → Int32)} {d n k : Nat} {x4 : Int32}  {c1 c2 : Nat} {st : aSt} : lw X d n (k + 6) 556 (lwL x4 none none none) ([]) (c1, c2) st = if (x4 + (nI 1)) < 0 ∨ X.1 ≤ (x4 + (nI 1)).toNatClampNeg then none else lw X d n k 562 (lwL x4 none none none) ([.int (X.2 (x4 + (nI 1)).toNatClampNeg), .ref 0]) (c1, c2) st := rfl
set_option maxRecDepth 100000 in
set_option maxHeartbeats 100000 in
theorem lwp_562_394 {X : Nat × (Nat → Int32)} {d n k : Nat} {x4 : Int32} {v1 : Int32} {c1 c2 : Nat} {st : aSt} : lw X d n (k + 5) 562 (lwL x4 none none none) ([.int v1, .ref 0]) (c1, c2) st = if (x4 + (nI 2)) < 0 ∨ X.1 ≤ (x4 + (nI 2)).toNatClampNeg then none else lw X d n k 567 (lwL x4 none none none) ([.int (X.2 (x4 + (nI 2)).toNatClampNeg), .int v1, .ref 0]) (c1, c2) st := rfl
set_option maxRecDepth 100000 in
set_option maxHeartbeats 100000 in
theorem lwp_567_389 {X : Nat × (Nat → Int32)} {d n k : Nat} {x4 : Int32} {v1 : Int32} {v2 : Int32} {c1 c2 : Nat} {st : aSt} : lw X d n (k + 5) 567 (lwL x4 none none none) ([.int v2, .int v1, .ref 0]) (c1, c2) st = if (x4 + (nI 3)) < 0 ∨ X.1 ≤ (x4 + (nI 3)).toNatClampNeg then none else lw X d n k 572 (lwL x4 none none none) ([.int (X.2 (x4 + (nI 3)).toNatClampNeg), .int v2, .int v1, .ref 0]) (c1, c2) st := rfl
set_option maxRecDepth 100000 in
set_option maxHeartbeats 100000 in
theorem lwp_572_384 {X : Nat × (Nat → Int32)} {d n k : Nat} {x4 : Int32} {v1 : Int32} {v2 : Int32} {v3 : Int32} {c1 c2 : Nat} {st : aSt} : lw X d n (k + 2) 572 (lwL x4 none none none) ([.int v3, .int v2, .int v1, .ref 0]) (c1, c2) st = if c1 + 3 ≤ 601024 ∧ c2 + 18 ≤ 7293034 then cI (am_call X aP d 279 [.ref 0, .int v1, .int v2, .int v3, .ref 158] st) (fun r1 s1 => lw X d n k 574 (lwL x4 none none none) ([.int r1]) (c1 + 3, c2 + 18) (kp st s1)) (fun e s1 => rX e (kp st s1)) else none := rfl
set_option maxRecDepth 100000 in
set_option maxHeartbeats 100000 in
theorem lwp_574_382 {X : Nat × (Nat → Int32)} {d n k : Nat} {x4 : Int32} {v1 : Int32} {c1 c2 : Nat} {st : aSt} : lw X d n (k + 7) 574 (lwL x4 none none none) ([.int v1]) (c1, c2) st = if (x4 + (nI 1)) < 0 ∨ X.1 ≤ (x4 + (nI 1)).toNatClampNeg then none else lw X d n k 581 (lwL x4 (some (.int v1)) none none) ([.int (X.2 (x4 + (nI 1)).toNatClampNeg), .ref 132]) (c1, c2) st := rfl
set_option maxRecDepth 100000 in
set_option maxHeartbeats 100000 in
theorem lwp_581_375 {X : Nat × (Nat → Int32)} {d n k : Nat} {x4 : Int32} {v1 : Int32} {v2 : Int32} {c1 c2 : Nat} {st : aSt} : lw X d n (k + 5) 581 (lwL x4 (some (.int v1)) none none) ([.int v2, .ref 132]) (c1, c2) st = if (x4 + (nI 2)) < 0 ∨ X.1 ≤ (x4 + (nI 2)).toNatClampNeg then none else lw X d n k 586 (lwL x4 (some (.int v1)) none none) ([.int (X.2 (x4 + (nI 2)).toNatClampNeg), .int v2, .ref 132]) (c1, c2) st := rfl
set_option maxRecDepth 100000 in
set_option maxHeartbeats 100000 in
theorem lwp_586_370 {X : Nat × (Nat → Int32)} {d n k : Nat} {x4 : Int32} {v1 : Int32} {v2 : Int32} {v3 : Int32} {c1 c2 : Nat} {st : aSt} : lw X d n (k + 5) 586 (lwL x4 (some (.int v1)) none none) ([.int v3, .int v2, .ref 132]) (c1, c2) st = if (x4 + (nI 3)) < 0 ∨ X.1 ≤ (x4 + (nI 3)).toNatClampNeg then none else lw X d n k 591 (lwL x4 (some (.int v1)) none none) ([.int (X.2 (x4 + (nI 3)).toNatClampNeg), .int v3, .int v2, .ref 132]) (c1, c2) st := rfl
set_option maxRecDepth 100000 in
set_option maxHeartbeats 100000 in
theorem lwp_591_365 {X : Nat × (Nat → Int32)} {d n k : Nat} {x4 : Int32} {v1 : Int32} {v2 : Int32} {v3 : Int32} {v4 : Int32} {c1 c2 : Nat} {st : aSt} : lw X d n (k + 1) 591 (lwL x4 (some (.int v1)) none none) ([.int v4, .int v3, .int v2, .ref 132]) (c1, c2) st = if c1 + 0 ≤ 601024 ∧ c2 + 0 ≤ 7293034 then cI (am_call X aP d 228 [.ref 132, .int v2, .int v3, .int v4] st) (fun r1 s1 => lw X d n k 592 (lwL x4 (some (.int v1)) none none) ([.int r1]) (c1 + 0, c2 + 0) (kp st s1)) (fun e s1 => rX e (kp st s1)) else none := rfl
set_option maxRecDepth 100000 in
set_option maxHeartbeats 100000 in
theorem lwp_592_364 {X : Nat × (Nat → Int32)} {d n k : Nat} {x4 : Int32} {v1 : Int32} {v2 : Int32} {c1 c2 : Nat} {st : aSt} : lw X d n (k + 3) 592 (lwL x4 (some (.int v1)) none none) ([.int v2]) (c1, c2) st = if c1 + 0 ≤ 601024 ∧ c2 + 0 ≤ 7293034 then cI (am_call X aP d 152 [.ref 132] st) (fun r1 s1 => lw X d n k 595 (lwL x4 (some (.int v1)) (some (.int v2)) none) ([.int r1]) (c1 + 0, c2 + 0) (kp st s1)) (fun e s1 => rX e (kp st s1)) else none := rfl
set_option maxRecDepth 100000 in
set_option maxHeartbeats 100000 in
theorem lwp_595_361 {X : Nat × (Nat → Int32)} {d n k : Nat} {x4 : Int32} {v1 : Int32} {v2 : Int32} {v3 : Int32} {c1 c2 : Nat} {st : aSt} : lw X d n (k + 4) 595 (lwL x4 (some (.int v1)) (some (.int v2)) none) ([.int v3]) (c1, c2) st = if v3 = v1 then lw X d n (k + 2) 599 (lwL x4 (some (.int v1)) (some (.int v2)) none) ([]) (c1, c2) st else rI (nI 0) st := rfl
set_option maxRecDepth 100000 in
set_option maxHeartbeats 100000 in
theorem lwp_599_359 {X : Nat × (Nat → Int32)} {d n k : Nat} {x4 : Int32} {v1 : Int32} {v2 : Int32} {c1 c2 : Nat} {st : aSt} : lw X d n (k + 4) 599 (lwL x4 (some (.int v1)) (some (.int v2)) none) ([]) (c1, c2) st = if v1 = 0 then lw X d n (k + 2) 601 (lwL x4 (some (.int v1)) (some (.int v2)) none) ([]) (c1, c2) st else aR X d m_L_law_ n 1561 (lwL x4 none none none) (c1, c2) st := rfl
set_option maxRecDepth 100000 in
set_option maxHeartbeats 100000 in
theorem lwp_601_357 {X : Nat × (Nat → Int32)} {d n k : Nat} {x4 : Int32} {v1 : Int32} {v2 : Int32} {c1 c2 : Nat} {st : aSt} : lw X d n (k + 3) 601 (lwL x4 (some (.int v1)) (some (.int v2)) none) ([]) (c1, c2) st = if (nI 0) < 0 ∨ 1 ≤ (nI 0).toNatClampNeg then none else lw X d n k 604 (lwL x4 (some (.int v1)) (some (.int v2)) none) ([.long (gJ st 158 (nI 0).toNatClampNeg)]) (c1, c2) st := rfl
set_option maxRecDepth 100000 in
set_option maxHeartbeats 100000 in
theorem lwp_604_354 {X : Nat × (Nat → Int32)} {d n k : Nat} {x4 : Int32} {v1 : Int32} {v2 : Int32} {v3 : Int64} {c1 c2 : Nat} {st : aSt} : lw X d n (k + 12) 604 (lwL x4 (some (.int v1)) (some (.int v2)) none) ([.long v3]) (c1, c2) st = if lg_cmp (v3) (v2.toInt64) = 0 then aR X d m_L_law_ n 1561 (lwL x4 none none none) (c1, c2) st else rI (nI 0) st := rfl
set_option maxRecDepth 100000 in
set_option maxHeartbeats 100000 in
theorem lwp_611_400 {X : Nat × (Nat → Int32)} {d n k : Nat} {x4 : Int32}  {c1 c2 : Nat} {st : aSt} : lw X d n (k + 6) 611 (lwL x4 none none none) ([]) (c1, c2) st = if (x4 + (nI 1)) < 0 ∨ X.1 ≤ (x4 + (nI 1)).toNatClampNeg then none else lw X d n k 617 (lwL x4 none none none) ([.int (X.2 (x4 + (nI 1)).toNatClampNeg), .ref 0]) (c1, c2) st := rfl
set_option maxRecDepth 100000 in
set_option maxHeartbeats 100000 in
theorem lwp_617_394 {X : Nat × (Nat → Int32)} {d n k : Nat} {x4 : Int32} {v1 : Int32} {c1 c2 : Nat} {st : aSt} : lw X d n (k + 5) 617 (lwL x4 none none none) ([.int v1, .ref 0]) (c1, c2) st = if (x4 + (nI 2)) < 0 ∨ X.1 ≤ (x4 + (nI 2)).toNatClampNeg then none else lw X d n k 622 (lwL x4 none none none) ([.int (X.2 (x4 + (nI 2)).toNatClampNeg), .int v1, .ref 0]) (c1, c2) st := rfl
set_option maxRecDepth 100000 in
set_option maxHeartbeats 100000 in
theorem lwp_622_389 {X : Nat × (Nat → Int32)} {d n k : Nat} {x4 : Int32} {v1 : Int32} {v2 : Int32} {c1 c2 : Nat} {st : aSt} : lw X d n (k + 5) 622 (lwL x4 none none none) ([.int v2, .int v1, .ref 0]) (c1, c2) st = if (x4 + (nI 3)) < 0 ∨ X.1 ≤ (x4 + (nI 3)).toNatClampNeg then none else lw X d n k 627 (lwL x4 none none none) ([.int (X.2 (x4 + (nI 3)).toNatClampNeg), .int v2, .int v1, .ref 0]) (c1, c2) st := rfl
set_option maxRecDepth 100000 in
set_option maxHeartbeats 100000 in
theorem lwp_627_384 {X : Nat × (Nat → Int32)} {d n k : Nat} {x4 : Int32} {v1 : Int32} {v2 : Int32} {v3 : Int32} {c1 c2 : Nat} {st : aSt} : lw X d n (k + 5) 627 (lwL x4 none none none) ([.int v3, .int v2, .int v1, .ref 0]) (c1, c2) st = if (x4 + (nI 4)) < 0 ∨ X.1 ≤ (x4 + (nI 4)).toNatClampNeg then none else lw X d n k 632 (lwL x4 none none none) ([.int (X.2 (x4 + (nI 4)).toNatClampNeg), .int v3, .int v2, .int v1, .ref 0]) (c1, c2) st := rfl
set_option maxRecDepth 100000 in
set_option maxHeartbeats 100000 in
theorem lwp_632_379 {X : Nat × (Nat → Int32)} {d n k : Nat} {x4 : Int32} {v1 : Int32} {v2 : Int32} {v3 : Int32} {v4 : Int32} {c1 c2 : Nat} {st : aSt} : lw X d n (k + 2) 632 (lwL x4 none none none) ([.int v4, .int v3, .int v2, .int v1, .ref 0]) (c1, c2) st = if c1 + 3 ≤ 601024 ∧ c2 + 18 ≤ 7293034 then cI (am_call X aP d 280 [.ref 0, .int v1, .int v2, .int v3, .int v4, .ref 158] st) (fun r1 s1 => lw X d n k 634 (lwL x4 none none none) ([.int r1]) (c1 + 3, c2 + 18) (kp st s1)) (fun e s1 => rX e (kp st s1)) else none := rfl
set_option maxRecDepth 100000 in
set_option maxHeartbeats 100000 in
theorem lwp_634_377 {X : Nat × (Nat → Int32)} {d n k : Nat} {x4 : Int32} {v1 : Int32} {c1 c2 : Nat} {st : aSt} : lw X d n (k + 7) 634 (lwL x4 none none none) ([.int v1]) (c1, c2) st = if (x4 + (nI 1)) < 0 ∨ X.1 ≤ (x4 + (nI 1)).toNatClampNeg then none else lw X d n k 641 (lwL x4 (some (.int v1)) none none) ([.int (X.2 (x4 + (nI 1)).toNatClampNeg), .ref 132]) (c1, c2) st := rfl
set_option maxRecDepth 100000 in
set_option maxHeartbeats 100000 in
theorem lwp_641_370 {X : Nat × (Nat → Int32)} {d n k : Nat} {x4 : Int32} {v1 : Int32} {v2 : Int32} {c1 c2 : Nat} {st : aSt} : lw X d n (k + 5) 641 (lwL x4 (some (.int v1)) none none) ([.int v2, .ref 132]) (c1, c2) st = if (x4 + (nI 2)) < 0 ∨ X.1 ≤ (x4 + (nI 2)).toNatClampNeg then none else lw X d n k 646 (lwL x4 (some (.int v1)) none none) ([.int (X.2 (x4 + (nI 2)).toNatClampNeg), .int v2, .ref 132]) (c1, c2) st := rfl
set_option maxRecDepth 100000 in
set_option maxHeartbeats 100000 in
theorem lwp_646_365 {X : Nat × (Nat → Int32)} {d n k : Nat} {x4 : Int32} {v1 : Int32} {v2 : Int32} {v3 : Int32} {c1 c2 : Nat} {st : aSt} : lw X d n (k + 5) 646 (lwL x4 (some (.int v1)) none none) ([.int v3, .int v2, .ref 132]) (c1, c2) st = if (x4 + (nI 3)) < 0 ∨ X.1 ≤ (x4 + (nI 3)).toNatClampNeg then none else lw X d n k 651 (lwL x4 (some (.int v1)) none none) ([.int (X.2 (x4 + (nI 3)).toNatClampNeg), .int v3, .int v2, .ref 132]) (c1, c2) st := rfl
set_option maxRecDepth 100000 in
set_option maxHeartbeats 100000 in
theorem lwp_651_360 {X : Nat × (Nat → Int32)} {d n k : Nat} {x4 : Int32} {v1 : Int32} {v2 : Int32} {v3 : Int32} {v4 : Int32} {c1 c2 : Nat} {st : aSt} : lw X d n (k + 5) 651 (lwL x4 (some (.int v1)) none none) ([.int v4, .int v3, .int v2, .ref 132]) (c1, c2) st = if (x4 + (nI 4)) < 0 ∨ X.1 ≤ (x4 + (nI 4)).toNatClampNeg then none else lw X d n k 656 (lwL x4 (some (.int v1)) none none) ([.int (X.2 (x4 + (nI 4)).toNatClampNeg), .int v4, .int v3, .int v2, .ref 132]) (c1, c2) st := rfl
set_option maxRecDepth 100000 in
set_option maxHeartbeats 100000 in
theorem lwp_656_355 {X : Nat × (Nat → Int32)} {d n k : Nat} {x4 : Int32} {v1 : Int32} {v2 : Int32} {v3 : Int32} {v4 : Int32} {v5 : Int32} {c1 c2 : Nat} {st : aSt} : lw X d n (k + 1) 656 (lwL x4 (some (.int v1)) none none) ([.int v5, .int v4, .int v3, .int v2, .ref 132]) (c1, c2) st = if c1 + 0 ≤ 601024 ∧ c2 + 0 ≤ 7293034 then cI (am_call X aP d 230 [.ref 132, .int v2, .int v3, .int v4, .int v5] st) (fun r1 s1 => lw X d n k 657 (lwL x4 (some (.int v1)) none none) ([.int r1]) (c1 + 0, c2 + 0) (kp st s1)) (fun e s1 => rX e (kp st s1)) else none := rfl
set_option maxRecDepth 100000 in
set_option maxHeartbeats 100000 in
theorem lwp_657_354 {X : Nat × (Nat → Int32)} {d n k : Nat} {x4 : Int32} {v1 : Int32} {v2 : Int32} {c1 c2 : Nat} {st : aSt} : lw X d n (k + 3) 657 (lwL x4 (some (.int v1)) none none) ([.int v2]) (c1, c2) st = if c1 + 0 ≤ 601024 ∧ c2 + 0 ≤ 7293034 then cI (am_call X aP d 152 [.ref 132] st) (fun r1 s1 => lw X d n k 660 (lwL x4 (some (.int v1)) (some (.int v2)) none) ([.int r1]) (c1 + 0, c2 + 0) (kp st s1)) (fun e s1 => rX e (kp st s1)) else none := rfl
set_option maxRecDepth 100000 in
set_option maxHeartbeats 100000 in
theorem lwp_660_351 {X : Nat × (Nat → Int32)} {d n k : Nat} {x4 : Int32} {v1 : Int32} {v2 : Int32} {v3 : Int32} {c1 c2 : Nat} {st : aSt} : lw X d n (k + 4) 660 (lwL x4 (some (.int v1)) (some (.int v2)) none) ([.int v3]) (c1, c2) st = if v3 = v1 then lw X d n (k + 2) 664 (lwL x4 (some (.int v1)) (some (.int v2)) none) ([]) (c1, c2) st else rI (nI 0) st := rfl
set_option maxRecDepth 100000 in
set_option maxHeartbeats 100000 in
theorem lwp_664_349 {X : Nat × (Nat → Int32)} {d n k : Nat} {x4 : Int32} {v1 : Int32} {v2 : Int32} {c1 c2 : Nat} {st : aSt} : lw X d n (k + 4) 664 (lwL x4 (some (.int v1)) (some (.int v2)) none) ([]) (c1, c2) st = if v1 = 0 then lw X d n (k + 2) 666 (lwL x4 (some (.int v1)) (some (.int v2)) none) ([]) (c1, c2) st else aR X d m_L_law_ n 1561 (lwL x4 none none none) (c1, c2) st := rfl
set_option maxRecDepth 100000 in
set_option maxHeartbeats 100000 in
theorem lwp_666_347 {X : Nat × (Nat → Int32)} {d n k : Nat} {x4 : Int32} {v1 : Int32} {v2 : Int32} {c1 c2 : Nat} {st : aSt} : lw X d n (k + 3) 666 (lwL x4 (some (.int v1)) (some (.int v2)) none) ([]) (c1, c2) st = if (nI 0) < 0 ∨ 1 ≤ (nI 0).toNatClampNeg then none else lw X d n k 669 (lwL x4 (some (.int v1)) (some (.int v2)) none) ([.long (gJ st 158 (nI 0).toNatClampNeg)]) (c1, c2) st := rfl
set_option maxRecDepth 100000 in
set_option maxHeartbeats 100000 in
theorem lwp_669_344 {X : Nat × (Nat → Int32)} {d n k : Nat} {x4 : Int32} {v1 : Int32} {v2 : Int32} {v3 : Int64} {c1 c2 : Nat} {st : aSt} : lw X d n (k + 12) 669 (lwL x4 (some (.int v1)) (some (.int v2)) none) ([.long v3]) (c1, c2) st = if lg_cmp (v3) (v2.toInt64) = 0 then aR X d m_L_law_ n 1561 (lwL x4 none none none) (c1, c2) st else rI (nI 0) st := rfl
set_option maxRecDepth 100000 in
set_option maxHeartbeats 100000 in
theorem lwp_676_400 {X : Nat × (Nat → Int32)} {d n k : Nat} {x4 : Int32}  {c1 c2 : Nat} {st : aSt} : lw X d n (k + 6) 676 (lwL x4 none none none) ([]) (c1, c2) st = if (x4 + (nI 1)) < 0 ∨ X.1 ≤ (x4 + (nI 1)).toNatClampNeg then none else lw X d n k 682 (lwL x4 none none none) ([.int (X.2 (x4 + (nI 1)).toNatClampNeg), .ref 0]) (c1, c2) st := rfl
set_option maxRecDepth 100000 in
set_option maxHeartbeats 100000 in
theorem lwp_682_394 {X : Nat × (Nat → Int32)} {d n k : Nat} {x4 : Int32} {v1 : Int32} {c1 c2 : Nat} {st : aSt} : lw X d n (k + 5) 682 (lwL x4 none none none) ([.int v1, .ref 0]) (c1, c2) st = if (x4 + (nI 2)) < 0 ∨ X.1 ≤ (x4 + (nI 2)).toNatClampNeg then none else lw X d n k 687 (lwL x4 none none none) ([.int (X.2 (x4 + (nI 2)).toNatClampNeg), .int v1, .ref 0]) (c1, c2) st := rfl
set_option maxRecDepth 100000 in
set_option maxHeartbeats 100000 in
theorem lwp_687_389 {X : Nat × (Nat → Int32)} {d n k : Nat} {x4 : Int32} {v1 : Int32} {v2 : Int32} {c1 c2 : Nat} {st : aSt} : lw X d n (k + 5) 687 (lwL x4 none none none) ([.int v2, .int v1, .ref 0]) (c1, c2) st = if (x4 + (nI 3)) < 0 ∨ X.1 ≤ (x4 + (nI 3)).toNatClampNeg then none else lw X d n k 692 (lwL x4 none none none) ([.int (X.2 (x4 + (nI 3)).toNatClampNeg), .int v2, .int v1, .ref 0]) (c1, c2) st := rfl
set_option maxRecDepth 100000 in
set_option maxHeartbeats 100000 in
theorem lwp_692_384 {X : Nat × (Nat → Int32)} {d n k : Nat} {x4 : Int32} {v1 : Int32} {v2 : Int32} {v3 : Int32} {c1 c2 : Nat} {st : aSt} : lw X d n (k + 5) 692 (lwL x4 none none none) ([.int v3, .int v2, .int v1, .ref 0]) (c1, c2) st = if (x4 + (nI 4)) < 0 ∨ X.1 ≤ (x4 + (nI 4)).toNatClampNeg then none else lw X d n k 697 (lwL x4 none none none) ([.int (X.2 (x4 + (nI 4)).toNatClampNeg), .int v3, .int v2, .int v1, .ref 0]) (c1, c2) st := rfl
set_option maxRecDepth 100000 in
set_option maxHeartbeats 100000 in
theorem lwp_697_379 {X : Nat × (Nat → Int32)} {d n k : Nat} {x4 : Int32} {v1 : Int32} {v2 : Int32} {v3 : Int32} {v4 : Int32} {c1 c2 : Nat} {st : aSt} : lw X d n (k + 2) 697 (lwL x4 none none none) ([.int v4, .int v3, .int v2, .int v1, .ref 0]) (c1, c2) st = if c1 + 3 ≤ 601024 ∧ c2 + 18 ≤ 7293034 then cI (am_call X aP d 281 [.ref 0, .int v1, .int v2, .int v3, .int v4, .ref 158] st) (fun r1 s1 => lw X d n k 699 (lwL x4 none none none) ([.int r1]) (c1 + 3, c2 + 18) (kp st s1)) (fun e s1 => rX e (kp st s1)) else none := rfl
set_option maxRecDepth 100000 in
set_option maxHeartbeats 100000 in
theorem lwp_699_377 {X : Nat × (Nat → Int32)} {d n k : Nat} {x4 : Int32} {v1 : Int32} {c1 c2 : Nat} {st : aSt} : lw X d n (k + 7) 699 (lwL x4 none none none) ([.int v1]) (c1, c2) st = if (x4 + (nI 1)) < 0 ∨ X.1 ≤ (x4 + (nI 1)).toNatClampNeg then none else lw X d n k 706 (lwL x4 (some (.int v1)) none none) ([.int (X.2 (x4 + (nI 1)).toNatClampNeg), .ref 132]) (c1, c2) st := rfl
set_option maxRecDepth 100000 in
set_option maxHeartbeats 100000 in
theorem lwp_706_370 {X : Nat × (Nat → Int32)} {d n k : Nat} {x4 : Int32} {v1 : Int32} {v2 : Int32} {c1 c2 : Nat} {st : aSt} : lw X d n (k + 5) 706 (lwL x4 (some (.int v1)) none none) ([.int v2, .ref 132]) (c1, c2) st = if (x4 + (nI 2)) < 0 ∨ X.1 ≤ (x4 + (nI 2)).toNatClampNeg then none else lw X d n k 711 (lwL x4 (some (.int v1)) none none) ([.int (X.2 (x4 + (nI 2)).toNatClampNeg), .int v2, .ref 132]) (c1, c2) st := rfl
set_option maxRecDepth 100000 in
set_option maxHeartbeats 100000 in
theorem lwp_711_365 {X : Nat × (Nat → Int32)} {d n k : Nat} {x4 : Int32} {v1 : Int32} {v2 : Int32} {v3 : Int32} {c1 c2 : Nat} {st : aSt} : lw X d n (k + 5) 711 (lwL x4 (some (.int v1)) none none) ([.int v3, .int v2, .ref 132]) (c1, c2) st = if (x4 + (nI 3)) < 0 ∨ X.1 ≤ (x4 + (nI 3)).toNatClampNeg then none else lw X d n k 716 (lwL x4 (some (.int v1)) none none) ([.int (X.2 (x4 + (nI 3)).toNatClampNeg), .int v3, .int v2, .ref 132]) (c1, c2) st := rfl
set_option maxRecDepth 100000 in
set_option maxHeartbeats 100000 in
theorem lwp_716_360 {X : Nat × (Nat → Int32)} {d n k : Nat} {x4 : Int32} {v1 : Int32} {v2 : Int32} {v3 : Int32} {v4 : Int32} {c1 c2 : Nat} {st : aSt} : lw X d n (k + 5) 716 (lwL x4 (some (.int v1)) none none) ([.int v4, .int v3, .int v2, .ref 132]) (c1, c2) st = if (x4 + (nI 4)) < 0 ∨ X.1 ≤ (x4 + (nI 4)).toNatClampNeg then none else lw X d n k 721 (lwL x4 (some (.int v1)) none none) ([.int (X.2 (x4 + (nI 4)).toNatClampNeg), .int v4, .int v3, .int v2, .ref 132]) (c1, c2) st := rfl
set_option maxRecDepth 100000 in
set_option maxHeartbeats 100000 in
theorem lwp_721_355 {X : Nat × (Nat → Int32)} {d n k : Nat} {x4 : Int32} {v1 : Int32} {v2 : Int32} {v3 : Int32} {v4 : Int32} {v5 : Int32} {c1 c2 : Nat} {st : aSt} : lw X d n (k + 1) 721 (lwL x4 (some (.int v1)) none none) ([.int v5, .int v4, .int v3, .int v2, .ref 132]) (c1, c2) st = if c1 + 0 ≤ 601024 ∧ c2 + 0 ≤ 7293034 then cI (am_call X aP d 231 [.ref 132, .int v2, .int v3, .int v4, .int v5] st) (fun r1 s1 => lw X d n k 722 (lwL x4 (some (.int v1)) none none) ([.int r1]) (c1 + 0, c2 + 0) (kp st s1)) (fun e s1 => rX e (kp st s1)) else none := rfl
set_option maxRecDepth 100000 in
set_option maxHeartbeats 100000 in
theorem lwp_722_354 {X : Nat × (Nat → Int32)} {d n k : Nat} {x4 : Int32} {v1 : Int32} {v2 : Int32} {c1 c2 : Nat} {st : aSt} : lw X d n (k + 3) 722 (lwL x4 (some (.int v1)) none none) ([.int v2]) (c1, c2) st = if c1 + 0 ≤ 601024 ∧ c2 + 0 ≤ 7293034 then cI (am_call X aP d 152 [.ref 132] st) (fun r1 s1 => lw X d n k 725 (lwL x4 (some (.int v1)) (some (.int v2)) none) ([.int r1]) (c1 + 0, c2 + 0) (kp st s1)) (fun e s1 => rX e (kp st s1)) else none := rfl
set_option maxRecDepth 100000 in
set_option maxHeartbeats 100000 in
theorem lwp_725_351 {X : Nat × (Nat → Int32)} {d n k : Nat} {x4 : Int32} {v1 : Int32} {v2 : Int32} {v3 : Int32} {c1 c2 : Nat} {st : aSt} : lw X d n (k + 4) 725 (lwL x4 (some (.int v1)) (some (.int v2)) none) ([.int v3]) (c1, c2) st = if v3 = v1 then lw X d n (k + 2) 729 (lwL x4 (some (.int v1)) (some (.int v2)) none) ([]) (c1, c2) st else rI (nI 0) st := rfl
set_option maxRecDepth 100000 in
set_option maxHeartbeats 100000 in
theorem lwp_729_349 {X : Nat × (Nat → Int32)} {d n k : Nat} {x4 : Int32} {v1 : Int32} {v2 : Int32} {c1 c2 : Nat} {st : aSt} : lw X d n (k + 4) 729 (lwL x4 (some (.int v1)) (some (.int v2)) none) ([]) (c1, c2) st = if v1 = 0 then lw X d n (k + 2) 731 (lwL x4 (some (.int v1)) (some (.int v2)) none) ([]) (c1, c2) st else aR X d m_L_law_ n 1561 (lwL x4 none none none) (c1, c2) st := rfl
set_option maxRecDepth 100000 in
set_option maxHeartbeats 100000 in
theorem lwp_731_347 {X : Nat × (Nat → Int32)} {d n k : Nat} {x4 : Int32} {v1 : Int32} {v2 : Int32} {c1 c2 : Nat} {st : aSt} : lw X d n (k + 3) 731 (lwL x4 (some (.int v1)) (some (.int v2)) none) ([]) (c1, c2) st = if (nI 0) < 0 ∨ 1 ≤ (nI 0).toNatClampNeg then none else lw X d n k 734 (lwL x4 (some (.int v1)) (some (.int v2)) none) ([.long (gJ st 158 (nI 0).toNatClampNeg)]) (c1, c2) st := rfl
set_option maxRecDepth 100000 in
set_option maxHeartbeats 100000 in
theorem lwp_734_344 {X : Nat × (Nat → Int32)} {d n k : Nat} {x4 : Int32} {v1 : Int32} {v2 : Int32} {v3 : Int64} {c1 c2 : Nat} {st : aSt} : lw X d n (k + 12) 734 (lwL x4 (some (.int v1)) (some (.int v2)) none) ([.long v3]) (c1, c2) st = if lg_cmp (v3) (v2.toInt64) = 0 then aR X d m_L_law_ n 1561 (lwL x4 none none none) (c1, c2) st else rI (nI 0) st := rfl
set_option maxRecDepth 100000 in
set_option maxHeartbeats 100000 in
theorem lwp_741_400 {X : Nat × (Nat → Int32)} {d n k : Nat} {x4 : Int32}  {c1 c2 : Nat} {st : aSt} : lw X d n (k + 6) 741 (lwL x4 none none none) ([]) (c1, c2) st = if (x4 + (nI 1)) < 0 ∨ X.1 ≤ (x4 + (nI 1)).toNatClampNeg then none else lw X d n k 747 (lwL x4 none none none) ([.int (X.2 (x4 + (nI 1)).toNatClampNeg), .ref 0]) (c1, c2) st := rfl
set_option maxRecDepth 100000 in
set_option maxHeartbeats 100000 in
theorem lwp_747_394 {X : Nat × (Nat → Int32)} {d n k : Nat} {x4 : Int32} {v1 : Int32} {c1 c2 : Nat} {st : aSt} : lw X d n (k + 5) 747 (lwL x4 none none none) ([.int v1, .ref 0]) (c1, c2) st = if (x4 + (nI 2)) < 0 ∨ X.1 ≤ (x4 + (nI 2)).toNatClampNeg then none else lw X d n k 752 (lwL x4 none none none) ([.int (X.2 (x4 + (nI 2)).toNatClampNeg), .int v1, .ref 0]) (c1, c2) st := rfl
set_option maxRecDepth 100000 in
set_option maxHeartbeats 100000 in
theorem lwp_752_389 {X : Nat × (Nat → Int32)} {d n k : Nat} {x4 : Int32} {v1 : Int32} {v2 : Int32} {c1 c2 : Nat} {st : aSt} : lw X d n (k + 5) 752 (lwL x4 none none none) ([.int v2, .int v1, .ref 0]) (c1, c2) st = if (x4 + (nI 3)) < 0 ∨ X.1 ≤ (x4 + (nI 3)).toNatClampNeg then none else lw X d n k 757 (lwL x4 none none none) ([.int (X.2 (x4 + (nI 3)).toNatClampNeg), .int v2, .int v1, .ref 0]) (c1, c2) st := rfl
set_option maxRecDepth 100000 in
set_option maxHeartbeats 100000 in
theorem lwp_757_384 {X : Nat × (Nat → Int32)} {d n k : Nat} {x4 : Int32} {v1 : Int32} {v2 : Int32} {v3 : Int32} {c1 c2 : Nat} {st : aSt} : lw X d n (k + 2) 757 (lwL x4 none none none) ([.int v3, .int v2, .int v1, .ref 0]) (c1, c2) st = if c1 + 3 ≤ 601024 ∧ c2 + 18 ≤ 7293034 then cI (am_call X aP d 282 [.ref 0, .int v1, .int v2, .int v3, .ref 158] st) (fun r1 s1 => lw X d n k 759 (lwL x4 none none none) ([.int r1]) (c1 + 3, c2 + 18) (kp st s1)) (fun e s1 => rX e (kp st s1)) else none := rfl
set_option maxRecDepth 100000 in
set_option maxHeartbeats 100000 in
theorem lwp_759_382 {X : Nat × (Nat → Int32)} {d n k : Nat} {x4 : Int32} {v1 : Int32} {c1 c2 : Nat} {st : aSt} : lw X d n (k + 7) 759 (lwL x4 none none none) ([.int v1]) (c1, c2) st = if (x4 + (nI 1)) < 0 ∨ X.1 ≤ (x4 + (nI 1)).toNatClampNeg then none else lw X d n k 766 (lwL x4 (some (.int v1)) none none) ([.int (X.2 (x4 + (nI 1)).toNatClampNeg), .ref 132]) (c1, c2) st := rfl
set_option maxRecDepth 100000 in
set_option maxHeartbeats 100000 in
theorem lwp_766_375 {X : Nat × (Nat → Int32)} {d n k : Nat} {x4 : Int32} {v1 : Int32} {v2 : Int32} {c1 c2 : Nat} {st : aSt} : lw X d n (k + 5) 766 (lwL x4 (some (.int v1)) none none) ([.int v2, .ref 132]) (c1, c2) st = if (x4 + (nI 2)) < 0 ∨ X.1 ≤ (x4 + (nI 2)).toNatClampNeg then none else lw X d n k 771 (lwL x4 (some (.int v1)) none none) ([.int (X.2 (x4 + (nI 2)).toNatClampNeg), .int v2, .ref 132]) (c1, c2) st := rfl
set_option maxRecDepth 100000 in
set_option maxHeartbeats 100000 in
theorem lwp_771_370 {X : Nat × (Nat → Int32)} {d n k : Nat} {x4 : Int32} {v1 : Int32} {v2 : Int32} {v3 : Int32} {c1 c2 : Nat} {st : aSt} : lw X d n (k + 5) 771 (lwL x4 (some (.int v1)) none none) ([.int v3, .int v2, .ref 132]) (c1, c2) st = if (x4 + (nI 3)) < 0 ∨ X.1 ≤ (x4 + (nI 3)).toNatClampNeg then none else lw X d n k 776 (lwL x4 (some (.int v1)) none none) ([.int (X.2 (x4 + (nI 3)).toNatClampNeg), .int v3, .int v2, .ref 132]) (c1, c2) st := rfl
set_option maxRecDepth 100000 in
set_option maxHeartbeats 100000 in
theorem lwp_776_365 {X : Nat × (Nat → Int32)} {d n k : Nat} {x4 : Int32} {v1 : Int32} {v2 : Int32} {v3 : Int32} {v4 : Int32} {c1 c2 : Nat} {st : aSt} : lw X d n (k + 1) 776 (lwL x4 (some (.int v1)) none none) ([.int v4, .int v3, .int v2, .ref 132]) (c1, c2) st = if c1 + 0 ≤ 601024 ∧ c2 + 0 ≤ 7293034 then cI (am_call X aP d 232 [.ref 132, .int v2, .int v3, .int v4] st) (fun r1 s1 => lw X d n k 777 (lwL x4 (some (.int v1)) none none) ([.int r1]) (c1 + 0, c2 + 0) (kp st s1)) (fun e s1 => rX e (kp st s1)) else none := rfl
set_option maxRecDepth 100000 in
set_option maxHeartbeats 100000 in
theorem lwp_777_364 {X : Nat × (Nat → Int32)} {d n k : Nat} {x4 : Int32} {v1 : Int32} {v2 : Int32} {c1 c2 : Nat} {st : aSt} : lw X d n (k + 3) 777 (lwL x4 (some (.int v1)) none none) ([.int v2]) (c1, c2) st = if c1 + 0 ≤ 601024 ∧ c2 + 0 ≤ 7293034 then cI (am_call X aP d 152 [.ref 132] st) (fun r1 s1 => lw X d n k 780 (lwL x4 (some (.int v1)) (some (.int v2)) none) ([.int r1]) (c1 + 0, c2 + 0) (kp st s1)) (fun e s1 => rX e (kp st s1)) else none := rfl
set_option maxRecDepth 100000 in
set_option maxHeartbeats 100000 in
theorem lwp_780_361 {X : Nat × (Nat → Int32)} {d n k : Nat} {x4 : Int32} {v1 : Int32} {v2 : Int32} {v3 : Int32} {c1 c2 : Nat} {st : aSt} : lw X d n (k + 4) 780 (lwL x4 (some (.int v1)) (some (.int v2)) none) ([.int v3]) (c1, c2) st = if v3 = v1 then lw X d n (k + 2) 784 (lwL x4 (some (.int v1)) (some (.int v2)) none) ([]) (c1, c2) st else rI (nI 0) st := rfl
set_option maxRecDepth 100000 in
set_option maxHeartbeats 100000 in
theorem lwp_784_359 {X : Nat × (Nat → Int32)} {d n k : Nat} {x4 : Int32} {v1 : Int32} {v2 : Int32} {c1 c2 : Nat} {st : aSt} : lw X d n (k + 4) 784 (lwL x4 (some (.int v1)) (some (.int v2)) none) ([]) (c1, c2) st = if v1 = 0 then lw X d n (k + 2) 786 (lwL x4 (some (.int v1)) (some (.int v2)) none) ([]) (c1, c2) st else aR X d m_L_law_ n 1561 (lwL x4 none none none) (c1, c2) st := rfl
set_option maxRecDepth 100000 in
set_option maxHeartbeats 100000 in
theorem lwp_786_357 {X : Nat × (Nat → Int32)} {d n k : Nat} {x4 : Int32} {v1 : Int32} {v2 : Int32} {c1 c2 : Nat} {st : aSt} : lw X d n (k + 3) 786 (lwL x4 (some (.int v1)) (some (.int v2)) none) ([]) (c1, c2) st = if (nI 0) < 0 ∨ 1 ≤ (nI 0).toNatClampNeg then none else lw X d n k 789 (lwL x4 (some (.int v1)) (some (.int v2)) none) ([.long (gJ st 158 (nI 0).toNatClampNeg)]) (c1, c2) st := rfl
set_option maxRecDepth 100000 in
set_option maxHeartbeats 100000 in
theorem lwp_789_354 {X : Nat × (Nat → Int32)} {d n k : Nat} {x4 : Int32} {v1 : Int32} {v2 : Int32} {v3 : Int64} {c1 c2 : Nat} {st : aSt} : lw X d n (k + 12) 789 (lwL x4 (some (.int v1)) (some (.int v2)) none) ([.long v3]) (c1, c2) st = if lg_cmp (v3) (v2.toInt64) = 0 then aR X d m_L_law_ n 1561 (lwL x4 none none none) (c1, c2) st else rI (nI 0) st := rfl
set_option maxRecDepth 100000 in
set_option maxHeartbeats 100000 in
theorem lwp_796_400 {X : Nat × (Nat → Int32)} {d n k : Nat} {x4 : Int32}  {c1 c2 : Nat} {st : aSt} : lw X d n (k + 6) 796 (lwL x4 none none none) ([]) (c1, c2) st = if (x4 + (nI 1)) < 0 ∨ X.1 ≤ (x4 + (nI 1)).toNatClampNeg then none else lw X d n k 802 (lwL x4 none none none) ([.int (X.2 (x4 + (nI 1)).toNatClampNeg), .ref 0]) (c1, c2) st := rfl
set_option maxRecDepth 100000 in
set_option maxHeartbeats 100000 in
theorem lwp_802_394 {X : Nat × (Nat → Int32)} {d n k : Nat} {x4 : Int32} {v1 : Int32} {c1 c2 : Nat} {st : aSt} : lw X d n (k + 2) 802 (lwL x4 none none none) ([.int v1, .ref 0]) (c1, c2) st = if c1 + 1 ≤ 601024 ∧ c2 + 6 ≤ 7293034 then cI (am_call X aP d 283 [.ref 0, .int v1, .ref 158] st) (fun r1 s1 => lw X d n k 804 (lwL x4 none none none) ([.int r1]) (c1 + 1, c2 + 6) (kp st s1)) (fun e s1 => rX e (kp st s1)) else none := rfl
set_option maxRecDepth 100000 in
set_option maxHeartbeats 100000 in
theorem lwp_804_392 {X : Nat × (Nat → Int32)} {d n k : Nat} {x4 : Int32} {v1 : Int32} {c1 c2 : Nat} {st : aSt} : lw X d n (k + 7) 804 (lwL x4 none none none) ([.int v1]) (c1, c2) st = if (x4 + (nI 1)) < 0 ∨ X.1 ≤ (x4 + (nI 1)).toNatClampNeg then none else lw X d n k 811 (lwL x4 (some (.int v1)) none none) ([.int (X.2 (x4 + (nI 1)).toNatClampNeg), .ref 132]) (c1, c2) st := rfl
