/-! more pieces -/
set_option maxRecDepth 100000 in
set_option maxHeartbeats 100000 in
theorem lwp_1187_344 {X : Nat × (Nat → Int32)} {d n k : Nat} {x4 : Int32} {v1 : Int32} {v2 : Int64} {v3 : Int64} {c1 c2 : Nat} {st : aSt} : lw X d n (k + 12) 1187 (lwL x4 (some (.int v1)) (some (.long v2)) none) ([.long v3]) (c1, c2) st = if lg_cmp (v3) (v2) = 0 then aR X d m_L_law_ n 1561 (lwL x4 none none none) (c1, c2) st else rI (nI 0) st := rfl
set_option maxRecDepth 100000 in
set_option maxHeartbeats 100000 in
theorem lwp_1193_400 {X : Nat × (Nat → Int32)} {d n k : Nat} {x4 : Int32}  {c1 c2 : Nat} {st : aSt} : lw X d n (k + 6) 1193 (lwL x4 none none none) ([]) (c1, c2) st = if (x4 + (nI 1)) < 0 ∨ X.1 ≤ (x4 + (nI 1)).toNatClampNeg then none else lw X d n k 1199 (lwL x4 none none none) ([.int (X.2 (x4 + (nI 1)).toNatClampNeg), .ref 0]) (c1, c2) st := rfl
set_option maxRecDepth 100000 in
set_option maxHeartbeats 100000 in
theorem lwp_1199_394 {X : Nat × (Nat → Int32)} {d n k : Nat} {x4 : Int32} {v1 : Int32} {c1 c2 : Nat} {st : aSt} : lw X d n (k + 5) 1199 (lwL x4 none none none) ([.int v1, .ref 0]) (c1, c2) st = if (x4 + (nI 2)) < 0 ∨ X.1 ≤ (x4 + (nI 2)).toNatClampNeg then none else lw X d n k 1204 (lwL x4 none none none) ([.int (X.2 (x4 + (nI 2)).toNatClampNeg), .int v1, .ref 0]) (c1, c2) st := rfl
set_option maxRecDepth 100000 in
set_option maxHeartbeats 100000 in
theorem lwp_1204_389 {X : Nat × (Nat → Int32)} {d n k : Nat} {x4 : Int32} {v1 : Int32} {v2 : Int32} {c1 c2 : Nat} {st : aSt} : lw X d n (k + 5) 1204 (lwL x4 none none none) ([.int v2, .int v1, .ref 0]) (c1, c2) st = if (x4 + (nI 3)) < 0 ∨ X.1 ≤ (x4 + (nI 3)).toNatClampNeg then none else lw X d n k 1209 (lwL x4 none none none) ([.int (X.2 (x4 + (nI 3)).toNatClampNeg), .int v2, .int v1, .ref 0]) (c1, c2) st := rfl
set_option maxRecDepth 100000 in
set_option maxHeartbeats 100000 in
theorem lwp_1209_384 {X : Nat × (Nat → Int32)} {d n k : Nat} {x4 : Int32} {v1 : Int32} {v2 : Int32} {v3 : Int32} {c1 c2 : Nat} {st : aSt} : lw X d n (k + 2) 1209 (lwL x4 none none none) ([.int v3, .int v2, .int v1, .ref 0]) (c1, c2) st = if c1 + 2 ≤ 601024 ∧ c2 + 12 ≤ 7293034 then cI (am_call X aP d 292 [.ref 0, .int v1, .int v2, .int v3, .ref 158] st) (fun r1 s1 => lw X d n k 1211 (lwL x4 none none none) ([.int r1]) (c1 + 2, c2 + 12) (kp st s1)) (fun e s1 => rX e (kp st s1)) else none := rfl
set_option maxRecDepth 100000 in
set_option maxHeartbeats 100000 in
theorem lwp_1211_382 {X : Nat × (Nat → Int32)} {d n k : Nat} {x4 : Int32} {v1 : Int32} {c1 c2 : Nat} {st : aSt} : lw X d n (k + 7) 1211 (lwL x4 none none none) ([.int v1]) (c1, c2) st = if (x4 + (nI 1)) < 0 ∨ X.1 ≤ (x4 + (nI 1)).toNatClampNeg then none else lw X d n k 1218 (lwL x4 (some (.int v1)) none none) ([.int (X.2 (x4 + (nI 1)).toNatClampNeg), .ref 132]) (c1, c2) st := rfl
set_option maxRecDepth 100000 in
set_option maxHeartbeats 100000 in
theorem lwp_1218_375 {X : Nat × (Nat → Int32)} {d n k : Nat} {x4 : Int32} {v1 : Int32} {v2 : Int32} {c1 c2 : Nat} {st : aSt} : lw X d n (k + 5) 1218 (lwL x4 (some (.int v1)) none none) ([.int v2, .ref 132]) (c1, c2) st = if (x4 + (nI 2)) < 0 ∨ X.1 ≤ (x4 + (nI 2)).toNatClampNeg then none else lw X d n k 1223 (lwL x4 (some (.int v1)) none none) ([.int (X.2 (x4 + (nI 2)).toNatClampNeg), .int v2, .ref 132]) (c1, c2) st := rfl
set_option maxRecDepth 100000 in
set_option maxHeartbeats 100000 in
theorem lwp_1223_370 {X : Nat × (Nat → Int32)} {d n k : Nat} {x4 : Int32} {v1 : Int32} {v2 : Int32} {v3 : Int32} {c1 c2 : Nat} {st : aSt} : lw X d n (k + 5) 1223 (lwL x4 (some (.int v1)) none none) ([.int v3, .int v2, .ref 132]) (c1, c2) st = if (x4 + (nI 3)) < 0 ∨ X.1 ≤ (x4 + (nI 3)).toNatClampNeg then none else lw X d n k 1228 (lwL x4 (some (.int v1)) none none) ([.int (X.2 (x4 + (nI 3)).toNatClampNeg), .int v3, .int v2, .ref 132]) (c1, c2) st := rfl
set_option maxRecDepth 100000 in
set_option maxHeartbeats 100000 in
theorem lwp_1228_365 {X : Nat × (Nat → Int32)} {d n k : Nat} {x4 : Int32} {v1 : Int32} {v2 : Int32} {v3 : Int32} {v4 : Int32} {c1 c2 : Nat} {st : aSt} : lw X d n (k + 1) 1228 (lwL x4 (some (.int v1)) none none) ([.int v4, .int v3, .int v2, .ref 132]) (c1, c2) st = if c1 + 0 ≤ 601024 ∧ c2 + 0 ≤ 7293034 then cI (am_call X aP d 255 [.ref 132, .int v2, .int v3, .int v4] st) (fun r1 s1 => lw X d n k 1229 (lwL x4 (some (.int v1)) none none) ([.int r1]) (c1 + 0, c2 + 0) (kp st s1)) (fun e s1 => rX e (kp st s1)) else none := rfl
set_option maxRecDepth 100000 in
set_option maxHeartbeats 100000 in
theorem lwp_1229_364 {X : Nat × (Nat → Int32)} {d n k : Nat} {x4 : Int32} {v1 : Int32} {v2 : Int32} {c1 c2 : Nat} {st : aSt} : lw X d n (k + 3) 1229 (lwL x4 (some (.int v1)) none none) ([.int v2]) (c1, c2) st = if c1 + 0 ≤ 601024 ∧ c2 + 0 ≤ 7293034 then cI (am_call X aP d 152 [.ref 132] st) (fun r1 s1 => lw X d n k 1232 (lwL x4 (some (.int v1)) (some (.int v2)) none) ([.int r1]) (c1 + 0, c2 + 0) (kp st s1)) (fun e s1 => rX e (kp st s1)) else none := rfl
set_option maxRecDepth 100000 in
set_option maxHeartbeats 100000 in
theorem lwp_1232_361 {X : Nat × (Nat → Int32)} {d n k : Nat} {x4 : Int32} {v1 : Int32} {v2 : Int32} {v3 : Int32} {c1 c2 : Nat} {st : aSt} : lw X d n (k + 4) 1232 (lwL x4 (some (.int v1)) (some (.int v2)) none) ([.int v3]) (c1, c2) st = if v3 = v1 then lw X d n (k + 2) 1236 (lwL x4 (some (.int v1)) (some (.int v2)) none) ([]) (c1, c2) st else rI (nI 0) st := rfl
set_option maxRecDepth 100000 in
set_option maxHeartbeats 100000 in
theorem lwp_1236_359 {X : Nat × (Nat → Int32)} {d n k : Nat} {x4 : Int32} {v1 : Int32} {v2 : Int32} {c1 c2 : Nat} {st : aSt} : lw X d n (k + 4) 1236 (lwL x4 (some (.int v1)) (some (.int v2)) none) ([]) (c1, c2) st = if v1 = 0 then lw X d n (k + 2) 1238 (lwL x4 (some (.int v1)) (some (.int v2)) none) ([]) (c1, c2) st else aR X d m_L_law_ n 1561 (lwL x4 none none none) (c1, c2) st := rfl
set_option maxRecDepth 100000 in
set_option maxHeartbeats 100000 in
theorem lwp_1238_357 {X : Nat × (Nat → Int32)} {d n k : Nat} {x4 : Int32} {v1 : Int32} {v2 : Int32} {c1 c2 : Nat} {st : aSt} : lw X d n (k + 3) 1238 (lwL x4 (some (.int v1)) (some (.int v2)) none) ([]) (c1, c2) st = if (nI 0) < 0 ∨ 1 ≤ (nI 0).toNatClampNeg then none else lw X d n k 1241 (lwL x4 (some (.int v1)) (some (.int v2)) none) ([.long (gJ st 158 (nI 0).toNatClampNeg)]) (c1, c2) st := rfl
set_option maxRecDepth 100000 in
set_option maxHeartbeats 100000 in
theorem lwp_1241_354 {X : Nat × (Nat → Int32)} {d n k : Nat} {x4 : Int32} {v1 : Int32} {v2 : Int32} {v3 : Int64} {c1 c2 : Nat} {st : aSt} : lw X d n (k + 12) 1241 (lwL x4 (some (.int v1)) (some (.int v2)) none) ([.long v3]) (c1, c2) st = if lg_cmp (v3) (v2.toInt64) = 0 then aR X d m_L_law_ n 1561 (lwL x4 none none none) (c1, c2) st else rI (nI 0) st := rfl
set_option maxRecDepth 100000 in
set_option maxHeartbeats 100000 in
theorem lwp_1248_400 {X : Nat × (Nat → Int32)} {d n k : Nat} {x4 : Int32}  {c1 c2 : Nat} {st : aSt} : lw X d n (k + 6) 1248 (lwL x4 none none none) ([]) (c1, c2) st = if (x4 + (nI 1)) < 0 ∨ X.1 ≤ (x4 + (nI 1)).toNatClampNeg then none else lw X d n k 1254 (lwL x4 none none none) ([.int (X.2 (x4 + (nI 1)).toNatClampNeg), .ref 0]) (c1, c2) st := rfl
set_option maxRecDepth 100000 in
set_option maxHeartbeats 100000 in
theorem lwp_1254_394 {X : Nat × (Nat → Int32)} {d n k : Nat} {x4 : Int32} {v1 : Int32} {c1 c2 : Nat} {st : aSt} : lw X d n (k + 2) 1254 (lwL x4 none none none) ([.int v1, .ref 0]) (c1, c2) st = if c1 + 1 ≤ 601024 ∧ c2 + 6 ≤ 7293034 then cI (am_call X aP d 293 [.ref 0, .int v1, .ref 158] st) (fun r1 s1 => lw X d n k 1256 (lwL x4 none none none) ([.int r1]) (c1 + 1, c2 + 6) (kp st s1)) (fun e s1 => rX e (kp st s1)) else none := rfl
set_option maxRecDepth 100000 in
set_option maxHeartbeats 100000 in
theorem lwp_1256_392 {X : Nat × (Nat → Int32)} {d n k : Nat} {x4 : Int32} {v1 : Int32} {c1 c2 : Nat} {st : aSt} : lw X d n (k + 7) 1256 (lwL x4 none none none) ([.int v1]) (c1, c2) st = if (x4 + (nI 1)) < 0 ∨ X.1 ≤ (x4 + (nI 1)).toNatClampNeg then none else lw X d n k 1263 (lwL x4 (some (.int v1)) none none) ([.int (X.2 (x4 + (nI 1)).toNatClampNeg), .ref 132]) (c1, c2) st := rfl
set_option maxRecDepth 100000 in
set_option maxHeartbeats 100000 in
theorem lwp_1263_385 {X : Nat × (Nat → Int32)} {d n k : Nat} {x4 : Int32} {v1 : Int32} {v2 : Int32} {c1 c2 : Nat} {st : aSt} : lw X d n (k + 1) 1263 (lwL x4 (some (.int v1)) none none) ([.int v2, .ref 132]) (c1, c2) st = if c1 + 0 ≤ 601024 ∧ c2 + 0 ≤ 7293034 then cI (am_call X aP d 256 [.ref 132, .int v2] st) (fun r1 s1 => lw X d n k 1264 (lwL x4 (some (.int v1)) none none) ([.int r1]) (c1 + 0, c2 + 0) (kp st s1)) (fun e s1 => rX e (kp st s1)) else none := rfl
set_option maxRecDepth 100000 in
set_option maxHeartbeats 100000 in
theorem lwp_1264_384 {X : Nat × (Nat → Int32)} {d n k : Nat} {x4 : Int32} {v1 : Int32} {v2 : Int32} {c1 c2 : Nat} {st : aSt} : lw X d n (k + 3) 1264 (lwL x4 (some (.int v1)) none none) ([.int v2]) (c1, c2) st = if c1 + 0 ≤ 601024 ∧ c2 + 0 ≤ 7293034 then cI (am_call X aP d 152 [.ref 132] st) (fun r1 s1 => lw X d n k 1267 (lwL x4 (some (.int v1)) (some (.int v2)) none) ([.int r1]) (c1 + 0, c2 + 0) (kp st s1)) (fun e s1 => rX e (kp st s1)) else none := rfl
set_option maxRecDepth 100000 in
set_option maxHeartbeats 100000 in
theorem lwp_1267_381 {X : Nat × (Nat → Int32)} {d n k : Nat} {x4 : Int32} {v1 : Int32} {v2 : Int32} {v3 : Int32} {c1 c2 : Nat} {st : aSt} : lw X d n (k + 4) 1267 (lwL x4 (some (.int v1)) (some (.int v2)) none) ([.int v3]) (c1, c2) st = if v3 = v1 then lw X d n (k + 2) 1271 (lwL x4 (some (.int v1)) (some (.int v2)) none) ([]) (c1, c2) st else rI (nI 0) st := rfl
set_option maxRecDepth 100000 in
set_option maxHeartbeats 100000 in
theorem lwp_1271_379 {X : Nat × (Nat → Int32)} {d n k : Nat} {x4 : Int32} {v1 : Int32} {v2 : Int32} {c1 c2 : Nat} {st : aSt} : lw X d n (k + 4) 1271 (lwL x4 (some (.int v1)) (some (.int v2)) none) ([]) (c1, c2) st = if v1 = 0 then lw X d n (k + 2) 1273 (lwL x4 (some (.int v1)) (some (.int v2)) none) ([]) (c1, c2) st else aR X d m_L_law_ n 1561 (lwL x4 none none none) (c1, c2) st := rfl
set_option maxRecDepth 100000 in
set_option maxHeartbeats 100000 in
theorem lwp_1273_377 {X : Nat × (Nat → Int32)} {d n k : Nat} {x4 : Int32} {v1 : Int32} {v2 : Int32} {c1 c2 : Nat} {st : aSt} : lw X d n (k + 3) 1273 (lwL x4 (some (.int v1)) (some (.int v2)) none) ([]) (c1, c2) st = if (nI 0) < 0 ∨ 1 ≤ (nI 0).toNatClampNeg then none else lw X d n k 1276 (lwL x4 (some (.int v1)) (some (.int v2)) none) ([.long (gJ st 158 (nI 0).toNatClampNeg)]) (c1, c2) st := rfl
set_option maxRecDepth 100000 in
set_option maxHeartbeats 100000 in
theorem lwp_1276_374 {X : Nat × (Nat → Int32)} {d n k : Nat} {x4 : Int32} {v1 : Int32} {v2 : Int32} {v3 : Int64} {c1 c2 : Nat} {st : aSt} : lw X d n (k + 12) 1276 (lwL x4 (some (.int v1)) (some (.int v2)) none) ([.long v3]) (c1, c2) st = if lg_cmp (v3) (v2.toInt64) = 0 then aR X d m_L_law_ n 1561 (lwL x4 none none none) (c1, c2) st else rI (nI 0) st := rfl
set_option maxRecDepth 100000 in
set_option maxHeartbeats 100000 in
theorem lwp_1283_400 {X : Nat × (Nat → Int32)} {d n k : Nat} {x4 : Int32}  {c1 c2 : Nat} {st : aSt} : lw X d n (k + 6) 1283 (lwL x4 none none none) ([]) (c1, c2) st = if (x4 + (nI 1)) < 0 ∨ X.1 ≤ (x4 + (nI 1)).toNatClampNeg then none else lw X d n k 1289 (lwL x4 none none none) ([.int (X.2 (x4 + (nI 1)).toNatClampNeg), .ref 0]) (c1, c2) st := rfl
set_option maxRecDepth 100000 in
set_option maxHeartbeats 100000 in
theorem lwp_1289_394 {X : Nat × (Nat → Int32)} {d n k : Nat} {x4 : Int32} {v1 : Int32} {c1 c2 : Nat} {st : aSt} : lw X d n (k + 2) 1289 (lwL x4 none none none) ([.int v1, .ref 0]) (c1, c2) st = if c1 + 1 ≤ 601024 ∧ c2 + 6 ≤ 7293034 then cI (am_call X aP d 294 [.ref 0, .int v1, .ref 158] st) (fun r1 s1 => lw X d n k 1291 (lwL x4 none none none) ([.int r1]) (c1 + 1, c2 + 6) (kp st s1)) (fun e s1 => rX e (kp st s1)) else none := rfl
set_option maxRecDepth 100000 in
set_option maxHeartbeats 100000 in
theorem lwp_1291_392 {X : Nat × (Nat → Int32)} {d n k : Nat} {x4 : Int32} {v1 : Int32} {c1 c2 : Nat} {st : aSt} : lw X d n (k + 7) 1291 (lwL x4 none none none) ([.int v1]) (c1, c2) st = if (x4 + (nI 1)) < 0 ∨ X.1 ≤ (x4 + (nI 1)).toNatClampNeg then none else lw X d n k 1298 (lwL x4 (some (.int v1)) none none) ([.int (X.2 (x4 + (nI 1)).toNatClampNeg), .ref 132]) (c1, c2) st := rfl
set_option maxRecDepth 100000 in
set_option maxHeartbeats 100000 in
theorem lwp_1298_385 {X : Nat × (Nat → Int32)} {d n k : Nat} {x4 : Int32} {v1 : Int32} {v2 : Int32} {c1 c2 : Nat} {st : aSt} : lw X d n (k + 1) 1298 (lwL x4 (some (.int v1)) none none) ([.int v2, .ref 132]) (c1, c2) st = if c1 + 0 ≤ 601024 ∧ c2 + 0 ≤ 7293034 then cI (am_call X aP d 257 [.ref 132, .int v2] st) (fun r1 s1 => lw X d n k 1299 (lwL x4 (some (.int v1)) none none) ([.int r1]) (c1 + 0, c2 + 0) (kp st s1)) (fun e s1 => rX e (kp st s1)) else none := rfl
set_option maxRecDepth 100000 in
set_option maxHeartbeats 100000 in
theorem lwp_1299_384 {X : Nat × (Nat → Int32)} {d n k : Nat} {x4 : Int32} {v1 : Int32} {v2 : Int32} {c1 c2 : Nat} {st : aSt} : lw X d n (k + 3) 1299 (lwL x4 (some (.int v1)) none none) ([.int v2]) (c1, c2) st = if c1 + 0 ≤ 601024 ∧ c2 + 0 ≤ 7293034 then cI (am_call X aP d 152 [.ref 132] st) (fun r1 s1 => lw X d n k 1302 (lwL x4 (some (.int v1)) (some (.int v2)) none) ([.int r1]) (c1 + 0, c2 + 0) (kp st s1)) (fun e s1 => rX e (kp st s1)) else none := rfl
set_option maxRecDepth 100000 in
set_option maxHeartbeats 100000 in
theorem lwp_1302_381 {X : Nat × (Nat → Int32)} {d n k : Nat} {x4 : Int32} {v1 : Int32} {v2 : Int32} {v3 : Int32} {c1 c2 : Nat} {st : aSt} : lw X d n (k + 4) 1302 (lwL x4 (some (.int v1)) (some (.int v2)) none) ([.int v3]) (c1, c2) st = if v3 = v1 then lw X d n (k + 2) 1306 (lwL x4 (some (.int v1)) (some (.int v2)) none) ([]) (c1, c2) st else rI (nI 0) st := rfl
set_option maxRecDepth 100000 in
set_option maxHeartbeats 100000 in
theorem lwp_1306_379 {X : Nat × (Nat → Int32)} {d n k : Nat} {x4 : Int32} {v1 : Int32} {v2 : Int32} {c1 c2 : Nat} {st : aSt} : lw X d n (k + 4) 1306 (lwL x4 (some (.int v1)) (some (.int v2)) none) ([]) (c1, c2) st = if v1 = 0 then lw X d n (k + 2) 1308 (lwL x4 (some (.int v1)) (some (.int v2)) none) ([]) (c1, c2) st else aR X d m_L_law_ n 1561 (lwL x4 none none none) (c1, c2) st := rfl
set_option maxRecDepth 100000 in
set_option maxHeartbeats 100000 in
theorem lwp_1308_377 {X : Nat × (Nat → Int32)} {d n k : Nat} {x4 : Int32} {v1 : Int32} {v2 : Int32} {c1 c2 : Nat} {st : aSt} : lw X d n (k + 3) 1308 (lwL x4 (some (.int v1)) (some (.int v2)) none) ([]) (c1, c2) st = if (nI 0) < 0 ∨ 1 ≤ (nI 0).toNatClampNeg then none else lw X d n k 1311 (lwL x4 (some (.int v1)) (some (.int v2)) none) ([.long (gJ st 158 (nI 0).toNatClampNeg)]) (c1, c2) st := rfl
set_option maxRecDepth 100000 in
set_option maxHeartbeats 100000 in
theorem lwp_1311_374 {X : Nat × (Nat → Int32)} {d n k : Nat} {x4 : Int32} {v1 : Int32} {v2 : Int32} {v3 : Int64} {c1 c2 : Nat} {st : aSt} : lw X d n (k + 12) 1311 (lwL x4 (some (.int v1)) (some (.int v2)) none) ([.long v3]) (c1, c2) st = if lg_cmp (v3) (v2.toInt64) = 0 then aR X d m_L_law_ n 1561 (lwL x4 none none none) (c1, c2) st else rI (nI 0) st := rfl
set_option maxRecDepth 100000 in
set_option maxHeartbeats 100000 in
theorem lwp_1318_400 {X : Nat × (Nat → Int32)} {d n k : Nat} {x4 : Int32}  {c1 c2 : Nat} {st : aSt} : lw X d n (k + 6) 1318 (lwL x4 none none none) ([]) (c1, c2) st = if (x4 + (nI 1)) < 0 ∨ X.1 ≤ (x4 + (nI 1)).toNatClampNeg then none else lw X d n k 1324 (lwL x4 none none none) ([.int (X.2 (x4 + (nI 1)).toNatClampNeg), .ref 0]) (c1, c2) st := rfl
set_option maxRecDepth 100000 in
set_option maxHeartbeats 100000 in
theorem lwp_1324_394 {X : Nat × (Nat → Int32)} {d n k : Nat} {x4 : Int32} {v1 : Int32} {c1 c2 : Nat} {st : aSt} : lw X d n (k + 5) 1324 (lwL x4 none none none) ([.int v1, .ref 0]) (c1, c2) st = if (x4 + (nI 2)) < 0 ∨ X.1 ≤ (x4 + (nI 2)).toNatClampNeg then none else lw X d n k 1329 (lwL x4 none none none) ([.int (X.2 (x4 + (nI 2)).toNatClampNeg), .int v1, .ref 0]) (c1, c2) st := rfl
set_option maxRecDepth 100000 in
set_option maxHeartbeats 100000 in
theorem lwp_1329_389 {X : Nat × (Nat → Int32)} {d n k : Nat} {x4 : Int32} {v1 : Int32} {v2 : Int32} {c1 c2 : Nat} {st : aSt} : lw X d n (k + 2) 1329 (lwL x4 none none none) ([.int v2, .int v1, .ref 0]) (c1, c2) st = if c1 + 2 ≤ 601024 ∧ c2 + 12 ≤ 7293034 then cI (am_call X aP d 295 [.ref 0, .int v1, .int v2, .ref 158] st) (fun r1 s1 => lw X d n k 1331 (lwL x4 none none none) ([.int r1]) (c1 + 2, c2 + 12) (kp st s1)) (fun e s1 => rX e (kp st s1)) else none := rfl
set_option maxRecDepth 100000 in
set_option maxHeartbeats 100000 in
theorem lwp_1331_387 {X : Nat × (Nat → Int32)} {d n k : Nat} {x4 : Int32} {v1 : Int32} {c1 c2 : Nat} {st : aSt} : lw X d n (k + 7) 1331 (lwL x4 none none none) ([.int v1]) (c1, c2) st = if (x4 + (nI 1)) < 0 ∨ X.1 ≤ (x4 + (nI 1)).toNatClampNeg then none else lw X d n k 1338 (lwL x4 (some (.int v1)) none none) ([.int (X.2 (x4 + (nI 1)).toNatClampNeg), .ref 132]) (c1, c2) st := rfl
set_option maxRecDepth 100000 in
set_option maxHeartbeats 100000 in
theorem lwp_1338_380 {X : Nat × (Nat → Int32)} {d n k : Nat} {x4 : Int32} {v1 : Int32} {v2 : Int32} {c1 c2 : Nat} {st : aSt} : lw X d n (k + 5) 1338 (lwL x4 (some (.int v1)) none none) ([.int v2, .ref 132]) (c1, c2) st = if (x4 + (nI 2)) < 0 ∨ X.1 ≤ (x4 + (nI 2)).toNatClampNeg then none else lw X d n k 1343 (lwL x4 (some (.int v1)) none none) ([.int (X.2 (x4 + (nI 2)).toNatClampNeg), .int v2, .ref 132]) (c1, c2) st := rfl
set_option maxRecDepth 100000 in
set_option maxHeartbeats 100000 in
theorem lwp_1343_375 {X : Nat × (Nat → Int32)} {d n k : Nat} {x4 : Int32} {v1 : Int32} {v2 : Int32} {v3 : Int32} {c1 c2 : Nat} {st : aSt} : lw X d n (k + 1) 1343 (lwL x4 (some (.int v1)) none none) ([.int v3, .int v2, .ref 132]) (c1, c2) st = if c1 + 0 ≤ 601024 ∧ c2 + 0 ≤ 7293034 then cI (am_call X aP d 234 [.ref 132, .int v2, .int v3] st) (fun r1 s1 => lw X d n k 1344 (lwL x4 (some (.int v1)) none none) ([.int r1]) (c1 + 0, c2 + 0) (kp st s1)) (fun e s1 => rX e (kp st s1)) else none := rfl
set_option maxRecDepth 100000 in
set_option maxHeartbeats 100000 in
theorem lwp_1344_374 {X : Nat × (Nat → Int32)} {d n k : Nat} {x4 : Int32} {v1 : Int32} {v2 : Int32} {c1 c2 : Nat} {st : aSt} : lw X d n (k + 3) 1344 (lwL x4 (some (.int v1)) none none) ([.int v2]) (c1, c2) st = if c1 + 0 ≤ 601024 ∧ c2 + 0 ≤ 7293034 then cI (am_call X aP d 152 [.ref 132] st) (fun r1 s1 => lw X d n k 1347 (lwL x4 (some (.int v1)) (some (.int v2)) none) ([.int r1]) (c1 + 0, c2 + 0) (kp st s1)) (fun e s1 => rX e (kp st s1)) else none := rfl
set_option maxRecDepth 100000 in
set_option maxHeartbeats 100000 in
theorem lwp_1347_371 {X : Nat × (Nat → Int32)} {d n k : Nat} {x4 : Int32} {v1 : Int32} {v2 : Int32} {v3 : Int32} {c1 c2 : Nat} {st : aSt} : lw X d n (k + 4) 1347 (lwL x4 (some (.int v1)) (some (.int v2)) none) ([.int v3]) (c1, c2) st = if v3 = v1 then lw X d n (k + 2) 1351 (lwL x4 (some (.int v1)) (some (.int v2)) none) ([]) (c1, c2) st else rI (nI 0) st := rfl
set_option maxRecDepth 100000 in
set_option maxHeartbeats 100000 in
theorem lwp_1351_369 {X : Nat × (Nat → Int32)} {d n k : Nat} {x4 : Int32} {v1 : Int32} {v2 : Int32} {c1 c2 : Nat} {st : aSt} : lw X d n (k + 4) 1351 (lwL x4 (some (.int v1)) (some (.int v2)) none) ([]) (c1, c2) st = if v1 = 0 then lw X d n (k + 2) 1353 (lwL x4 (some (.int v1)) (some (.int v2)) none) ([]) (c1, c2) st else aR X d m_L_law_ n 1561 (lwL x4 none none none) (c1, c2) st := rfl
set_option maxRecDepth 100000 in
set_option maxHeartbeats 100000 in
theorem lwp_1353_367 {X : Nat × (Nat → Int32)} {d n k : Nat} {x4 : Int32} {v1 : Int32} {v2 : Int32} {c1 c2 : Nat} {st : aSt} : lw X d n (k + 3) 1353 (lwL x4 (some (.int v1)) (some (.int v2)) none) ([]) (c1, c2) st = if (nI 0) < 0 ∨ 1 ≤ (nI 0).toNatClampNeg then none else lw X d n k 1356 (lwL x4 (some (.int v1)) (some (.int v2)) none) ([.long (gJ st 158 (nI 0).toNatClampNeg)]) (c1, c2) st := rfl
set_option maxRecDepth 100000 in
set_option maxHeartbeats 100000 in
theorem lwp_1356_364 {X : Nat × (Nat → Int32)} {d n k : Nat} {x4 : Int32} {v1 : Int32} {v2 : Int32} {v3 : Int64} {c1 c2 : Nat} {st : aSt} : lw X d n (k + 12) 1356 (lwL x4 (some (.int v1)) (some (.int v2)) none) ([.long v3]) (c1, c2) st = if lg_cmp (v3) (v2.toInt64) = 0 then aR X d m_L_law_ n 1561 (lwL x4 none none none) (c1, c2) st else rI (nI 0) st := rfl
set_option maxRecDepth 100000 in
set_option maxHeartbeats 100000 in
theorem lwp_1363_400 {X : Nat × (Nat → Int32)} {d n k : Nat} {x4 : Int32}  {c1 c2 : Nat} {st : aSt} : lw X d n (k + 6) 1363 (lwL x4 none none none) ([]) (c1, c2) st = if (x4 + (nI 1)) < 0 ∨ X.1 ≤ (x4 + (nI 1)).toNatClampNeg then none else lw X d n k 1369 (lwL x4 none none none) ([.int (X.2 (x4 + (nI 1)).toNatClampNeg), .ref 0]) (c1, c2) st := rfl
set_option maxRecDepth 100000 in
set_option maxHeartbeats 100000 in
theorem lwp_1369_394 {X : Nat × (Nat → Int32)} {d n k : Nat} {x4 : Int32} {v1 : Int32} {c1 c2 : Nat} {st : aSt} : lw X d n (k + 5) 1369 (lwL x4 none none none) ([.int v1, .ref 0]) (c1, c2) st = if (x4 + (nI 2)) < 0 ∨ X.1 ≤ (x4 + (nI 2)).toNatClampNeg then none else lw X d n k 1374 (lwL x4 none none none) ([.int (X.2 (x4 + (nI 2)).toNatClampNeg), .int v1, .ref 0]) (c1, c2) st := rfl
set_option maxRecDepth 100000 in
set_option maxHeartbeats 100000 in
theorem lwp_1374_389 {X : Nat × (Nat → Int32)} {d n k : Nat} {x4 : Int32} {v1 : Int32} {v2 : Int32} {c1 c2 : Nat} {st : aSt} : lw X d n (k + 5) 1374 (lwL x4 none none none) ([.int v2, .int v1, .ref 0]) (c1, c2) st = if (x4 + (nI 3)) < 0 ∨ X.1 ≤ (x4 + (nI 3)).toNatClampNeg then none else lw X d n k 1379 (lwL x4 none none none) ([.int (X.2 (x4 + (nI 3)).toNatClampNeg), .int v2, .int v1, .ref 0]) (c1, c2) st := rfl
set_option maxRecDepth 100000 in
set_option maxHeartbeats 100000 in
theorem lwp_1379_384 {X : Nat × (Nat → Int32)} {d n k : Nat} {x4 : Int32} {v1 : Int32} {v2 : Int32} {v3 : Int32} {c1 c2 : Nat} {st : aSt} : lw X d n (k + 5) 1379 (lwL x4 none none none) ([.int v3, .int v2, .int v1, .ref 0]) (c1, c2) st = if (x4 + (nI 4)) < 0 ∨ X.1 ≤ (x4 + (nI 4)).toNatClampNeg then none else lw X d n k 1384 (lwL x4 none none none) ([.int (X.2 (x4 + (nI 4)).toNatClampNeg), .int v3, .int v2, .int v1, .ref 0]) (c1, c2) st := rfl
set_option maxRecDepth 100000 in
set_option maxHeartbeats 100000 in
theorem lwp_1384_379 {X : Nat × (Nat → Int32)} {d n k : Nat} {x4 : Int32} {v1 : Int32} {v2 : Int32} {v3 : Int32} {v4 : Int32} {c1 c2 : Nat} {st : aSt} : lw X d n (k + 2) 1384 (lwL x4 none none none) ([.int v4, .int v3, .int v2, .int v1, .ref 0]) (c1, c2) st = if c1 + 1 ≤ 601024 ∧ c2 + 6 ≤ 7293034 then cI (am_call X aP d 296 [.ref 0, .int v1, .int v2, .int v3, .int v4, .ref 158] st) (fun r1 s1 => lw X d n k 1386 (lwL x4 none none none) ([.int r1]) (c1 + 1, c2 + 6) (kp st s1)) (fun e s1 => rX e (kp st s1)) else none := rfl
set_option maxRecDepth 100000 in
set_option maxHeartbeats 100000 in
theorem lwp_1386_377 {X : Nat × (Nat → Int32)} {d n k : Nat} {x4 : Int32} {v1 : Int32} {c1 c2 : Nat} {st : aSt} : lw X d n (k + 7) 1386 (lwL x4 none none none) ([.int v1]) (c1, c2) st = if (x4 + (nI 1)) < 0 ∨ X.1 ≤ (x4 + (nI 1)).toNatClampNeg then none else lw X d n k 1393 (lwL x4 (some (.int v1)) none none) ([.int (X.2 (x4 + (nI 1)).toNatClampNeg), .ref 132]) (c1, c2) st := rfl
set_option maxRecDepth 100000 in
set_option maxHeartbeats 100000 in
theorem lwp_1393_370 {X : Nat × (Nat → Int32)} {d n k : Nat} {x4 : Int32} {v1 : Int32} {v2 : Int32} {c1 c2 : Nat} {st : aSt} : lw X d n (k + 5) 1393 (lwL x4 (some (.int v1)) none none) ([.int v2, .ref 132]) (c1, c2) st = if (x4 + (nI 2)) < 0 ∨ X.1 ≤ (x4 + (nI 2)).toNatClampNeg then none else lw X d n k 1398 (lwL x4 (some (.int v1)) none none) ([.int (X.2 (x4 + (nI 2)).toNatClampNeg), .int v2, .ref 132]) (c1, c2) st := rfl
set_option maxRecDepth 100000 in
set_option maxHeartbeats 100000 in
theorem lwp_1398_365 {X : Nat × (Nat → Int32)} {d n k : Nat} {x4 : Int32} {v1 : Int32} {v2 : Int32} {v3 : Int32} {c1 c2 : Nat} {st : aSt} : lw X d n (k + 5) 1398 (lwL x4 (some (.int v1)) none none) ([.int v3, .int v2, .ref 132]) (c1, c2) st = if (x4 + (nI 3)) < 0 ∨ X.1 ≤ (x4 + (nI 3)).toNatClampNeg then none else lw X d n k 1403 (lwL x4 (some (.int v1)) none none) ([.int (X.2 (x4 + (nI 3)).toNatClampNeg), .int v3, .int v2, .ref 132]) (c1, c2) st := rfl
set_option maxRecDepth 100000 in
set_option maxHeartbeats 100000 in
theorem lwp_1403_360 {X : Nat × (Nat → Int32)} {d n k : Nat} {x4 : Int32} {v1 : Int32} {v2 : Int32} {v3 : Int32} {v4 : Int32} {c1 c2 : Nat} {st : aSt} : lw X d n (k + 5) 1403 (lwL x4 (some (.int v1)) none none) ([.int v4, .int v3, .int v2, .ref 132]) (c1, c2) st = if (x4 + (nI 4)) < 0 ∨ X.1 ≤ (x4 + (nI 4)).toNatClampNeg then none else lw X d n k 1408 (lwL x4 (some (.int v1)) none none) ([.int (X.2 (x4 + (nI 4)).toNatClampNeg), .int v4, .int v3, .int v2, .ref 132]) (c1, c2) st := rfl
set_option maxRecDepth 100000 in
set_option maxHeartbeats 100000 in
theorem lwp_1408_355 {X : Nat × (Nat → Int32)} {d n k : Nat} {x4 : Int32} {v1 : Int32} {v2 : Int32} {v3 : Int32} {v4 : Int32} {v5 : Int32} {c1 c2 : Nat} {st : aSt} : lw X d n (k + 1) 1408 (lwL x4 (some (.int v1)) none none) ([.int v5, .int v4, .int v3, .int v2, .ref 132]) (c1, c2) st = if c1 + 0 ≤ 601024 ∧ c2 + 0 ≤ 7293034 then cI (am_call X aP d 261 [.ref 132, .int v2, .int v3, .int v4, .int v5] st) (fun r1 s1 => lw X d n k 1409 (lwL x4 (some (.int v1)) none none) ([.int r1]) (c1 + 0, c2 + 0) (kp st s1)) (fun e s1 => rX e (kp st s1)) else none := rfl
set_option maxRecDepth 100000 in
set_option maxHeartbeats 100000 in
theorem lwp_1409_354 {X : Nat × (Nat → Int32)} {d n k : Nat} {x4 : Int32} {v1 : Int32} {v2 : Int32} {c1 c2 : Nat} {st : aSt} : lw X d n (k + 3) 1409 (lwL x4 (some (.int v1)) none none) ([.int v2]) (c1, c2) st = if c1 + 0 ≤ 601024 ∧ c2 + 0 ≤ 7293034 then cI (am_call X aP d 152 [.ref 132] st) (fun r1 s1 => lw X d n k 1412 (lwL x4 (some (.int v1)) (some (.int v2)) none) ([.int r1]) (c1 + 0, c2 + 0) (kp st s1)) (fun e s1 => rX e (kp st s1)) else none := rfl
set_option maxRecDepth 100000 in
set_option maxHeartbeats 100000 in
theorem lwp_1412_351 {X : Nat × (Nat → Int32)} {d n k : Nat} {x4 : Int32} {v1 : Int32} {v2 : Int32} {v3 : Int32} {c1 c2 : Nat} {st : aSt} : lw X d n (k + 4) 1412 (lwL x4 (some (.int v1)) (some (.int v2)) none) ([.int v3]) (c1, c2) st = if v3 = v1 then lw X d n (k + 2) 1416 (lwL x4 (some (.int v1)) (some (.int v2)) none) ([]) (c1, c2) st else rI (nI 0) st := rfl
set_option maxRecDepth 100000 in
set_option maxHeartbeats 100000 in
theorem lwp_1416_349 {X : Nat × (Nat → Int32)} {d n k : Nat} {x4 : Int32} {v1 : Int32} {v2 : Int32} {c1 c2 : Nat} {st : aSt} : lw X d n (k + 4) 1416 (lwL x4 (some (.int v1)) (some (.int v2)) none) ([]) (c1, c2) st = if v1 = 0 then lw X d n (k + 2) 1418 (lwL x4 (some (.int v1)) (some (.int v2)) none) ([]) (c1, c2) st else aR X d m_L_law_ n 1561 (lwL x4 none none none) (c1, c2) st := rfl
set_option maxRecDepth 100000 in
set_option maxHeartbeats 100000 in
theorem lwp_1418_347 {X : Nat × (Nat → Int32)} {d n k : Nat} {x4 : Int32} {v1 : Int32} {v2 : Int32} {c1 c2 : Nat} {st : aSt} : lw X d n (k + 3) 1418 (lwL x4 (some (.int v1)) (some (.int v2)) none) ([]) (c1, c2) st = if (nI 0) < 0 ∨ 1 ≤ (nI 0).toNatClampNeg then none else lw X d n k 1421 (lwL x4 (some (.int v1)) (some (.int v2)) none) ([.long (gJ st 158 (nI 0).toNatClampNeg)]) (c1, c2) st := rfl
set_option maxRecDepth 100000 in
set_option maxHeartbeats 100000 in
theorem lwp_1421_344 {X : Nat × (Nat → Int32)} {d n k : Nat} {x4 : Int32} {v1 : Int32} {v2 : Int32} {v3 : Int64} {c1 c2 : Nat} {st : aSt} : lw X d n (k + 12) 1421 (lwL x4 (some (.int v1)) (some (.int v2)) none) ([.long v3]) (c1, c2) st = if lg_cmp (v3) (v2.toInt64) = 0 then aR X d m_L_law_ n 1561 (lwL x4 none none none) (c1, c2) st else rI (nI 0) st := rfl
set_option maxRecDepth 100000 in
set_option maxHeartbeats 100000 in
theorem lwp_1428_400 {X : Nat × (Nat → Int32)} {d n k : Nat} {x4 : Int32}  {c1 c2 : Nat} {st : aSt} : lw X d n (k + 6) 1428 (lwL x4 none none none) ([]) (c1, c2) st = if (x4 + (nI 1)) < 0 ∨ X.1 ≤ (x4 + (nI 1)).toNatClampNeg then none else lw X d n k 1434 (lwL x4 none none none) ([.int (X.2 (x4 + (nI 1)).toNatClampNeg), .ref 0]) (c1, c2) st := rfl
set_option maxRecDepth 100000 in
set_option maxHeartbeats 100000 in
theorem lwp_1434_394 {X : Nat × (Nat → Int32)} {d n k : Nat} {x4 : Int32} {v1 : Int32} {c1 c2 : Nat} {st : aSt} : lw X d n (k + 5) 1434 (lwL x4 none none none) ([.int v1, .ref 0]) (c1, c2) st = if (x4 + (nI 2)) < 0 ∨ X.1 ≤ (x4 + (nI 2)).toNatClampNeg then none else lw X d n k 1439 (lwL x4 none none none) ([.int (X.2 (x4 + (nI 2)).toNatClampNeg), .int v1, .ref 0]) (c1, c2) st := rfl
set_option maxRecDepth 100000 in
set_option maxHeartbeats 100000 in
theorem lwp_1439_389 {X : Nat × (Nat → Int32)} {d n k : Nat} {x4 : Int32} {v1 : Int32} {v2 : Int32} {c1 c2 : Nat} {st : aSt} : lw X d n (k + 5) 1439 (lwL x4 none none none) ([.int v2, .int v1, .ref 0]) (c1, c2) st = if (x4 + (nI 3)) < 0 ∨ X.1 ≤ (x4 + (nI 3)).toNatClampNeg then none else lw X d n k 1444 (lwL x4 none none none) ([.int (X.2 (x4 + (nI 3)).toNatClampNeg), .int v2, .int v1, .ref 0]) (c1, c2) st := rfl
set_option maxRecDepth 100000 in
set_option maxHeartbeats 100000 in
theorem lwp_1444_384 {X : Nat × (Nat → Int32)} {d n k : Nat} {x4 : Int32} {v1 : Int32} {v2 : Int32} {v3 : Int32} {c1 c2 : Nat} {st : aSt} : lw X d n (k + 5) 1444 (lwL x4 none none none) ([.int v3, .int v2, .int v1, .ref 0]) (c1, c2) st = if (x4 + (nI 4)) < 0 ∨ X.1 ≤ (x4 + (nI 4)).toNatClampNeg then none else lw X d n k 1449 (lwL x4 none none none) ([.int (X.2 (x4 + (nI 4)).toNatClampNeg), .int v3, .int v2, .int v1, .ref 0]) (c1, c2) st := rfl
set_option maxRecDepth 100000 in
set_option maxHeartbeats 100000 in
theorem lwp_1449_379 {X : Nat × (Nat → Int32)} {d n k : Nat} {x4 : Int32} {v1 : Int32} {v2 : Int32} {v3 : Int32} {v4 : Int32} {c1 c2 : Nat} {st : aSt} : lw X d n (k + 5) 1449 (lwL x4 none none none) ([.int v4, .int v3, .int v2, .int v1, .ref 0]) (c1, c2) st = if (x4 + (nI 5)) < 0 ∨ X.1 ≤ (x4 + (nI 5)).toNatClampNeg then none else lw X d n k 1454 (lwL x4 none none none) ([.int (X.2 (x4 + (nI 5)).toNatClampNeg), .int v4, .int v3, .int v2, .int v1, .ref 0]) (c1, c2) st := rfl
set_option maxRecDepth 100000 in
set_option maxHeartbeats 100000 in
theorem lwp_1454_374 {X : Nat × (Nat → Int32)} {d n k : Nat} {x4 : Int32} {v1 : Int32} {v2 : Int32} {v3 : Int32} {v4 : Int32} {v5 : Int32} {c1 c2 : Nat} {st : aSt} : lw X d n (k + 5) 1454 (lwL x4 none none none) ([.int v5, .int v4, .int v3, .int v2, .int v1, .ref 0]) (c1, c2) st = if (x4 + (nI 6)) < 0 ∨ X.1 ≤ (x4 + (nI 6)).toNatClampNeg then none else lw X d n k 1459 (lwL x4 none none none) ([.int (X.2 (x4 + (nI 6)).toNatClampNeg), .int v5, .int v4, .int v3, .int v2, .int v1, .ref 0]) (c1, c2) st := rfl
set_option maxRecDepth 100000 in
set_option maxHeartbeats 100000 in
theorem lwp_1459_369 {X : Nat × (Nat → Int32)} {d n k : Nat} {x4 : Int32} {v1 : Int32} {v2 : Int32} {v3 : Int32} {v4 : Int32} {v5 : Int32} {v6 : Int32} {c1 c2 : Nat} {st : aSt} : lw X d n (k + 2) 1459 (lwL x4 none none none) ([.int v6, .int v5, .int v4, .int v3, .int v2, .int v1, .ref 0]) (c1, c2) st = if c1 + 2 ≤ 601024 ∧ c2 + 12 ≤ 7293034 then cI (am_call X aP d 297 [.ref 0, .int v1, .int v2, .int v3, .int v4, .int v5, .int v6, .ref 158] st) (fun r1 s1 => lw X d n k 1461 (lwL x4 none none none) ([.int r1]) (c1 + 2, c2 + 12) (kp st s1)) (fun e s1 => rX e (kp st s1)) else none := rfl
set_option maxRecDepth 100000 in
set_option maxHeartbeats 100000 in
theorem lwp_1461_367 {X : Nat × (Nat → Int32)} {d n k : Nat} {x4 : Int32} {v1 : Int32} {c1 c2 : Nat} {st : aSt} : lw X d n (k + 7) 1461 (lwL x4 none none none) ([.int v1]) (c1, c2) st = if (x4 + (nI 1)) < 0 ∨ X.1 ≤ (x4 + (nI 1)).toNatClampNeg then none else lw X d n k 1468 (lwL x4 (some (.int v1)) none none) ([.int (X.2 (x4 + (nI 1)).toNatClampNeg), .ref 132]) (c1, c2) st := rfl
set_option maxRecDepth 100000 in
set_option maxHeartbeats 100000 in
theorem lwp_1468_360 {X : Nat × (Nat → Int32)} {d n k : Nat} {x4 : Int32} {v1 : Int32} {v2 : Int32} {c1 c2 : Nat} {st : aSt} : lw X d n (k + 5) 1468 (lwL x4 (some (.int v1)) none none) ([.int v2, .ref 132]) (c1, c2) st = if (x4 + (nI 2)) < 0 ∨ X.1 ≤ (x4 + (nI 2)).toNatClampNeg then none else lw X d n k 1473 (lwL x4 (some (.int v1)) none none) ([.int (X.2 (x4 + (nI 2)).toNatClampNeg), .int v2, .ref 132]) (c1, c2) st := rfl
set_option maxRecDepth 100000 in
set_option maxHeartbeats 100000 in
theorem lwp_1473_355 {X : Nat × (Nat → Int32)} {d n k : Nat} {x4 : Int32} {v1 : Int32} {v2 : Int32} {v3 : Int32} {c1 c2 : Nat} {st : aSt} : lw X d n (k + 5) 1473 (lwL x4 (some (.int v1)) none none) ([.int v3, .int v2, .ref 132]) (c1, c2) st = if (x4 + (nI 3)) < 0 ∨ X.1 ≤ (x4 + (nI 3)).toNatClampNeg then none else lw X d n k 1478 (lwL x4 (some (.int v1)) none none) ([.int (X.2 (x4 + (nI 3)).toNatClampNeg), .int v3, .int v2, .ref 132]) (c1, c2) st := rfl
set_option maxRecDepth 100000 in
set_option maxHeartbeats 100000 in
theorem lwp_1478_350 {X : Nat × (Nat → Int32)} {d n k : Nat} {x4 : Int32} {v1 : Int32} {v2 : Int32} {v3 : Int32} {v4 : Int32} {c1 c2 : Nat} {st : aSt} : lw X d n (k + 5) 1478 (lwL x4 (some (.int v1)) none none) ([.int v4, .int v3, .int v2, .ref 132]) (c1, c2) st = if (x4 + (nI 4)) < 0 ∨ X.1 ≤ (x4 + (nI 4)).toNatClampNeg then none else lw X d n k 1483 (lwL x4 (some (.int v1)) none none) ([.int (X.2 (x4 + (nI 4)).toNatClampNeg), .int v4, .int v3, .int v2, .ref 132]) (c1, c2) st := rfl
set_option maxRecDepth 100000 in
set_option maxHeartbeats 100000 in
theorem lwp_1483_345 {X : Nat × (Nat → Int32)} {d n k : Nat} {x4 : Int32} {v1 : Int32} {v2 : Int32} {v3 : Int32} {v4 : Int32} {v5 : Int32} {c1 c2 : Nat} {st : aSt} : lw X d n (k + 5) 1483 (lwL x4 (some (.int v1)) none none) ([.int v5, .int v4, .int v3, .int v2, .ref 132]) (c1, c2) st = if (x4 + (nI 5)) < 0 ∨ X.1 ≤ (x4 + (nI 5)).toNatClampNeg then none else lw X d n k 1488 (lwL x4 (some (.int v1)) none none) ([.int (X.2 (x4 + (nI 5)).toNatClampNeg), .int v5, .int v4, .int v3, .int v2, .ref 132]) (c1, c2) st := rfl
set_option maxRecDepth 100000 in
set_option maxHeartbeats 100000 in
theorem lwp_1488_340 {X : Nat × (Nat → Int32)} {d n k : Nat} {x4 : Int32} {v1 : Int32} {v2 : Int32} {v3 : Int32} {v4 : Int32} {v5 : Int32} {v6 : Int32} {c1 c2 : Nat} {st : aSt} : lw X d n (k + 5) 1488 (lwL x4 (some (.int v1)) none none) ([.int v6, .int v5, .int v4, .int v3, .int v2, .ref 132]) (c1, c2) st = if (x4 + (nI 6)) < 0 ∨ X.1 ≤ (x4 + (nI 6)).toNatClampNeg then none else lw X d n k 1493 (lwL x4 (some (.int v1)) none none) ([.int (X.2 (x4 + (nI 6)).toNatClampNeg), .int v6, .int v5, .int v4, .int v3, .int v2, .ref 132]) (c1, c2) st := rfl
set_option maxRecDepth 100000 in
set_option maxHeartbeats 100000 in
theorem lwp_1493_335 {X : Nat × (Nat → Int32)} {d n k : Nat} {x4 : Int32} {v1 : Int32} {v2 : Int32} {v3 : Int32} {v4 : Int32} {v5 : Int32} {v6 : Int32} {v7 : Int32} {c1 c2 : Nat} {st : aSt} : lw X d n (k + 1) 1493 (lwL x4 (some (.int v1)) none none) ([.int v7, .int v6, .int v5, .int v4, .int v3, .int v2, .ref 132]) (c1, c2) st = if c1 + 0 ≤ 601024 ∧ c2 + 0 ≤ 7293034 then cI (am_call X aP d 262 [.ref 132, .int v2, .int v3, .int v4, .int v5, .int v6, .int v7] st) (fun r1 s1 => lw X d n k 1494 (lwL x4 (some (.int v1)) none none) ([.int r1]) (c1 + 0, c2 + 0) (kp st s1)) (fun e s1 => rX e (kp st s1)) else none := rfl
set_option maxRecDepth 100000 in
set_option maxHeartbeats 100000 in
theorem lwp_1494_334 {X : Nat × (Nat → Int32)} {d n k : Nat} {x4 : Int32} {v1 : Int32} {v2 : Int32} {c1 c2 : Nat} {st : aSt} : lw X d n (k + 3) 1494 (lwL x4 (some (.int v1)) none none) ([.int v2]) (c1, c2) st = if c1 + 0 ≤ 601024 ∧ c2 + 0 ≤ 7293034 then cI (am_call X aP d 152 [.ref 132] st) (fun r1 s1 => lw X d n k 1497 (lwL x4 (some (.int v1)) (some (.int v2)) none) ([.int r1]) (c1 + 0, c2 + 0) (kp st s1)) (fun e s1 => rX e (kp st s1)) else none := rfl
set_option maxRecDepth 100000 in
set_option maxHeartbeats 100000 in
theorem lwp_1497_331 {X : Nat × (Nat → Int32)} {d n k : Nat} {x4 : Int32} {v1 : Int32} {v2 : Int32} {v3 : Int32} {c1 c2 : Nat} {st : aSt} : lw X d n (k + 4) 1497 (lwL x4 (some (.int v1)) (some (.int v2)) none) ([.int v3]) (c1, c2) st = if v3 = v1 then lw X d n (k + 2) 1501 (lwL x4 (some (.int v1)) (some (.int v2)) none) ([]) (c1, c2) st else rI (nI 0) st := rfl
set_option maxRecDepth 100000 in
set_option maxHeartbeats 100000 in
theorem lwp_1501_329 {X : Nat × (Nat → Int32)} {d n k : Nat} {x4 : Int32} {v1 : Int32} {v2 : Int32} {c1 c2 : Nat} {st : aSt} : lw X d n (k + 4) 1501 (lwL x4 (some (.int v1)) (some (.int v2)) none) ([]) (c1, c2) st = if v1 = 0 then lw X d n (k + 2) 1503 (lwL x4 (some (.int v1)) (some (.int v2)) none) ([]) (c1, c2) st else aR X d m_L_law_ n 1561 (lwL x4 none none none) (c1, c2) st := rfl
set_option maxRecDepth 100000 in
set_option maxHeartbeats 100000 in
theorem lwp_1503_327 {X : Nat × (Nat → Int32)} {d n k : Nat} {x4 : Int32} {v1 : Int32} {v2 : Int32} {c1 c2 : Nat} {st : aSt} : lw X d n (k + 3) 1503 (lwL x4 (some (.int v1)) (some (.int v2)) none) ([]) (c1, c2) st = if (nI 0) < 0 ∨ 1 ≤ (nI 0).toNatClampNeg then none else lw X d n k 1506 (lwL x4 (some (.int v1)) (some (.int v2)) none) ([.long (gJ st 158 (nI 0).toNatClampNeg)]) (c1, c2) st := rfl
set_option maxRecDepth 100000 in
set_option maxHeartbeats 100000 in
theorem lwp_1506_324 {X : Nat × (Nat → Int32)} {d n k : Nat} {x4 : Int32} {v1 : Int32} {v2 : Int32} {v3 : Int64} {c1 c2 : Nat} {st : aSt} : lw X d n (k + 12) 1506 (lwL x4 (some (.int v1)) (some (.int v2)) none) ([.long v3]) (c1, c2) st = if lg_cmp (v3) (v2.toInt64) = 0 then aR X d m_L_law_ n 1561 (lwL x4 none none none) (c1, c2) st else rI (nI 0) st := rfl
set_option maxRecDepth 100000 in
set_option maxHeartbeats 100000 in
theorem lwp_1513_400 {X : Nat × (Nat → Int32)} {d n k : Nat} {x4 : Int32}  {c1 c2 : Nat} {st : aSt} : lw X d n (k + 2) 1513 (lwL x4 none none none) ([]) (c1, c2) st = if c1 + 0 ≤ 601024 ∧ c2 + 0 ≤ 7293034 then cI (am_call X aP d 139 [.ref 0] st) (fun r1 s1 => lw X d n k 1515 (lwL x4 none none none) ([.int r1]) (c1 + 0, c2 + 0) (kp st s1)) (fun e s1 => rX e (kp st s1)) else none := rfl
set_option maxRecDepth 100000 in
set_option maxHeartbeats 100000 in
theorem lwp_1515_398 {X : Nat × (Nat → Int32)} {d n k : Nat} {x4 : Int32} {v1 : Int32} {c1 c2 : Nat} {st : aSt} : lw X d n (k + 2) 1515 (lwL x4 none none none) ([.int v1]) (c1, c2) st = if c1 + 0 ≤ 601024 ∧ c2 + 0 ≤ 7293034 then cI (am_call X aP d 265 [.ref 132] st) (fun r1 s1 => lw X d n k 1517 (lwL x4 none none none) ([.int r1, .int v1]) (c1 + 0, c2 + 0) (kp st s1)) (fun e s1 => rX e (kp st s1)) else none := rfl
set_option maxRecDepth 100000 in
set_option maxHeartbeats 100000 in
theorem lwp_1517_396 {X : Nat × (Nat → Int32)} {d n k : Nat} {x4 : Int32} {v1 : Int32} {v2 : Int32} {c1 c2 : Nat} {st : aSt} : lw X d n (k + 12) 1517 (lwL x4 none none none) ([.int v2, .int v1]) (c1, c2) st = if v1 = v2 then aR X d m_L_law_ n 1561 (lwL x4 none none none) (c1, c2) st else rI (nI 0) st := rfl
set_option maxRecDepth 100000 in
set_option maxHeartbeats 100000 in
theorem lwp_1520_400 {X : Nat × (Nat → Int32)} {d n k : Nat} {x4 : Int32}  {c1 c2 : Nat} {st : aSt} : lw X d n (k + 2) 1520 (lwL x4 none none none) ([]) (c1, c2) st = if c1 + 0 ≤ 601024 ∧ c2 + 0 ≤ 7293034 then cI (am_call X aP d 140 [.ref 0] st) (fun r1 s1 => lw X d n k 1522 (lwL x4 none none none) ([.int r1]) (c1 + 0, c2 + 0) (kp st s1)) (fun e s1 => rX e (kp st s1)) else none := rfl
set_option maxRecDepth 100000 in
set_option maxHeartbeats 100000 in
theorem lwp_1522_398 {X : Nat × (Nat → Int32)} {d n k : Nat} {x4 : Int32} {v1 : Int32} {c1 c2 : Nat} {st : aSt} : lw X d n (k + 2) 1522 (lwL x4 none none none) ([.int v1]) (c1, c2) st = if c1 + 0 ≤ 601024 ∧ c2 + 0 ≤ 7293034 then cI (am_call X aP d 266 [.ref 132] st) (fun r1 s1 => lw X d n k 1524 (lwL x4 none none none) ([.int r1, .int v1]) (c1 + 0, c2 + 0) (kp st s1)) (fun e s1 => rX e (kp st s1)) else none := rfl
set_option maxRecDepth 100000 in
set_option maxHeartbeats 100000 in
theorem lwp_1524_396 {X : Nat × (Nat → Int32)} {d n k : Nat} {x4 : Int32} {v1 : Int32} {v2 : Int32} {c1 c2 : Nat} {st : aSt} : lw X d n (k + 12) 1524 (lwL x4 none none none) ([.int v2, .int v1]) (c1, c2) st = if v1 = v2 then aR X d m_L_law_ n 1561 (lwL x4 none none none) (c1, c2) st else rI (nI 0) st := rfl
set_option maxRecDepth 100000 in
set_option maxHeartbeats 100000 in
theorem lwp_1527_400 {X : Nat × (Nat → Int32)} {d n k : Nat} {x4 : Int32}  {c1 c2 : Nat} {st : aSt} : lw X d n (k + 6) 1527 (lwL x4 none none none) ([]) (c1, c2) st = if (x4 + (nI 1)) < 0 ∨ X.1 ≤ (x4 + (nI 1)).toNatClampNeg then none else lw X d n k 1533 (lwL x4 none none none) ([.int (X.2 (x4 + (nI 1)).toNatClampNeg), .ref 0]) (c1, c2) st := rfl
set_option maxRecDepth 100000 in
set_option maxHeartbeats 100000 in
theorem lwp_1533_394 {X : Nat × (Nat → Int32)} {d n k : Nat} {x4 : Int32} {v1 : Int32} {c1 c2 : Nat} {st : aSt} : lw X d n (k + 1) 1533 (lwL x4 none none none) ([.int v1, .ref 0]) (c1, c2) st = if c1 + 0 ≤ 601024 ∧ c2 + 0 ≤ 7293034 then cI (am_call X aP d 141 [.ref 0, .int v1] st) (fun r1 s1 => lw X d n k 1534 (lwL x4 none none none) ([.int r1]) (c1 + 0, c2 + 0) (kp st s1)) (fun e s1 => rX e (kp st s1)) else none := rfl
set_option maxRecDepth 100000 in
set_option maxHeartbeats 100000 in
theorem lwp_1534_393 {X : Nat × (Nat → Int32)} {d n k : Nat} {x4 : Int32} {v1 : Int32} {c1 c2 : Nat} {st : aSt} : lw X d n (k + 6) 1534 (lwL x4 none none none) ([.int v1]) (c1, c2) st = if (x4 + (nI 1)) < 0 ∨ X.1 ≤ (x4 + (nI 1)).toNatClampNeg then none else lw X d n k 1540 (lwL x4 none none none) ([.int (X.2 (x4 + (nI 1)).toNatClampNeg), .ref 132, .int v1]) (c1, c2) st := rfl
set_option maxRecDepth 100000 in
set_option maxHeartbeats 100000 in
theorem lwp_1540_387 {X : Nat × (Nat → Int32)} {d n k : Nat} {x4 : Int32} {v1 : Int32} {v2 : Int32} {c1 c2 : Nat} {st : aSt} : lw X d n (k + 1) 1540 (lwL x4 none none none) ([.int v2, .ref 132, .int v1]) (c1, c2) st = if c1 + 0 ≤ 601024 ∧ c2 + 0 ≤ 7293034 then cI (am_call X aP d 267 [.ref 132, .int v2] st) (fun r1 s1 => lw X d n k 1541 (lwL x4 none none none) ([.int r1, .int v1]) (c1 + 0, c2 + 0) (kp st s1)) (fun e s1 => rX e (kp st s1)) else none := rfl
set_option maxRecDepth 100000 in
set_option maxHeartbeats 100000 in
theorem lwp_1541_386 {X : Nat × (Nat → Int32)} {d n k : Nat} {x4 : Int32} {v1 : Int32} {v2 : Int32} {c1 c2 : Nat} {st : aSt} : lw X d n (k + 12) 1541 (lwL x4 none none none) ([.int v2, .int v1]) (c1, c2) st = if v1 = v2 then aR X d m_L_law_ n 1561 (lwL x4 none none none) (c1, c2) st else rI (nI 0) st := rfl
set_option maxRecDepth 100000 in
set_option maxHeartbeats 100000 in
theorem lwp_1544_400 {X : Nat × (Nat → Int32)} {d n k : Nat} {x4 : Int32}  {c1 c2 : Nat} {st : aSt} : lw X d n (k + 6) 1544 (lwL x4 none none none) ([]) (c1, c2) st = if (x4 + (nI 1)) < 0 ∨ X.1 ≤ (x4 + (nI 1)).toNatClampNeg then none else lw X d n k 1550 (lwL x4 none none none) ([.int (X.2 (x4 + (nI 1)).toNatClampNeg), .ref 0]) (c1, c2) st := rfl
set_option maxRecDepth 100000 in
set_option maxHeartbeats 100000 in
theorem lwp_1550_394 {X : Nat × (Nat → Int32)} {d n k : Nat} {x4 : Int32} {v1 : Int32} {c1 c2 : Nat} {st : aSt} : lw X d n (k + 1) 1550 (lwL x4 none none none) ([.int v1, .ref 0]) (c1, c2) st = if c1 + 0 ≤ 601024 ∧ c2 + 0 ≤ 7293034 then cI (am_call X aP d 142 [.ref 0, .int v1] st) (fun r1 s1 => lw X d n k 1551 (lwL x4 none none none) ([.int r1]) (c1 + 0, c2 + 0) (kp st s1)) (fun e s1 => rX e (kp st s1)) else none := rfl
set_option maxRecDepth 100000 in
set_option maxHeartbeats 100000 in
theorem lwp_1551_393 {X : Nat × (Nat → Int32)} {d n k : Nat} {x4 : Int32} {v1 : Int32} {c1 c2 : Nat} {st : aSt} : lw X d n (k + 6) 1551 (lwL x4 none none none) ([.int v1]) (c1, c2) st = if (x4 + (nI 1)) < 0 ∨ X.1 ≤ (x4 + (nI 1)).toNatClampNeg then none else lw X d n k 1557 (lwL x4 none none none) ([.int (X.2 (x4 + (nI 1)).toNatClampNeg), .ref 132, .int v1]) (c1, c2) st := rfl
set_option maxRecDepth 100000 in
set_option maxHeartbeats 100000 in
theorem lwp_1557_387 {X : Nat × (Nat → Int32)} {d n k : Nat} {x4 : Int32} {v1 : Int32} {v2 : Int32} {c1 c2 : Nat} {st : aSt} : lw X d n (k + 1) 1557 (lwL x4 none none none) ([.int v2, .ref 132, .int v1]) (c1, c2) st = if c1 + 0 ≤ 601024 ∧ c2 + 0 ≤ 7293034 then cI (am_call X aP d 268 [.ref 132, .int v2] st) (fun r1 s1 => lw X d n k 1558 (lwL x4 none none none) ([.int r1, .int v1]) (c1 + 0, c2 + 0) (kp st s1)) (fun e s1 => rX e (kp st s1)) else none := rfl
set_option maxRecDepth 100000 in
set_option maxHeartbeats 100000 in
theorem lwp_1558_386 {X : Nat × (Nat → Int32)} {d n k : Nat} {x4 : Int32} {v1 : Int32} {v2 : Int32} {c1 c2 : Nat} {st : aSt} : lw X d n (k + 12) 1558 (lwL x4 none none none) ([.int v2, .int v1]) (c1, c2) st = if v1 = v2 then aR X d m_L_law_ n 1561 (lwL x4 none none none) (c1, c2) st else rI (nI 0) st := rfl
