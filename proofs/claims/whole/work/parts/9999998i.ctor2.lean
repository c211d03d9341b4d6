/-! THE CLASS, MADE -/
noncomputable def xi (X : Nat × (Nat → Int32)) (d n k i : Nat) (stk : List Value) (cn : Nat × Nat) (st : aSt) : aRes := am_in X (am_call X aP d) m_X9_init (am_run X (am_call X aP d) m_X9_init n) k (m_X9_init.1.drop i) [some (.ref 0)] stk cn st
set_option maxRecDepth 100000 in
set_option maxHeartbeats 1000000 in
theorem xi_0 {X : Nat × (Nat → Int32)} {d n k : Nat} {st : aSt} {cn : Nat × Nat} : xi X d n (k + 2) 0 [] cn st = xi X d n k 2 [] cn st := rfl
set_option maxRecDepth 100000 in
set_option maxHeartbeats 1000000 in
theorem xa_1 {X : Nat × (Nat → Int32)} {d n k : Nat} {I : Nat → Nat → Int32} {J : Nat → Nat → Int64} {R : Nat → Nat → Option Nat} : xi X d n (k + 3) 2 [] (0, 0) (1, I, J, R) = xi X d n k 5 [.ref 1, .ref 1, .ref 0] (1, 8) (mkNew (1, I, J, R)) := rfl
set_option maxRecDepth 100000 in
set_option maxHeartbeats 1000000 in
theorem xb_1 {X : Nat × (Nat → Int32)} {d n k : Nat} {st : aSt} : xi X d n (k + 1) 5 [.ref 1, .ref 1, .ref 0] (1, 8) st = cV (am_call X aP d 78 [.ref 1] st) (fun s1 => xi X d n k 6 [.ref 1, .ref 0] (2, 608) s1) (fun e s1 => rX e s1) := rfl
set_option maxRecDepth 100000 in
set_option maxHeartbeats 1000000 in
theorem xc_1 {X : Nat × (Nat → Int32)} {d n k : Nat} {I : Nat → Nat → Int32} {J : Nat → Nat → Int64} {R : Nat → Nat → Option Nat} {cn : Nat × Nat} : xi X d n (k + 1) 6 [.ref 1, .ref 0] cn (3, I, J, R) = xi X d n k 7 [] cn (3, I, J, uR R 0 0 (some 1)) := rfl
set_option maxRecDepth 100000 in
set_option maxHeartbeats 1000000 in
theorem xa_3 {X : Nat × (Nat → Int32)} {d n k : Nat} {I : Nat → Nat → Int32} {J : Nat → Nat → Int64} {R : Nat → Nat → Option Nat} : xi X d n (k + 3) 7 [] (2, 608) (3, I, J, R) = xi X d n k 10 [.ref 3, .ref 3, .ref 0] (3, 616) (mkNew (3, I, J, R)) := rfl
set_option maxRecDepth 100000 in
set_option maxHeartbeats 1000000 in
theorem xb_3 {X : Nat × (Nat → Int32)} {d n k : Nat} {st : aSt} : xi X d n (k + 1) 10 [.ref 3, .ref 3, .ref 0] (3, 616) st = cV (am_call X aP d 67 [.ref 3] st) (fun s1 => xi X d n k 11 [.ref 3, .ref 0] (7, 1072) s1) (fun e s1 => rX e s1) := rfl
set_option maxRecDepth 100000 in
set_option maxHeartbeats 1000000 in
theorem xc_3 {X : Nat × (Nat → Int32)} {d n k : Nat} {I : Nat → Nat → Int32} {J : Nat → Nat → Int64} {R : Nat → Nat → Option Nat} {cn : Nat × Nat} : xi X d n (k + 1) 11 [.ref 3, .ref 0] cn (8, I, J, R) = xi X d n k 12 [] cn (8, I, J, uR R 0 1 (some 3)) := rfl
set_option maxRecDepth 100000 in
set_option maxHeartbeats 1000000 in
theorem xa_8 {X : Nat × (Nat → Int32)} {d n k : Nat} {I : Nat → Nat → Int32} {J : Nat → Nat → Int64} {R : Nat → Nat → Option Nat} : xi X d n (k + 3) 12 [] (7, 1072) (8, I, J, R) = xi X d n k 15 [.ref 8, .ref 8, .ref 0] (8, 1083) (mkNew (8, I, J, R)) := rfl
set_option maxRecDepth 100000 in
set_option maxHeartbeats 1000000 in
theorem xb_8 {X : Nat × (Nat → Int32)} {d n k : Nat} {st : aSt} : xi X d n (k + 1) 15 [.ref 8, .ref 8, .ref 0] (8, 1083) st = cV (am_call X aP d 46 [.ref 8] st) (fun s1 => xi X d n k 16 [.ref 8, .ref 0] (16, 1183) s1) (fun e s1 => rX e s1) := rfl
set_option maxRecDepth 100000 in
set_option maxHeartbeats 1000000 in
theorem xc_8 {X : Nat × (Nat → Int32)} {d n k : Nat} {I : Nat → Nat → Int32} {J : Nat → Nat → Int64} {R : Nat → Nat → Option Nat} {cn : Nat × Nat} : xi X d n (k + 1) 16 [.ref 8, .ref 0] cn (17, I, J, R) = xi X d n k 17 [] cn (17, I, J, uR R 0 2 (some 8)) := rfl
set_option maxRecDepth 100000 in
set_option maxHeartbeats 1000000 in
theorem xa_17 {X : Nat × (Nat → Int32)} {d n k : Nat} {I : Nat → Nat → Int32} {J : Nat → Nat → Int64} {R : Nat → Nat → Option Nat} : xi X d n (k + 3) 17 [] (16, 1183) (17, I, J, R) = xi X d n k 20 [.ref 17, .ref 17, .ref 0] (17, 1194) (mkNew (17, I, J, R)) := rfl
set_option maxRecDepth 100000 in
set_option maxHeartbeats 1000000 in
theorem xb_17 {X : Nat × (Nat → Int32)} {d n k : Nat} {st : aSt} : xi X d n (k + 1) 20 [.ref 17, .ref 17, .ref 0] (17, 1194) st = cV (am_call X aP d 46 [.ref 17] st) (fun s1 => xi X d n k 21 [.ref 17, .ref 0] (25, 1294) s1) (fun e s1 => rX e s1) := rfl
set_option maxRecDepth 100000 in
set_option maxHeartbeats 1000000 in
theorem xc_17 {X : Nat × (Nat → Int32)} {d n k : Nat} {I : Nat → Nat → Int32} {J : Nat → Nat → Int64} {R : Nat → Nat → Option Nat} {cn : Nat × Nat} : xi X d n (k + 1) 21 [.ref 17, .ref 0] cn (26, I, J, R) = xi X d n k 22 [] cn (26, I, J, uR R 0 3 (some 17)) := rfl
set_option maxRecDepth 100000 in
set_option maxHeartbeats 1000000 in
theorem xa_26 {X : Nat × (Nat → Int32)} {d n k : Nat} {I : Nat → Nat → Int32} {J : Nat → Nat → Int64} {R : Nat → Nat → Option Nat} : xi X d n (k + 3) 22 [] (25, 1294) (26, I, J, R) = xi X d n k 25 [.ref 26, .ref 26, .ref 0] (26, 1299) (mkNew (26, I, J, R)) := rfl
set_option maxRecDepth 100000 in
set_option maxHeartbeats 1000000 in
theorem xb_26 {X : Nat × (Nat → Int32)} {d n k : Nat} {st : aSt} : xi X d n (k + 1) 25 [.ref 26, .ref 26, .ref 0] (26, 1299) st = cV (am_call X aP d 40 [.ref 26] st) (fun s1 => xi X d n k 26 [.ref 26, .ref 0] (96, 4786) s1) (fun e s1 => rX e s1) := rfl
set_option maxRecDepth 100000 in
set_option maxHeartbeats 1000000 in
theorem xc_26 {X : Nat × (Nat → Int32)} {d n k : Nat} {I : Nat → Nat → Int32} {J : Nat → Nat → Int64} {R : Nat → Nat → Option Nat} {cn : Nat × Nat} : xi X d n (k + 1) 26 [.ref 26, .ref 0] cn (97, I, J, R) = xi X d n k 27 [] cn (97, I, J, uR R 0 4 (some 26)) := rfl
set_option maxRecDepth 100000 in
set_option maxHeartbeats 1000000 in
theorem xa_97 {X : Nat × (Nat → Int32)} {d n k : Nat} {I : Nat → Nat → Int32} {J : Nat → Nat → Int64} {R : Nat → Nat → Option Nat} : xi X d n (k + 3) 27 [] (96, 4786) (97, I, J, R) = xi X d n k 30 [.ref 97, .ref 97, .ref 0] (97, 4791) (mkNew (97, I, J, R)) := rfl
set_option maxRecDepth 100000 in
set_option maxHeartbeats 1000000 in
theorem xb_97 {X : Nat × (Nat → Int32)} {d n k : Nat} {st : aSt} : xi X d n (k + 1) 30 [.ref 97, .ref 97, .ref 0] (97, 4791) st = cV (am_call X aP d 93 [.ref 97] st) (fun s1 => xi X d n k 31 [.ref 97, .ref 0] (99, 4810) s1) (fun e s1 => rX e s1) := rfl
set_option maxRecDepth 100000 in
set_option maxHeartbeats 1000000 in
theorem xc_97 {X : Nat × (Nat → Int32)} {d n k : Nat} {I : Nat → Nat → Int32} {J : Nat → Nat → Int64} {R : Nat → Nat → Option Nat} {cn : Nat × Nat} : xi X d n (k + 1) 31 [.ref 97, .ref 0] cn (100, I, J, R) = xi X d n k 32 [] cn (100, I, J, uR R 0 5 (some 97)) := rfl
set_option maxRecDepth 100000 in
set_option maxHeartbeats 1000000 in
theorem xa_100 {X : Nat × (Nat → Int32)} {d n k : Nat} {I : Nat → Nat → Int32} {J : Nat → Nat → Int64} {R : Nat → Nat → Option Nat} : xi X d n (k + 3) 32 [] (99, 4810) (100, I, J, R) = xi X d n k 35 [.ref 100, .ref 100, .ref 0] (100, 4819) (mkNew (100, I, J, R)) := rfl
set_option maxRecDepth 100000 in
set_option maxHeartbeats 1000000 in
theorem xb_100 {X : Nat × (Nat → Int32)} {d n k : Nat} {st : aSt} : xi X d n (k + 1) 35 [.ref 100, .ref 100, .ref 0] (100, 4819) st = cV (am_call X aP d 17 [.ref 100] st) (fun s1 => xi X d n k 36 [.ref 100, .ref 0] (106, 4877) s1) (fun e s1 => rX e s1) := rfl
set_option maxRecDepth 100000 in
set_option maxHeartbeats 1000000 in
theorem xc_100 {X : Nat × (Nat → Int32)} {d n k : Nat} {I : Nat → Nat → Int32} {J : Nat → Nat → Int64} {R : Nat → Nat → Option Nat} {cn : Nat × Nat} : xi X d n (k + 1) 36 [.ref 100, .ref 0] cn (107, I, J, R) = xi X d n k 37 [] cn (107, I, J, uR R 0 6 (some 100)) := rfl
set_option maxRecDepth 100000 in
set_option maxHeartbeats 1000000 in
theorem xa_107 {X : Nat × (Nat → Int32)} {d n k : Nat} {I : Nat → Nat → Int32} {J : Nat → Nat → Int64} {R : Nat → Nat → Option Nat} : xi X d n (k + 3) 37 [] (106, 4877) (107, I, J, R) = xi X d n k 40 [.ref 107, .ref 107, .ref 0] (107, 4886) (mkNew (107, I, J, R)) := rfl
set_option maxRecDepth 100000 in
set_option maxHeartbeats 1000000 in
theorem xb_107 {X : Nat × (Nat → Int32)} {d n k : Nat} {st : aSt} : xi X d n (k + 1) 40 [.ref 107, .ref 107, .ref 0] (107, 4886) st = cV (am_call X aP d 17 [.ref 107] st) (fun s1 => xi X d n k 41 [.ref 107, .ref 0] (113, 4944) s1) (fun e s1 => rX e s1) := rfl
set_option maxRecDepth 100000 in
set_option maxHeartbeats 1000000 in
theorem xc_107 {X : Nat × (Nat → Int32)} {d n k : Nat} {I : Nat → Nat → Int32} {J : Nat → Nat → Int64} {R : Nat → Nat → Option Nat} {cn : Nat × Nat} : xi X d n (k + 1) 41 [.ref 107, .ref 0] cn (114, I, J, R) = xi X d n k 42 [] cn (114, I, J, uR R 0 7 (some 107)) := rfl
set_option maxRecDepth 100000 in
set_option maxHeartbeats 1000000 in
theorem xa_114 {X : Nat × (Nat → Int32)} {d n k : Nat} {I : Nat → Nat → Int32} {J : Nat → Nat → Int64} {R : Nat → Nat → Option Nat} : xi X d n (k + 3) 42 [] (113, 4944) (114, I, J, R) = xi X d n k 45 [.ref 114, .ref 114, .ref 0] (114, 4949) (mkNew (114, I, J, R)) := rfl
set_option maxRecDepth 100000 in
set_option maxHeartbeats 1000000 in
theorem xb_114 {X : Nat × (Nat → Int32)} {d n k : Nat} {st : aSt} : xi X d n (k + 1) 45 [.ref 114, .ref 114, .ref 0] (114, 4949) st = cV (am_call X aP d 27 [.ref 114] st) (fun s1 => xi X d n k 46 [.ref 114, .ref 0] (118, 5407) s1) (fun e s1 => rX e s1) := rfl
set_option maxRecDepth 100000 in
set_option maxHeartbeats 1000000 in
theorem xc_114 {X : Nat × (Nat → Int32)} {d n k : Nat} {I : Nat → Nat → Int32} {J : Nat → Nat → Int64} {R : Nat → Nat → Option Nat} {cn : Nat × Nat} : xi X d n (k + 1) 46 [.ref 114, .ref 0] cn (119, I, J, R) = xi X d n k 47 [] cn (119, I, J, uR R 0 8 (some 114)) := rfl
set_option maxRecDepth 100000 in
set_option maxHeartbeats 1000000 in
theorem xa_119 {X : Nat × (Nat → Int32)} {d n k : Nat} {I : Nat → Nat → Int32} {J : Nat → Nat → Int64} {R : Nat → Nat → Option Nat} : xi X d n (k + 3) 47 [] (118, 5407) (119, I, J, R) = xi X d n k 50 [.ref 119, .ref 119, .ref 0] (119, 5412) (mkNew (119, I, J, R)) := rfl
set_option maxRecDepth 100000 in
set_option maxHeartbeats 1000000 in
theorem xb_119 {X : Nat × (Nat → Int32)} {d n k : Nat} {st : aSt} : xi X d n (k + 1) 50 [.ref 119, .ref 119, .ref 0] (119, 5412) st = cV (am_call X aP d 27 [.ref 119] st) (fun s1 => xi X d n k 51 [.ref 119, .ref 0] (123, 5870) s1) (fun e s1 => rX e s1) := rfl
set_option maxRecDepth 100000 in
set_option maxHeartbeats 1000000 in
theorem xc_119 {X : Nat × (Nat → Int32)} {d n k : Nat} {I : Nat → Nat → Int32} {J : Nat → Nat → Int64} {R : Nat → Nat → Option Nat} {cn : Nat × Nat} : xi X d n (k + 1) 51 [.ref 119, .ref 0] cn (124, I, J, R) = xi X d n k 52 [] cn (124, I, J, uR R 0 9 (some 119)) := rfl
set_option maxRecDepth 100000 in
set_option maxHeartbeats 1000000 in
theorem xa_124 {X : Nat × (Nat → Int32)} {d n k : Nat} {I : Nat → Nat → Int32} {J : Nat → Nat → Int64} {R : Nat → Nat → Option Nat} : xi X d n (k + 3) 52 [] (123, 5870) (124, I, J, R) = xi X d n k 55 [.ref 124, .ref 124, .ref 0] (124, 5876) (mkNew (124, I, J, R)) := rfl
set_option maxRecDepth 100000 in
set_option maxHeartbeats 1000000 in
theorem xb_124 {X : Nat × (Nat → Int32)} {d n k : Nat} {st : aSt} : xi X d n (k + 1) 55 [.ref 124, .ref 124, .ref 0] (124, 5876) st = cV (am_call X aP d 0 [.ref 124] st) (fun s1 => xi X d n k 56 [.ref 124, .ref 0] (127, 5895) s1) (fun e s1 => rX e s1) := rfl
set_option maxRecDepth 100000 in
set_option maxHeartbeats 1000000 in
theorem xc_124 {X : Nat × (Nat → Int32)} {d n k : Nat} {I : Nat → Nat → Int32} {J : Nat → Nat → Int64} {R : Nat → Nat → Option Nat} {cn : Nat × Nat} : xi X d n (k + 1) 56 [.ref 124, .ref 0] cn (128, I, J, R) = xi X d n k 57 [] cn (128, I, J, uR R 0 10 (some 124)) := rfl
set_option maxRecDepth 100000 in
set_option maxHeartbeats 1000000 in
theorem xa_128 {X : Nat × (Nat → Int32)} {d n k : Nat} {I : Nat → Nat → Int32} {J : Nat → Nat → Int64} {R : Nat → Nat → Option Nat} : xi X d n (k + 3) 57 [] (127, 5895) (128, I, J, R) = xi X d n k 60 [.ref 128, .ref 128, .ref 0] (128, 5901) (mkNew (128, I, J, R)) := rfl
set_option maxRecDepth 100000 in
set_option maxHeartbeats 1000000 in
theorem xb_128 {X : Nat × (Nat → Int32)} {d n k : Nat} {st : aSt} : xi X d n (k + 1) 60 [.ref 128, .ref 128, .ref 0] (128, 5901) st = cV (am_call X aP d 0 [.ref 128] st) (fun s1 => xi X d n k 61 [.ref 128, .ref 0] (131, 5920) s1) (fun e s1 => rX e s1) := rfl
set_option maxRecDepth 100000 in
set_option maxHeartbeats 1000000 in
theorem xc_128 {X : Nat × (Nat → Int32)} {d n k : Nat} {I : Nat → Nat → Int32} {J : Nat → Nat → Int64} {R : Nat → Nat → Option Nat} {cn : Nat × Nat} : xi X d n (k + 1) 61 [.ref 128, .ref 0] cn (132, I, J, R) = xi X d n k 62 [] cn (132, I, J, uR R 0 11 (some 128)) := rfl
set_option maxRecDepth 100000 in
set_option maxHeartbeats 1000000 in
theorem xi_62 {X : Nat × (Nat → Int32)} {d n k : Nat} {I : Nat → Nat → Int32} {J : Nat → Nat → Int64} {R : Nat → Nat → Option Nat} {cn : Nat × Nat} : xi X d n (k + 12) 62 [] cn (132, I, J, R) = xi X d n k 74 [] cn (132, uI (uI (uI (uI I 0 12 (nI 4294967295)) 0 13 (nI 0)) 0 14 (nI 0)) 0 15 (nI 0), J, R) := rfl
set_option maxRecDepth 100000 in
set_option maxHeartbeats 1000000 in
theorem xi_74 {X : Nat × (Nat → Int32)} {d n k : Nat} {I : Nat → Nat → Int32} {J : Nat → Nat → Int64} {cn : Nat × Nat} : xi X d n (k + 5) 74 [] cn (mkU (false, false, false) I J) = (if cn.1 + 0 ≤ m_X9_init.2.2.2.1 ∧ cn.2 + 0 ≤ m_X9_init.2.2.2.2 then cV (am_call X aP d 47 [.ref 8, .ref 100] (mkU (false, false, false) I J)) (fun s1 => xi X d n k 79 [] (cn.1 + 0, cn.2 + 0) (kp (mkU (false, false, false) I J) s1)) (fun e s1 => rX e (kp (mkU (false, false, false) I J) s1)) else none) := rfl
set_option maxRecDepth 100000 in
set_option maxHeartbeats 1000000 in
theorem xi_79 {X : Nat × (Nat → Int32)} {d n k : Nat} {st : aSt} {cn : Nat × Nat} : xi X d n (k + 1) 79 [] cn st = rV st := rfl
theorem xg (X : Nat × (Nat → Int32)) (d : Nat) (st : aSt) : am_call X aP (d + 1) 102 [.ref 0] st = aR X d m_X9_init (9999999 + 1) 0 [some (.ref 0)] (0, 0) st := am_go X d 102 _ st (by decide) ⟨Nat.le_of_ble_eq_true rfl, rfl⟩
theorem xi_aR {X : Nat × (Nat → Int32)} {d n : Nat} {cn : Nat × Nat} {st : aSt} : aR X d m_X9_init (n + 1) 0 [some (.ref 0)] cn st = xi X d n 400 0 [] cn st := rfl
def opX : List cOp := op_1 ++ ([(1, 0, 0, 1)] ++ (op_3 ++ ([(1, 0, 1, 3)] ++ (op_8 ++ ([(1, 0, 2, 8)] ++ (op_17 ++ ([(1, 0, 3, 17)] ++ (op_26 ++ ([(1, 0, 4, 26)] ++ (op_97 ++ ([(1, 0, 5, 97)] ++ (op_100 ++ ([(1, 0, 6, 100)] ++ (op_107 ++ ([(1, 0, 7, 107)] ++ (op_114 ++ ([(1, 0, 8, 114)] ++ (op_119 ++ ([(1, 0, 9, 119)] ++ (op_124 ++ ([(1, 0, 10, 124)] ++ (op_128 ++ ([(1, 0, 11, 128)] ++ ([(2, 0, 12, 4294967295)] ++ ([(2, 0, 13, 0)] ++ ([(2, 0, 14, 0)] ++ ([(2, 0, 15, 0)])))))))))))))))))))))))))))
theorem wrI_app : ∀ (l m : List cOp) (I : Nat → Nat → Int32), wrI (l ++ m) I = wrI m (wrI l I)
  | [], _, _ => rfl
  | _ :: l, m, _ => wrI_app l m _
theorem wrR_app : ∀ (l m : List cOp) (R : Nat → Nat → Option Nat), wrR (l ++ m) R = wrR m (wrR l R)
  | [], _, _ => rfl
  | _ :: l, m, _ => wrR_app l m _
theorem wrI_1 (o k v : Nat) (I : Nat → Nat → Int32) : wrI [(1, o, k, v)] I = I := id rfl
theorem wrR_1 (o k v : Nat) (R : Nat → Nat → Option Nat) : wrR [(1, o, k, v)] R = uR R o k (some v) := id rfl
theorem wrI_2 (o k v : Nat) (I : Nat → Nat → Int32) : wrI [(2, o, k, v)] I = uI I o k (nI v) := id rfl
theorem wrR_2 (o k v : Nat) (R : Nat → Nat → Option Nat) : wrR [(2, o, k, v)] R = R := id rfl
set_option maxRecDepth 100000 in
set_option maxHeartbeats 1000000 in
theorem x9_go (X : Nat × (Nat → Int32)) (d : Nat) {J : Nat → Nat → Int64} (hJ : ∀ o, J o = fun _ => 0) : am_call X aP (d + 2) 102 [.ref 0] (1, (fun _ _ => 0), J, (fun _ _ => none)) = xi X (d + 1) 9999999 326 74 [] (131, 5920) (132, wrI opX (fun _ _ => 0), J, wrR opX (fun _ _ => none)) ∧ cln 132 (wrI opX (fun _ _ => 0)) J (wrR opX (fun _ _ => none)) := by
  simp only [opX, wrI_app, wrR_app, wrI_1, wrI_2, wrR_1, wrR_2]
  have h1 : cln 1 (fun _ _ => 0) J (fun _ _ => none) := fun o _ => ⟨rfl, hJ o, rfl⟩
  obtain ⟨g1, c1⟩ := ct_1 X d (cln_up h1 (by decide : 1 ≤ 2))
  have u1 : cln 3 _ J (uR _ 0 0 (some 1)) := fun o ho => by
    unfold uR
    rw [va_up_ne _ _ (by omega)]
    exact c1 o ho
  obtain ⟨g3, c3⟩ := ct_3 X d (cln_up u1 (by decide : 3 ≤ 4))
  have u3 : cln 8 _ J (uR _ 0 1 (some 3)) := fun o ho => by
    unfold uR
    rw [va_up_ne _ _ (by omega)]
    exact c3 o ho
  obtain ⟨g8, c8⟩ := ct_8 X d (cln_up u3 (by decide : 8 ≤ 9))
  have u8 : cln 17 _ J (uR _ 0 2 (some 8)) := fun o ho => by
    unfold uR
    rw [va_up_ne _ _ (by omega)]
    exact c8 o ho
  obtain ⟨g17, c17⟩ := ct_17 X d (cln_up u8 (by decide : 17 ≤ 18))
  have u17 : cln 26 _ J (uR _ 0 3 (some 17)) := fun o ho => by
    unfold uR
    rw [va_up_ne _ _ (by omega)]
    exact c17 o ho
  obtain ⟨g26, c26⟩ := ct_26 X d (cln_up u17 (by decide : 26 ≤ 27))
  have u26 : cln 97 _ J (uR _ 0 4 (some 26)) := fun o ho => by
    unfold uR
    rw [va_up_ne _ _ (by omega)]
    exact c26 o ho
  obtain ⟨g97, c97⟩ := ct_97 X d (cln_up u26 (by decide : 97 ≤ 98))
  have u97 : cln 100 _ J (uR _ 0 5 (some 97)) := fun o ho => by
    unfold uR
    rw [va_up_ne _ _ (by omega)]
    exact c97 o ho
  obtain ⟨g100, c100⟩ := ct_100 X d (cln_up u97 (by decide : 100 ≤ 101))
  have u100 : cln 107 _ J (uR _ 0 6 (some 100)) := fun o ho => by
    unfold uR
    rw [va_up_ne _ _ (by omega)]
    exact c100 o ho
  obtain ⟨g107, c107⟩ := ct_107 X d (cln_up u100 (by decide : 107 ≤ 108))
  have u107 : cln 114 _ J (uR _ 0 7 (some 107)) := fun o ho => by
    unfold uR
    rw [va_up_ne _ _ (by omega)]
    exact c107 o ho
  obtain ⟨g114, c114⟩ := ct_114 X d (cln_up u107 (by decide : 114 ≤ 115))
  have u114 : cln 119 _ J (uR _ 0 8 (some 114)) := fun o ho => by
    unfold uR
    rw [va_up_ne _ _ (by omega)]
    exact c114 o ho
  obtain ⟨g119, c119⟩ := ct_119 X d (cln_up u114 (by decide : 119 ≤ 120))
  have u119 : cln 124 _ J (uR _ 0 9 (some 119)) := fun o ho => by
    unfold uR
    rw [va_up_ne _ _ (by omega)]
    exact c119 o ho
  obtain ⟨g124, c124⟩ := ct_124 X d (cln_up u119 (by decide : 124 ≤ 125))
  have u124 : cln 128 _ J (uR _ 0 10 (some 124)) := fun o ho => by
    unfold uR
    rw [va_up_ne _ _ (by omega)]
    exact c124 o ho
  obtain ⟨g128, c128⟩ := ct_128 X d (cln_up u124 (by decide : 128 ≤ 129))
  have u128 : cln 132 _ J (uR _ 0 11 (some 128)) := fun o ho => by
    unfold uR
    rw [va_up_ne _ _ (by omega)]
    exact c128 o ho
  constructor
  · rw [show d + 2 = (d + 1) + 1 from rfl, xg, xi_aR, xi_0, xa_1, mkNew_c h1, xb_1, g1, cV_some, xc_1, xa_3, mkNew_c u1, xb_3, g3, cV_some, xc_3, xa_8, mkNew_c u3, xb_8, g8, cV_some, xc_8, xa_17, mkNew_c u8, xb_17, g17, cV_some, xc_17, xa_26, mkNew_c u17, xb_26, g26, cV_some, xc_26, xa_97, mkNew_c u26, xb_97, g97, cV_some, xc_97, xa_100, mkNew_c u97, xb_100, g100, cV_some, xc_100, xa_107, mkNew_c u100, xb_107, g107, cV_some, xc_107, xa_114, mkNew_c u107, xb_114, g114, cV_some, xc_114, xa_119, mkNew_c u114, xb_119, g119, cV_some, xc_119, xa_124, mkNew_c u119, xb_124, g124, cV_some, xc_124, xa_128, mkNew_c u124, xb_128, g128, cV_some, xc_128, xi_62]
  · intro o ho
    obtain ⟨a1, a2, a3⟩ := u128 o ho
    refine ⟨?_, a2, a3⟩
    refine Eq.trans ?_ a1
    rw [uI_row _ _ (by omega), uI_row _ _ (by omega), uI_row _ _ (by omega), uI_row _ _ (by omega)]
