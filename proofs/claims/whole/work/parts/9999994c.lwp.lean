/-! more pieces -/
set_option maxRecDepth 100000 in
set_option maxHeartbeats 100000 in
theorem lwp_811_385 {X : Nat × (Nat → Int32)} {d n k : Nat} {x4 : Int32} {v1 : Int32} {v2 : Int32} {c1 c2 : Nat} {st : aSt} : lw X d n (k + 1) 811 (lwL x4 (some (.int v1)) none none) ([.int v2, .ref 132]) (c1, c2) st = if c1 + 0 ≤ 601024 ∧ c2 + 0 ≤ 7293034 then cI (am_call X aP d 233 [.ref 132, .int v2] st) (fun r1 s1 => lw X d n k 812 (lwL x4 (some (.int v1)) none none) ([.int r1]) (c1 + 0, c2 + 0) (kp st s1)) (fun e s1 => rX e (kp st s1)) else none := rfl
set_option maxRecDepth 100000 in
set_option maxHeartbeats 100000 in
theorem lwp_812_384 {X : Nat × (Nat → Int32)} {d n k : Nat} {x4 : Int32} {v1 : Int32} {v2 : Int32} {c1 c2 : Nat} {st : aSt} : lw X d n (k + 3) 812 (lwL x4 (some (.int v1)) none none) ([.int v2]) (c1, c2) st = if c1 + 0 ≤ 601024 ∧ c2 + 0 ≤ 7293034 then cI (am_call X aP d 152 [.ref 132] st) (fun r1 s1 => lw X d n k 815 (lwL x4 (some (.int v1)) (some (.int v2)) none) ([.int r1]) (c1 + 0, c2 + 0) (kp st s1)) (fun e s1 => rX e (kp st s1)) else none := rfl
set_option maxRecDepth 100000 in
set_option maxHeartbeats 100000 in
theorem lwp_815_381 {X : Nat × (Nat → Int32)} {d n k : Nat} {x4 : Int32} {v1 : Int32} {v2 : Int32} {v3 : Int32} {c1 c2 : Nat} {st : aSt} : lw X d n (k + 4) 815 (lwL x4 (some (.int v1)) (some (.int v2)) none) ([.int v3]) (c1, c2) st = if v3 = v1 then lw X d n (k + 2) 819 (lwL x4 (some (.int v1)) (some (.int v2)) none) ([]) (c1, c2) st else rI (nI 0) st := rfl
set_option maxRecDepth 100000 in
set_option maxHeartbeats 100000 in
theorem lwp_819_379 {X : Nat × (Nat → Int32)} {d n k : Nat} {x4 : Int32} {v1 : Int32} {v2 : Int32} {c1 c2 : Nat} {st : aSt} : lw X d n (k + 4) 819 (lwL x4 (some (.int v1)) (some (.int v2)) none) ([]) (c1, c2) st = if v1 = 0 then lw X d n (k + 2) 821 (lwL x4 (some (.int v1)) (some (.int v2)) none) ([]) (c1, c2) st else aR X d m_L_law_ n 1561 (lwL x4 none none none) (c1, c2) st := rfl
set_option maxRecDepth 100000 in
set_option maxHeartbeats 100000 in
theorem lwp_821_377 {X : Nat × (Nat → Int32)} {d n k : Nat} {x4 : Int32} {v1 : Int32} {v2 : Int32} {c1 c2 : Nat} {st : aSt} : lw X d n (k + 3) 821 (lwL x4 (some (.int v1)) (some (.int v2)) none) ([]) (c1, c2) st = if (nI 0) < 0 ∨ 1 ≤ (nI 0).toNatClampNeg then none else lw X d n k 824 (lwL x4 (some (.int v1)) (some (.int v2)) none) ([.long (gJ st 158 (nI 0).toNatClampNeg)]) (c1, c2) st := rfl
set_option maxRecDepth 100000 in
set_option maxHeartbeats 100000 in
theorem lwp_824_374 {X : Nat × (Nat → Int32)} {d n k : Nat} {x4 : Int32} {v1 : Int32} {v2 : Int32} {v3 : Int64} {c1 c2 : Nat} {st : aSt} : lw X d n (k + 12) 824 (lwL x4 (some (.int v1)) (some (.int v2)) none) ([.long v3]) (c1, c2) st = if lg_cmp (v3) (v2.toInt64) = 0 then aR X d m_L_law_ n 1561 (lwL x4 none none none) (c1, c2) st else rI (nI 0) st := rfl
set_option maxRecDepth 100000 in
set_option maxHeartbeats 100000 in
theorem lwp_831_400 {X : Nat × (Nat → Int32)} {d n k : Nat} {x4 : Int32}  {c1 c2 : Nat} {st : aSt} : lw X d n (k + 6) 831 (lwL x4 none none none) ([]) (c1, c2) st = if (x4 + (nI 1)) < 0 ∨ X.1 ≤ (x4 + (nI 1)).toNatClampNeg then none else lw X d n k 837 (lwL x4 none none none) ([.int (X.2 (x4 + (nI 1)).toNatClampNeg), .ref 0]) (c1, c2) st := rfl
set_option maxRecDepth 100000 in
set_option maxHeartbeats 100000 in
theorem lwp_837_394 {X : Nat × (Nat → Int32)} {d n k : Nat} {x4 : Int32} {v1 : Int32} {c1 c2 : Nat} {st : aSt} : lw X d n (k + 2) 837 (lwL x4 none none none) ([.int v1, .ref 0]) (c1, c2) st = if c1 + 1 ≤ 601024 ∧ c2 + 6 ≤ 7293034 then cI (am_call X aP d 284 [.ref 0, .int v1, .ref 158] st) (fun r1 s1 => lw X d n k 839 (lwL x4 none none none) ([.int r1]) (c1 + 1, c2 + 6) (kp st s1)) (fun e s1 => rX e (kp st s1)) else none := rfl
set_option maxRecDepth 100000 in
set_option maxHeartbeats 100000 in
theorem lwp_839_392 {X : Nat × (Nat → Int32)} {d n k : Nat} {x4 : Int32} {v1 : Int32} {c1 c2 : Nat} {st : aSt} : lw X d n (k + 7) 839 (lwL x4 none none none) ([.int v1]) (c1, c2) st = if (x4 + (nI 1)) < 0 ∨ X.1 ≤ (x4 + (nI 1)).toNatClampNeg then none else lw X d n k 846 (lwL x4 (some (.int v1)) none none) ([.int (X.2 (x4 + (nI 1)).toNatClampNeg), .ref 132]) (c1, c2) st := rfl
set_option maxRecDepth 100000 in
set_option maxHeartbeats 100000 in
theorem lwp_846_385 {X : Nat × (Nat → Int32)} {d n k : Nat} {x4 : Int32} {v1 : Int32} {v2 : Int32} {c1 c2 : Nat} {st : aSt} : lw X d n (k + 1) 846 (lwL x4 (some (.int v1)) none none) ([.int v2, .ref 132]) (c1, c2) st = if c1 + 0 ≤ 601024 ∧ c2 + 0 ≤ 7293034 then cI (am_call X aP d 239 [.ref 132, .int v2] st) (fun r1 s1 => lw X d n k 847 (lwL x4 (some (.int v1)) none none) ([.int r1]) (c1 + 0, c2 + 0) (kp st s1)) (fun e s1 => rX e (kp st s1)) else none := rfl
set_option maxRecDepth 100000 in
set_option maxHeartbeats 100000 in
theorem lwp_847_384 {X : Nat × (Nat → Int32)} {d n k : Nat} {x4 : Int32} {v1 : Int32} {v2 : Int32} {c1 c2 : Nat} {st : aSt} : lw X d n (k + 3) 847 (lwL x4 (some (.int v1)) none none) ([.int v2]) (c1, c2) st = if c1 + 0 ≤ 601024 ∧ c2 + 0 ≤ 7293034 then cI (am_call X aP d 152 [.ref 132] st) (fun r1 s1 => lw X d n k 850 (lwL x4 (some (.int v1)) (some (.int v2)) none) ([.int r1]) (c1 + 0, c2 + 0) (kp st s1)) (fun e s1 => rX e (kp st s1)) else none := rfl
set_option maxRecDepth 100000 in
set_option maxHeartbeats 100000 in
theorem lwp_850_381 {X : Nat × (Nat → Int32)} {d n k : Nat} {x4 : Int32} {v1 : Int32} {v2 : Int32} {v3 : Int32} {c1 c2 : Nat} {st : aSt} : lw X d n (k + 4) 850 (lwL x4 (some (.int v1)) (some (.int v2)) none) ([.int v3]) (c1, c2) st = if v3 = v1 then lw X d n (k + 2) 854 (lwL x4 (some (.int v1)) (some (.int v2)) none) ([]) (c1, c2) st else rI (nI 0) st := rfl
set_option maxRecDepth 100000 in
set_option maxHeartbeats 100000 in
theorem lwp_854_379 {X : Nat × (Nat → Int32)} {d n k : Nat} {x4 : Int32} {v1 : Int32} {v2 : Int32} {c1 c2 : Nat} {st : aSt} : lw X d n (k + 4) 854 (lwL x4 (some (.int v1)) (some (.int v2)) none) ([]) (c1, c2) st = if v1 = 0 then lw X d n (k + 2) 856 (lwL x4 (some (.int v1)) (some (.int v2)) none) ([]) (c1, c2) st else aR X d m_L_law_ n 1561 (lwL x4 none none none) (c1, c2) st := rfl
set_option maxRecDepth 100000 in
set_option maxHeartbeats 100000 in
theorem lwp_856_377 {X : Nat × (Nat → Int32)} {d n k : Nat} {x4 : Int32} {v1 : Int32} {v2 : Int32} {c1 c2 : Nat} {st : aSt} : lw X d n (k + 3) 856 (lwL x4 (some (.int v1)) (some (.int v2)) none) ([]) (c1, c2) st = if (nI 0) < 0 ∨ 1 ≤ (nI 0).toNatClampNeg then none else lw X d n k 859 (lwL x4 (some (.int v1)) (some (.int v2)) none) ([.long (gJ st 158 (nI 0).toNatClampNeg)]) (c1, c2) st := rfl
set_option maxRecDepth 100000 in
set_option maxHeartbeats 100000 in
theorem lwp_859_374 {X : Nat × (Nat → Int32)} {d n k : Nat} {x4 : Int32} {v1 : Int32} {v2 : Int32} {v3 : Int64} {c1 c2 : Nat} {st : aSt} : lw X d n (k + 4) 859 (lwL x4 (some (.int v1)) (some (.int v2)) none) ([.long v3]) (c1, c2) st = if v2 = 0 then lw X d n (k + 2) 863 (lwL x4 (some (.int v1)) (some (.int v2)) none) ([.long v3]) (c1, c2) st else lw X d n (k + 2) 861 (lwL x4 (some (.int v1)) (some (.int v2)) none) ([.long v3]) (c1, c2) st := rfl
set_option maxRecDepth 100000 in
set_option maxHeartbeats 100000 in
theorem lwp_863_372 {X : Nat × (Nat → Int32)} {d n k : Nat} {x4 : Int32} {v1 : Int32} {v2 : Int32} {v3 : Int64} {c1 c2 : Nat} {st : aSt} : lw X d n (k + 12) 863 (lwL x4 (some (.int v1)) (some (.int v2)) none) ([.long v3]) (c1, c2) st = if lg_cmp (v3) (lN 0) = 0 then aR X d m_L_law_ n 1561 (lwL x4 none none none) (c1, c2) st else rI (nI 0) st := rfl
set_option maxRecDepth 100000 in
set_option maxHeartbeats 100000 in
theorem lwp_861_372 {X : Nat × (Nat → Int32)} {d n k : Nat} {x4 : Int32} {v1 : Int32} {v2 : Int32} {v3 : Int64} {c1 c2 : Nat} {st : aSt} : lw X d n (k + 12) 861 (lwL x4 (some (.int v1)) (some (.int v2)) none) ([.long v3]) (c1, c2) st = if lg_cmp (v3) (lN 1) = 0 then aR X d m_L_law_ n 1561 (lwL x4 none none none) (c1, c2) st else rI (nI 0) st := rfl
set_option maxRecDepth 100000 in
set_option maxHeartbeats 100000 in
theorem lwp_869_400 {X : Nat × (Nat → Int32)} {d n k : Nat} {x4 : Int32}  {c1 c2 : Nat} {st : aSt} : lw X d n (k + 6) 869 (lwL x4 none none none) ([]) (c1, c2) st = if (x4 + (nI 1)) < 0 ∨ X.1 ≤ (x4 + (nI 1)).toNatClampNeg then none else lw X d n k 875 (lwL x4 none none none) ([.int (X.2 (x4 + (nI 1)).toNatClampNeg), .ref 0]) (c1, c2) st := rfl
set_option maxRecDepth 100000 in
set_option maxHeartbeats 100000 in
theorem lwp_875_394 {X : Nat × (Nat → Int32)} {d n k : Nat} {x4 : Int32} {v1 : Int32} {c1 c2 : Nat} {st : aSt} : lw X d n (k + 5) 875 (lwL x4 none none none) ([.int v1, .ref 0]) (c1, c2) st = if (x4 + (nI 2)) < 0 ∨ X.1 ≤ (x4 + (nI 2)).toNatClampNeg then none else lw X d n k 880 (lwL x4 none none none) ([.int (X.2 (x4 + (nI 2)).toNatClampNeg), .int v1, .ref 0]) (c1, c2) st := rfl
set_option maxRecDepth 100000 in
set_option maxHeartbeats 100000 in
theorem lwp_880_389 {X : Nat × (Nat → Int32)} {d n k : Nat} {x4 : Int32} {v1 : Int32} {v2 : Int32} {c1 c2 : Nat} {st : aSt} : lw X d n (k + 5) 880 (lwL x4 none none none) ([.int v2, .int v1, .ref 0]) (c1, c2) st = if (x4 + (nI 3)) < 0 ∨ X.1 ≤ (x4 + (nI 3)).toNatClampNeg then none else lw X d n k 885 (lwL x4 none none none) ([.int (X.2 (x4 + (nI 3)).toNatClampNeg), .int v2, .int v1, .ref 0]) (c1, c2) st := rfl
set_option maxRecDepth 100000 in
set_option maxHeartbeats 100000 in
theorem lwp_885_384 {X : Nat × (Nat → Int32)} {d n k : Nat} {x4 : Int32} {v1 : Int32} {v2 : Int32} {v3 : Int32} {c1 c2 : Nat} {st : aSt} : lw X d n (k + 2) 885 (lwL x4 none none none) ([.int v3, .int v2, .int v1, .ref 0]) (c1, c2) st = if c1 + 3 ≤ 601024 ∧ c2 + 18 ≤ 7293034 then cI (am_call X aP d 285 [.ref 0, .int v1, .int v2, .int v3, .ref 158] st) (fun r1 s1 => lw X d n k 887 (lwL x4 none none none) ([.int r1]) (c1 + 3, c2 + 18) (kp st s1)) (fun e s1 => rX e (kp st s1)) else none := rfl
set_option maxRecDepth 100000 in
set_option maxHeartbeats 100000 in
theorem lwp_887_382 {X : Nat × (Nat → Int32)} {d n k : Nat} {x4 : Int32} {v1 : Int32} {c1 c2 : Nat} {st : aSt} : lw X d n (k + 7) 887 (lwL x4 none none none) ([.int v1]) (c1, c2) st = if (x4 + (nI 1)) < 0 ∨ X.1 ≤ (x4 + (nI 1)).toNatClampNeg then none else lw X d n k 894 (lwL x4 (some (.int v1)) none none) ([.int (X.2 (x4 + (nI 1)).toNatClampNeg), .ref 132]) (c1, c2) st := rfl
set_option maxRecDepth 100000 in
set_option maxHeartbeats 100000 in
theorem lwp_894_375 {X : Nat × (Nat → Int32)} {d n k : Nat} {x4 : Int32} {v1 : Int32} {v2 : Int32} {c1 c2 : Nat} {st : aSt} : lw X d n (k + 5) 894 (lwL x4 (some (.int v1)) none none) ([.int v2, .ref 132]) (c1, c2) st = if (x4 + (nI 2)) < 0 ∨ X.1 ≤ (x4 + (nI 2)).toNatClampNeg then none else lw X d n k 899 (lwL x4 (some (.int v1)) none none) ([.int (X.2 (x4 + (nI 2)).toNatClampNeg), .int v2, .ref 132]) (c1, c2) st := rfl
set_option maxRecDepth 100000 in
set_option maxHeartbeats 100000 in
theorem lwp_899_370 {X : Nat × (Nat → Int32)} {d n k : Nat} {x4 : Int32} {v1 : Int32} {v2 : Int32} {v3 : Int32} {c1 c2 : Nat} {st : aSt} : lw X d n (k + 5) 899 (lwL x4 (some (.int v1)) none none) ([.int v3, .int v2, .ref 132]) (c1, c2) st = if (x4 + (nI 3)) < 0 ∨ X.1 ≤ (x4 + (nI 3)).toNatClampNeg then none else lw X d n k 904 (lwL x4 (some (.int v1)) none none) ([.int (X.2 (x4 + (nI 3)).toNatClampNeg), .int v3, .int v2, .ref 132]) (c1, c2) st := rfl
set_option maxRecDepth 100000 in
set_option maxHeartbeats 100000 in
theorem lwp_904_365 {X : Nat × (Nat → Int32)} {d n k : Nat} {x4 : Int32} {v1 : Int32} {v2 : Int32} {v3 : Int32} {v4 : Int32} {c1 c2 : Nat} {st : aSt} : lw X d n (k + 1) 904 (lwL x4 (some (.int v1)) none none) ([.int v4, .int v3, .int v2, .ref 132]) (c1, c2) st = if c1 + 0 ≤ 601024 ∧ c2 + 0 ≤ 7293034 then cI (am_call X aP d 240 [.ref 132, .int v2, .int v3, .int v4] st) (fun r1 s1 => lw X d n k 905 (lwL x4 (some (.int v1)) none none) ([.int r1]) (c1 + 0, c2 + 0) (kp st s1)) (fun e s1 => rX e (kp st s1)) else none := rfl
set_option maxRecDepth 100000 in
set_option maxHeartbeats 100000 in
theorem lwp_905_364 {X : Nat × (Nat → Int32)} {d n k : Nat} {x4 : Int32} {v1 : Int32} {v2 : Int32} {c1 c2 : Nat} {st : aSt} : lw X d n (k + 3) 905 (lwL x4 (some (.int v1)) none none) ([.int v2]) (c1, c2) st = if c1 + 0 ≤ 601024 ∧ c2 + 0 ≤ 7293034 then cI (am_call X aP d 152 [.ref 132] st) (fun r1 s1 => lw X d n k 908 (lwL x4 (some (.int v1)) (some (.int v2)) none) ([.int r1]) (c1 + 0, c2 + 0) (kp st s1)) (fun e s1 => rX e (kp st s1)) else none := rfl
set_option maxRecDepth 100000 in
set_option maxHeartbeats 100000 in
theorem lwp_908_361 {X : Nat × (Nat → Int32)} {d n k : Nat} {x4 : Int32} {v1 : Int32} {v2 : Int32} {v3 : Int32} {c1 c2 : Nat} {st : aSt} : lw X d n (k + 4) 908 (lwL x4 (some (.int v1)) (some (.int v2)) none) ([.int v3]) (c1, c2) st = if v3 = v1 then lw X d n (k + 2) 912 (lwL x4 (some (.int v1)) (some (.int v2)) none) ([]) (c1, c2) st else rI (nI 0) st := rfl
set_option maxRecDepth 100000 in
set_option maxHeartbeats 100000 in
theorem lwp_912_359 {X : Nat × (Nat → Int32)} {d n k : Nat} {x4 : Int32} {v1 : Int32} {v2 : Int32} {c1 c2 : Nat} {st : aSt} : lw X d n (k + 4) 912 (lwL x4 (some (.int v1)) (some (.int v2)) none) ([]) (c1, c2) st = if v1 = 0 then lw X d n (k + 2) 914 (lwL x4 (some (.int v1)) (some (.int v2)) none) ([]) (c1, c2) st else aR X d m_L_law_ n 1561 (lwL x4 none none none) (c1, c2) st := rfl
set_option maxRecDepth 100000 in
set_option maxHeartbeats 100000 in
theorem lwp_914_357 {X : Nat × (Nat → Int32)} {d n k : Nat} {x4 : Int32} {v1 : Int32} {v2 : Int32} {c1 c2 : Nat} {st : aSt} : lw X d n (k + 3) 914 (lwL x4 (some (.int v1)) (some (.int v2)) none) ([]) (c1, c2) st = if (nI 0) < 0 ∨ 1 ≤ (nI 0).toNatClampNeg then none else lw X d n k 917 (lwL x4 (some (.int v1)) (some (.int v2)) none) ([.long (gJ st 158 (nI 0).toNatClampNeg)]) (c1, c2) st := rfl
set_option maxRecDepth 100000 in
set_option maxHeartbeats 100000 in
theorem lwp_917_354 {X : Nat × (Nat → Int32)} {d n k : Nat} {x4 : Int32} {v1 : Int32} {v2 : Int32} {v3 : Int64} {c1 c2 : Nat} {st : aSt} : lw X d n (k + 12) 917 (lwL x4 (some (.int v1)) (some (.int v2)) none) ([.long v3]) (c1, c2) st = if lg_cmp (v3) (v2.toInt64) = 0 then aR X d m_L_law_ n 1561 (lwL x4 none none none) (c1, c2) st else rI (nI 0) st := rfl
set_option maxRecDepth 100000 in
set_option maxHeartbeats 100000 in
theorem lwp_924_400 {X : Nat × (Nat → Int32)} {d n k : Nat} {x4 : Int32}  {c1 c2 : Nat} {st : aSt} : lw X d n (k + 6) 924 (lwL x4 none none none) ([]) (c1, c2) st = if (x4 + (nI 1)) < 0 ∨ X.1 ≤ (x4 + (nI 1)).toNatClampNeg then none else lw X d n k 930 (lwL x4 none none none) ([.int (X.2 (x4 + (nI 1)).toNatClampNeg), .ref 0]) (c1, c2) st := rfl
set_option maxRecDepth 100000 in
set_option maxHeartbeats 100000 in
theorem lwp_930_394 {X : Nat × (Nat → Int32)} {d n k : Nat} {x4 : Int32} {v1 : Int32} {c1 c2 : Nat} {st : aSt} : lw X d n (k + 2) 930 (lwL x4 none none none) ([.int v1, .ref 0]) (c1, c2) st = if c1 + 1 ≤ 601024 ∧ c2 + 6 ≤ 7293034 then cI (am_call X aP d 286 [.ref 0, .int v1, .ref 158] st) (fun r1 s1 => lw X d n k 932 (lwL x4 none none none) ([.int r1]) (c1 + 1, c2 + 6) (kp st s1)) (fun e s1 => rX e (kp st s1)) else none := rfl
set_option maxRecDepth 100000 in
set_option maxHeartbeats 100000 in
theorem lwp_932_392 {X : Nat × (Nat → Int32)} {d n k : Nat} {x4 : Int32} {v1 : Int32} {c1 c2 : Nat} {st : aSt} : lw X d n (k + 7) 932 (lwL x4 none none none) ([.int v1]) (c1, c2) st = if (x4 + (nI 1)) < 0 ∨ X.1 ≤ (x4 + (nI 1)).toNatClampNeg then none else lw X d n k 939 (lwL x4 (some (.int v1)) none none) ([.int (X.2 (x4 + (nI 1)).toNatClampNeg), .ref 132]) (c1, c2) st := rfl
set_option maxRecDepth 100000 in
set_option maxHeartbeats 100000 in
theorem lwp_939_385 {X : Nat × (Nat → Int32)} {d n k : Nat} {x4 : Int32} {v1 : Int32} {v2 : Int32} {c1 c2 : Nat} {st : aSt} : lw X d n (k + 1) 939 (lwL x4 (some (.int v1)) none none) ([.int v2, .ref 132]) (c1, c2) st = if c1 + 0 ≤ 601024 ∧ c2 + 0 ≤ 7293034 then cI (am_call X aP d 241 [.ref 132, .int v2] st) (fun r1 s1 => lw X d n k 940 (lwL x4 (some (.int v1)) none none) ([.int r1]) (c1 + 0, c2 + 0) (kp st s1)) (fun e s1 => rX e (kp st s1)) else none := rfl
set_option maxRecDepth 100000 in
set_option maxHeartbeats 100000 in
theorem lwp_940_384 {X : Nat × (Nat → Int32)} {d n k : Nat} {x4 : Int32} {v1 : Int32} {v2 : Int32} {c1 c2 : Nat} {st : aSt} : lw X d n (k + 3) 940 (lwL x4 (some (.int v1)) none none) ([.int v2]) (c1, c2) st = if c1 + 0 ≤ 601024 ∧ c2 + 0 ≤ 7293034 then cI (am_call X aP d 152 [.ref 132] st) (fun r1 s1 => lw X d n k 943 (lwL x4 (some (.int v1)) (some (.int v2)) none) ([.int r1]) (c1 + 0, c2 + 0) (kp st s1)) (fun e s1 => rX e (kp st s1)) else none := rfl
set_option maxRecDepth 100000 in
set_option maxHeartbeats 100000 in
theorem lwp_943_381 {X : Nat × (Nat → Int32)} {d n k : Nat} {x4 : Int32} {v1 : Int32} {v2 : Int32} {v3 : Int32} {c1 c2 : Nat} {st : aSt} : lw X d n (k + 4) 943 (lwL x4 (some (.int v1)) (some (.int v2)) none) ([.int v3]) (c1, c2) st = if v3 = v1 then lw X d n (k + 2) 947 (lwL x4 (some (.int v1)) (some (.int v2)) none) ([]) (c1, c2) st else rI (nI 0) st := rfl
set_option maxRecDepth 100000 in
set_option maxHeartbeats 100000 in
theorem lwp_947_379 {X : Nat × (Nat → Int32)} {d n k : Nat} {x4 : Int32} {v1 : Int32} {v2 : Int32} {c1 c2 : Nat} {st : aSt} : lw X d n (k + 4) 947 (lwL x4 (some (.int v1)) (some (.int v2)) none) ([]) (c1, c2) st = if v1 = 0 then lw X d n (k + 2) 949 (lwL x4 (some (.int v1)) (some (.int v2)) none) ([]) (c1, c2) st else aR X d m_L_law_ n 1561 (lwL x4 none none none) (c1, c2) st := rfl
set_option maxRecDepth 100000 in
set_option maxHeartbeats 100000 in
theorem lwp_949_377 {X : Nat × (Nat → Int32)} {d n k : Nat} {x4 : Int32} {v1 : Int32} {v2 : Int32} {c1 c2 : Nat} {st : aSt} : lw X d n (k + 3) 949 (lwL x4 (some (.int v1)) (some (.int v2)) none) ([]) (c1, c2) st = if (nI 0) < 0 ∨ 1 ≤ (nI 0).toNatClampNeg then none else lw X d n k 952 (lwL x4 (some (.int v1)) (some (.int v2)) none) ([.long (gJ st 158 (nI 0).toNatClampNeg)]) (c1, c2) st := rfl
set_option maxRecDepth 100000 in
set_option maxHeartbeats 100000 in
theorem lwp_952_374 {X : Nat × (Nat → Int32)} {d n k : Nat} {x4 : Int32} {v1 : Int32} {v2 : Int32} {v3 : Int64} {c1 c2 : Nat} {st : aSt} : lw X d n (k + 12) 952 (lwL x4 (some (.int v1)) (some (.int v2)) none) ([.long v3]) (c1, c2) st = if lg_cmp (v3) (v2.toInt64) = 0 then aR X d m_L_law_ n 1561 (lwL x4 none none none) (c1, c2) st else rI (nI 0) st := rfl
set_option maxRecDepth 100000 in
set_option maxHeartbeats 100000 in
theorem lwp_959_400 {X : Nat × (Nat → Int32)} {d n k : Nat} {x4 : Int32}  {c1 c2 : Nat} {st : aSt} : lw X d n (k + 6) 959 (lwL x4 none none none) ([]) (c1, c2) st = if (x4 + (nI 1)) < 0 ∨ X.1 ≤ (x4 + (nI 1)).toNatClampNeg then none else lw X d n k 965 (lwL x4 none none none) ([.int (X.2 (x4 + (nI 1)).toNatClampNeg), .ref 0]) (c1, c2) st := rfl
set_option maxRecDepth 100000 in
set_option maxHeartbeats 100000 in
theorem lwp_965_394 {X : Nat × (Nat → Int32)} {d n k : Nat} {x4 : Int32} {v1 : Int32} {c1 c2 : Nat} {st : aSt} : lw X d n (k + 2) 965 (lwL x4 none none none) ([.int v1, .ref 0]) (c1, c2) st = if c1 + 1 ≤ 601024 ∧ c2 + 6 ≤ 7293034 then cI (am_call X aP d 287 [.ref 0, .int v1, .ref 158] st) (fun r1 s1 => lw X d n k 967 (lwL x4 none none none) ([.int r1]) (c1 + 1, c2 + 6) (kp st s1)) (fun e s1 => rX e (kp st s1)) else none := rfl
set_option maxRecDepth 100000 in
set_option maxHeartbeats 100000 in
theorem lwp_967_392 {X : Nat × (Nat → Int32)} {d n k : Nat} {x4 : Int32} {v1 : Int32} {c1 c2 : Nat} {st : aSt} : lw X d n (k + 7) 967 (lwL x4 none none none) ([.int v1]) (c1, c2) st = if (x4 + (nI 1)) < 0 ∨ X.1 ≤ (x4 + (nI 1)).toNatClampNeg then none else lw X d n k 974 (lwL x4 (some (.int v1)) none none) ([.int (X.2 (x4 + (nI 1)).toNatClampNeg), .ref 132]) (c1, c2) st := rfl
set_option maxRecDepth 100000 in
set_option maxHeartbeats 100000 in
theorem lwp_974_385 {X : Nat × (Nat → Int32)} {d n k : Nat} {x4 : Int32} {v1 : Int32} {v2 : Int32} {c1 c2 : Nat} {st : aSt} : lw X d n (k + 1) 974 (lwL x4 (some (.int v1)) none none) ([.int v2, .ref 132]) (c1, c2) st = if c1 + 0 ≤ 601024 ∧ c2 + 0 ≤ 7293034 then cI (am_call X aP d 242 [.ref 132, .int v2] st) (fun r1 s1 => lw X d n k 975 (lwL x4 (some (.int v1)) none none) ([.int r1]) (c1 + 0, c2 + 0) (kp st s1)) (fun e s1 => rX e (kp st s1)) else none := rfl
set_option maxRecDepth 100000 in
set_option maxHeartbeats 100000 in
theorem lwp_975_384 {X : Nat × (Nat → Int32)} {d n k : Nat} {x4 : Int32} {v1 : Int32} {v2 : Int32} {c1 c2 : Nat} {st : aSt} : lw X d n (k + 3) 975 (lwL x4 (some (.int v1)) none none) ([.int v2]) (c1, c2) st = if c1 + 0 ≤ 601024 ∧ c2 + 0 ≤ 7293034 then cI (am_call X aP d 152 [.ref 132] st) (fun r1 s1 => lw X d n k 978 (lwL x4 (some (.int v1)) (some (.int v2)) none) ([.int r1]) (c1 + 0, c2 + 0) (kp st s1)) (fun e s1 => rX e (kp st s1)) else none := rfl
set_option maxRecDepth 100000 in
set_option maxHeartbeats 100000 in
theorem lwp_978_381 {X : Nat × (Nat → Int32)} {d n k : Nat} {x4 : Int32} {v1 : Int32} {v2 : Int32} {v3 : Int32} {c1 c2 : Nat} {st : aSt} : lw X d n (k + 4) 978 (lwL x4 (some (.int v1)) (some (.int v2)) none) ([.int v3]) (c1, c2) st = if v3 = v1 then lw X d n (k + 2) 982 (lwL x4 (some (.int v1)) (some (.int v2)) none) ([]) (c1, c2) st else rI (nI 0) st := rfl
set_option maxRecDepth 100000 in
set_option maxHeartbeats 100000 in
theorem lwp_982_379 {X : Nat × (Nat → Int32)} {d n k : Nat} {x4 : Int32} {v1 : Int32} {v2 : Int32} {c1 c2 : Nat} {st : aSt} : lw X d n (k + 4) 982 (lwL x4 (some (.int v1)) (some (.int v2)) none) ([]) (c1, c2) st = if v1 = 0 then lw X d n (k + 2) 984 (lwL x4 (some (.int v1)) (some (.int v2)) none) ([]) (c1, c2) st else aR X d m_L_law_ n 1561 (lwL x4 none none none) (c1, c2) st := rfl
set_option maxRecDepth 100000 in
set_option maxHeartbeats 100000 in
theorem lwp_984_377 {X : Nat × (Nat → Int32)} {d n k : Nat} {x4 : Int32} {v1 : Int32} {v2 : Int32} {c1 c2 : Nat} {st : aSt} : lw X d n (k + 3) 984 (lwL x4 (some (.int v1)) (some (.int v2)) none) ([]) (c1, c2) st = if (nI 0) < 0 ∨ 1 ≤ (nI 0).toNatClampNeg then none else lw X d n k 987 (lwL x4 (some (.int v1)) (some (.int v2)) none) ([.long (gJ st 158 (nI 0).toNatClampNeg)]) (c1, c2) st := rfl
set_option maxRecDepth 100000 in
set_option maxHeartbeats 100000 in
theorem lwp_987_374 {X : Nat × (Nat → Int32)} {d n k : Nat} {x4 : Int32} {v1 : Int32} {v2 : Int32} {v3 : Int64} {c1 c2 : Nat} {st : aSt} : lw X d n (k + 12) 987 (lwL x4 (some (.int v1)) (some (.int v2)) none) ([.long v3]) (c1, c2) st = if lg_cmp (v3) (v2.toInt64) = 0 then aR X d m_L_law_ n 1561 (lwL x4 none none none) (c1, c2) st else rI (nI 0) st := rfl
set_option maxRecDepth 100000 in
set_option maxHeartbeats 100000 in
theorem lwp_994_400 {X : Nat × (Nat → Int32)} {d n k : Nat} {x4 : Int32}  {c1 c2 : Nat} {st : aSt} : lw X d n (k + 6) 994 (lwL x4 none none none) ([]) (c1, c2) st = if (x4 + (nI 1)) < 0 ∨ X.1 ≤ (x4 + (nI 1)).toNatClampNeg then none else lw X d n k 1000 (lwL x4 none none none) ([.int (X.2 (x4 + (nI 1)).toNatClampNeg), .ref 0]) (c1, c2) st := rfl
set_option maxRecDepth 100000 in
set_option maxHeartbeats 100000 in
theorem lwp_1000_394 {X : Nat × (Nat → Int32)} {d n k : Nat} {x4 : Int32} {v1 : Int32} {c1 c2 : Nat} {st : aSt} : lw X d n (k + 2) 1000 (lwL x4 none none none) ([.int v1, .ref 0]) (c1, c2) st = if c1 + 1 ≤ 601024 ∧ c2 + 6 ≤ 7293034 then cI (am_call X aP d 288 [.ref 0, .int v1, .ref 158] st) (fun r1 s1 => lw X d n k 1002 (lwL x4 none none none) ([.int r1]) (c1 + 1, c2 + 6) (kp st s1)) (fun e s1 => rX e (kp st s1)) else none := rfl
set_option maxRecDepth 100000 in
set_option maxHeartbeats 100000 in
theorem lwp_1002_392 {X : Nat × (Nat → Int32)} {d n k : Nat} {x4 : Int32} {v1 : Int32} {c1 c2 : Nat} {st : aSt} : lw X d n (k + 7) 1002 (lwL x4 none none none) ([.int v1]) (c1, c2) st = if (x4 + (nI 1)) < 0 ∨ X.1 ≤ (x4 + (nI 1)).toNatClampNeg then none else lw X d n k 1009 (lwL x4 (some (.int v1)) none none) ([.int (X.2 (x4 + (nI 1)).toNatClampNeg), .ref 132]) (c1, c2) st := rfl
set_option maxRecDepth 100000 in
set_option maxHeartbeats 100000 in
theorem lwp_1009_385 {X : Nat × (Nat → Int32)} {d n k : Nat} {x4 : Int32} {v1 : Int32} {v2 : Int32} {c1 c2 : Nat} {st : aSt} : lw X d n (k + 1) 1009 (lwL x4 (some (.int v1)) none none) ([.int v2, .ref 132]) (c1, c2) st = if c1 + 0 ≤ 601024 ∧ c2 + 0 ≤ 7293034 then cI (am_call X aP d 245 [.ref 132, .int v2] st) (fun r1 s1 => lw X d n k 1010 (lwL x4 (some (.int v1)) none none) ([.int r1]) (c1 + 0, c2 + 0) (kp st s1)) (fun e s1 => rX e (kp st s1)) else none := rfl
set_option maxRecDepth 100000 in
set_option maxHeartbeats 100000 in
theorem lwp_1010_384 {X : Nat × (Nat → Int32)} {d n k : Nat} {x4 : Int32} {v1 : Int32} {v2 : Int32} {c1 c2 : Nat} {st : aSt} : lw X d n (k + 3) 1010 (lwL x4 (some (.int v1)) none none) ([.int v2]) (c1, c2) st = if c1 + 0 ≤ 601024 ∧ c2 + 0 ≤ 7293034 then cI (am_call X aP d 152 [.ref 132] st) (fun r1 s1 => lw X d n k 1013 (lwL x4 (some (.int v1)) (some (.int v2)) none) ([.int r1]) (c1 + 0, c2 + 0) (kp st s1)) (fun e s1 => rX e (kp st s1)) else none := rfl
set_option maxRecDepth 100000 in
set_option maxHeartbeats 100000 in
theorem lwp_1013_381 {X : Nat × (Nat → Int32)} {d n k : Nat} {x4 : Int32} {v1 : Int32} {v2 : Int32} {v3 : Int32} {c1 c2 : Nat} {st : aSt} : lw X d n (k + 4) 1013 (lwL x4 (some (.int v1)) (some (.int v2)) none) ([.int v3]) (c1, c2) st = if v3 = v1 then lw X d n (k + 2) 1017 (lwL x4 (some (.int v1)) (some (.int v2)) none) ([]) (c1, c2) st else rI (nI 0) st := rfl
set_option maxRecDepth 100000 in
set_option maxHeartbeats 100000 in
theorem lwp_1017_379 {X : Nat × (Nat → Int32)} {d n k : Nat} {x4 : Int32} {v1 : Int32} {v2 : Int32} {c1 c2 : Nat} {st : aSt} : lw X d n (k + 4) 1017 (lwL x4 (some (.int v1)) (some (.int v2)) none) ([]) (c1, c2) st = if v1 = 0 then lw X d n (k + 2) 1019 (lwL x4 (some (.int v1)) (some (.int v2)) none) ([]) (c1, c2) st else aR X d m_L_law_ n 1561 (lwL x4 none none none) (c1, c2) st := rfl
set_option maxRecDepth 100000 in
set_option maxHeartbeats 100000 in
theorem lwp_1019_377 {X : Nat × (Nat → Int32)} {d n k : Nat} {x4 : Int32} {v1 : Int32} {v2 : Int32} {c1 c2 : Nat} {st : aSt} : lw X d n (k + 3) 1019 (lwL x4 (some (.int v1)) (some (.int v2)) none) ([]) (c1, c2) st = if (nI 0) < 0 ∨ 1 ≤ (nI 0).toNatClampNeg then none else lw X d n k 1022 (lwL x4 (some (.int v1)) (some (.int v2)) none) ([.long (gJ st 158 (nI 0).toNatClampNeg)]) (c1, c2) st := rfl
set_option maxRecDepth 100000 in
set_option maxHeartbeats 100000 in
theorem lwp_1022_374 {X : Nat × (Nat → Int32)} {d n k : Nat} {x4 : Int32} {v1 : Int32} {v2 : Int32} {v3 : Int64} {c1 c2 : Nat} {st : aSt} : lw X d n (k + 12) 1022 (lwL x4 (some (.int v1)) (some (.int v2)) none) ([.long v3]) (c1, c2) st = if lg_cmp (v3) (v2.toInt64) = 0 then aR X d m_L_law_ n 1561 (lwL x4 none none none) (c1, c2) st else rI (nI 0) st := rfl
set_option maxRecDepth 100000 in
set_option maxHeartbeats 100000 in
theorem lwp_1029_400 {X : Nat × (Nat → Int32)} {d n k : Nat} {x4 : Int32}  {c1 c2 : Nat} {st : aSt} : lw X d n (k + 6) 1029 (lwL x4 none none none) ([]) (c1, c2) st = if (x4 + (nI 1)) < 0 ∨ X.1 ≤ (x4 + (nI 1)).toNatClampNeg then none else lw X d n k 1035 (lwL x4 none none none) ([.int (X.2 (x4 + (nI 1)).toNatClampNeg), .ref 0]) (c1, c2) st := rfl
set_option maxRecDepth 100000 in
set_option maxHeartbeats 100000 in
theorem lwp_1035_394 {X : Nat × (Nat → Int32)} {d n k : Nat} {x4 : Int32} {v1 : Int32} {c1 c2 : Nat} {st : aSt} : lw X d n (k + 5) 1035 (lwL x4 none none none) ([.int v1, .ref 0]) (c1, c2) st = if (x4 + (nI 2)) < 0 ∨ X.1 ≤ (x4 + (nI 2)).toNatClampNeg then none else lw X d n k 1040 (lwL x4 none none none) ([.int (X.2 (x4 + (nI 2)).toNatClampNeg), .int v1, .ref 0]) (c1, c2) st := rfl
set_option maxRecDepth 100000 in
set_option maxHeartbeats 100000 in
theorem lwp_1040_389 {X : Nat × (Nat → Int32)} {d n k : Nat} {x4 : Int32} {v1 : Int32} {v2 : Int32} {c1 c2 : Nat} {st : aSt} : lw X d n (k + 2) 1040 (lwL x4 none none none) ([.int v2, .int v1, .ref 0]) (c1, c2) st = if c1 + 2 ≤ 601024 ∧ c2 + 12 ≤ 7293034 then cI (am_call X aP d 289 [.ref 0, .int v1, .int v2, .ref 158] st) (fun r1 s1 => lw X d n k 1042 (lwL x4 none none none) ([.int r1]) (c1 + 2, c2 + 12) (kp st s1)) (fun e s1 => rX e (kp st s1)) else none := rfl
set_option maxRecDepth 100000 in
set_option maxHeartbeats 100000 in
theorem lwp_1042_387 {X : Nat × (Nat → Int32)} {d n k : Nat} {x4 : Int32} {v1 : Int32} {c1 c2 : Nat} {st : aSt} : lw X d n (k + 7) 1042 (lwL x4 none none none) ([.int v1]) (c1, c2) st = if (x4 + (nI 1)) < 0 ∨ X.1 ≤ (x4 + (nI 1)).toNatClampNeg then none else lw X d n k 1049 (lwL x4 (some (.int v1)) none none) ([.int (X.2 (x4 + (nI 1)).toNatClampNeg), .ref 132]) (c1, c2) st := rfl
set_option maxRecDepth 100000 in
set_option maxHeartbeats 100000 in
theorem lwp_1049_380 {X : Nat × (Nat → Int32)} {d n k : Nat} {x4 : Int32} {v1 : Int32} {v2 : Int32} {c1 c2 : Nat} {st : aSt} : lw X d n (k + 5) 1049 (lwL x4 (some (.int v1)) none none) ([.int v2, .ref 132]) (c1, c2) st = if (x4 + (nI 2)) < 0 ∨ X.1 ≤ (x4 + (nI 2)).toNatClampNeg then none else lw X d n k 1054 (lwL x4 (some (.int v1)) none none) ([.int (X.2 (x4 + (nI 2)).toNatClampNeg), .int v2, .ref 132]) (c1, c2) st := rfl
set_option maxRecDepth 100000 in
set_option maxHeartbeats 100000 in
theorem lwp_1054_375 {X : Nat × (Nat → Int32)} {d n k : Nat} {x4 : Int32} {v1 : Int32} {v2 : Int32} {v3 : Int32} {c1 c2 : Nat} {st : aSt} : lw X d n (k + 1) 1054 (lwL x4 (some (.int v1)) none none) ([.int v3, .int v2, .ref 132]) (c1, c2) st = if c1 + 0 ≤ 601024 ∧ c2 + 0 ≤ 7293034 then cI (am_call X aP d 248 [.ref 132, .int v2, .int v3] st) (fun r1 s1 => lw X d n k 1055 (lwL x4 (some (.int v1)) none none) ([.int r1]) (c1 + 0, c2 + 0) (kp st s1)) (fun e s1 => rX e (kp st s1)) else none := rfl
set_option maxRecDepth 100000 in
set_option maxHeartbeats 100000 in
theorem lwp_1055_374 {X : Nat × (Nat → Int32)} {d n k : Nat} {x4 : Int32} {v1 : Int32} {v2 : Int32} {c1 c2 : Nat} {st : aSt} : lw X d n (k + 3) 1055 (lwL x4 (some (.int v1)) none none) ([.int v2]) (c1, c2) st = if c1 + 0 ≤ 601024 ∧ c2 + 0 ≤ 7293034 then cI (am_call X aP d 152 [.ref 132] st) (fun r1 s1 => lw X d n k 1058 (lwL x4 (some (.int v1)) (some (.int v2)) none) ([.int r1]) (c1 + 0, c2 + 0) (kp st s1)) (fun e s1 => rX e (kp st s1)) else none := rfl
set_option maxRecDepth 100000 in
set_option maxHeartbeats 100000 in
theorem lwp_1058_371 {X : Nat × (Nat → Int32)} {d n k : Nat} {x4 : Int32} {v1 : Int32} {v2 : Int32} {v3 : Int32} {c1 c2 : Nat} {st : aSt} : lw X d n (k + 4) 1058 (lwL x4 (some (.int v1)) (some (.int v2)) none) ([.int v3]) (c1, c2) st = if v3 = v1 then lw X d n (k + 2) 1062 (lwL x4 (some (.int v1)) (some (.int v2)) none) ([]) (c1, c2) st else rI (nI 0) st := rfl
set_option maxRecDepth 100000 in
set_option maxHeartbeats 100000 in
theorem lwp_1062_369 {X : Nat × (Nat → Int32)} {d n k : Nat} {x4 : Int32} {v1 : Int32} {v2 : Int32} {c1 c2 : Nat} {st : aSt} : lw X d n (k + 4) 1062 (lwL x4 (some (.int v1)) (some (.int v2)) none) ([]) (c1, c2) st = if v1 = 0 then lw X d n (k + 2) 1064 (lwL x4 (some (.int v1)) (some (.int v2)) none) ([]) (c1, c2) st else aR X d m_L_law_ n 1561 (lwL x4 none none none) (c1, c2) st := rfl
set_option maxRecDepth 100000 in
set_option maxHeartbeats 100000 in
theorem lwp_1064_367 {X : Nat × (Nat → Int32)} {d n k : Nat} {x4 : Int32} {v1 : Int32} {v2 : Int32} {c1 c2 : Nat} {st : aSt} : lw X d n (k + 3) 1064 (lwL x4 (some (.int v1)) (some (.int v2)) none) ([]) (c1, c2) st = if (nI 0) < 0 ∨ 1 ≤ (nI 0).toNatClampNeg then none else lw X d n k 1067 (lwL x4 (some (.int v1)) (some (.int v2)) none) ([.long (gJ st 158 (nI 0).toNatClampNeg)]) (c1, c2) st := rfl
set_option maxRecDepth 100000 in
set_option maxHeartbeats 100000 in
theorem lwp_1067_364 {X : Nat × (Nat → Int32)} {d n k : Nat} {x4 : Int32} {v1 : Int32} {v2 : Int32} {v3 : Int64} {c1 c2 : Nat} {st : aSt} : lw X d n (k + 12) 1067 (lwL x4 (some (.int v1)) (some (.int v2)) none) ([.long v3]) (c1, c2) st = if lg_cmp (v3) (v2.toInt64) = 0 then aR X d m_L_law_ n 1561 (lwL x4 none none none) (c1, c2) st else rI (nI 0) st := rfl
set_option maxRecDepth 100000 in
set_option maxHeartbeats 100000 in
theorem lwp_1074_400 {X : Nat × (Nat → Int32)} {d n k : Nat} {x4 : Int32}  {c1 c2 : Nat} {st : aSt} : lw X d n (k + 6) 1074 (lwL x4 none none none) ([]) (c1, c2) st = if (x4 + (nI 1)) < 0 ∨ X.1 ≤ (x4 + (nI 1)).toNatClampNeg then none else lw X d n k 1080 (lwL x4 none none none) ([.int (X.2 (x4 + (nI 1)).toNatClampNeg), .ref 0]) (c1, c2) st := rfl
set_option maxRecDepth 100000 in
set_option maxHeartbeats 100000 in
theorem lwp_1080_394 {X : Nat × (Nat → Int32)} {d n k : Nat} {x4 : Int32} {v1 : Int32} {c1 c2 : Nat} {st : aSt} : lw X d n (k + 5) 1080 (lwL x4 none none none) ([.int v1, .ref 0]) (c1, c2) st = if (x4 + (nI 2)) < 0 ∨ X.1 ≤ (x4 + (nI 2)).toNatClampNeg then none else lw X d n k 1085 (lwL x4 none none none) ([.int (X.2 (x4 + (nI 2)).toNatClampNeg), .int v1, .ref 0]) (c1, c2) st := rfl
set_option maxRecDepth 100000 in
set_option maxHeartbeats 100000 in
theorem lwp_1085_389 {X : Nat × (Nat → Int32)} {d n k : Nat} {x4 : Int32} {v1 : Int32} {v2 : Int32} {c1 c2 : Nat} {st : aSt} : lw X d n (k + 5) 1085 (lwL x4 none none none) ([.int v2, .int v1, .ref 0]) (c1, c2) st = if (x4 + (nI 3)) < 0 ∨ X.1 ≤ (x4 + (nI 3)).toNatClampNeg then none else lw X d n k 1090 (lwL x4 none none none) ([.int (X.2 (x4 + (nI 3)).toNatClampNeg), .int v2, .int v1, .ref 0]) (c1, c2) st := rfl
set_option maxRecDepth 100000 in
set_option maxHeartbeats 100000 in
theorem lwp_1090_384 {X : Nat × (Nat → Int32)} {d n k : Nat} {x4 : Int32} {v1 : Int32} {v2 : Int32} {v3 : Int32} {c1 c2 : Nat} {st : aSt} : lw X d n (k + 2) 1090 (lwL x4 none none none) ([.int v3, .int v2, .int v1, .ref 0]) (c1, c2) st = if c1 + 1 ≤ 601024 ∧ c2 + 6 ≤ 7293034 then cI (am_call X aP d 290 [.ref 0, .int v1, .int v2, .int v3, .ref 158] st) (fun r1 s1 => lw X d n k 1092 (lwL x4 none none none) ([.int r1]) (c1 + 1, c2 + 6) (kp st s1)) (fun e s1 => rX e (kp st s1)) else none := rfl
set_option maxRecDepth 100000 in
set_option maxHeartbeats 100000 in
theorem lwp_1092_382 {X : Nat × (Nat → Int32)} {d n k : Nat} {x4 : Int32} {v1 : Int32} {c1 c2 : Nat} {st : aSt} : lw X d n (k + 7) 1092 (lwL x4 none none none) ([.int v1]) (c1, c2) st = if (x4 + (nI 1)) < 0 ∨ X.1 ≤ (x4 + (nI 1)).toNatClampNeg then none else lw X d n k 1099 (lwL x4 (some (.int v1)) none none) ([.int (X.2 (x4 + (nI 1)).toNatClampNeg), .ref 132]) (c1, c2) st := rfl
set_option maxRecDepth 100000 in
set_option maxHeartbeats 100000 in
theorem lwp_1099_375 {X : Nat × (Nat → Int32)} {d n k : Nat} {x4 : Int32} {v1 : Int32} {v2 : Int32} {c1 c2 : Nat} {st : aSt} : lw X d n (k + 5) 1099 (lwL x4 (some (.int v1)) none none) ([.int v2, .ref 132]) (c1, c2) st = if (x4 + (nI 2)) < 0 ∨ X.1 ≤ (x4 + (nI 2)).toNatClampNeg then none else lw X d n k 1104 (lwL x4 (some (.int v1)) none none) ([.int (X.2 (x4 + (nI 2)).toNatClampNeg), .int v2, .ref 132]) (c1, c2) st := rfl
set_option maxRecDepth 100000 in
set_option maxHeartbeats 100000 in
theorem lwp_1104_370 {X : Nat × (Nat → Int32)} {d n k : Nat} {x4 : Int32} {v1 : Int32} {v2 : Int32} {v3 : Int32} {c1 c2 : Nat} {st : aSt} : lw X d n (k + 5) 1104 (lwL x4 (some (.int v1)) none none) ([.int v3, .int v2, .ref 132]) (c1, c2) st = if (x4 + (nI 3)) < 0 ∨ X.1 ≤ (x4 + (nI 3)).toNatClampNeg then none else lw X d n k 1109 (lwL x4 (some (.int v1)) none none) ([.int (X.2 (x4 + (nI 3)).toNatClampNeg), .int v3, .int v2, .ref 132]) (c1, c2) st := rfl
set_option maxRecDepth 100000 in
set_option maxHeartbeats 100000 in
theorem lwp_1109_365 {X : Nat × (Nat → Int32)} {d n k : Nat} {x4 : Int32} {v1 : Int32} {v2 : Int32} {v3 : Int32} {v4 : Int32} {c1 c2 : Nat} {st : aSt} : lw X d n (k + 1) 1109 (lwL x4 (some (.int v1)) none none) ([.int v4, .int v3, .int v2, .ref 132]) (c1, c2) st = if c1 + 0 ≤ 601024 ∧ c2 + 0 ≤ 7293034 then cI (am_call X aP d 250 [.ref 132, .int v2, .int v3, .int v4] st) (fun r1 s1 => lw X d n k 1110 (lwL x4 (some (.int v1)) none none) ([.int r1]) (c1 + 0, c2 + 0) (kp st s1)) (fun e s1 => rX e (kp st s1)) else none := rfl
set_option maxRecDepth 100000 in
set_option maxHeartbeats 100000 in
theorem lwp_1110_364 {X : Nat × (Nat → Int32)} {d n k : Nat} {x4 : Int32} {v1 : Int32} {v2 : Int32} {c1 c2 : Nat} {st : aSt} : lw X d n (k + 3) 1110 (lwL x4 (some (.int v1)) none none) ([.int v2]) (c1, c2) st = if c1 + 0 ≤ 601024 ∧ c2 + 0 ≤ 7293034 then cI (am_call X aP d 152 [.ref 132] st) (fun r1 s1 => lw X d n k 1113 (lwL x4 (some (.int v1)) (some (.int v2)) none) ([.int r1]) (c1 + 0, c2 + 0) (kp st s1)) (fun e s1 => rX e (kp st s1)) else none := rfl
set_option maxRecDepth 100000 in
set_option maxHeartbeats 100000 in
theorem lwp_1113_361 {X : Nat × (Nat → Int32)} {d n k : Nat} {x4 : Int32} {v1 : Int32} {v2 : Int32} {v3 : Int32} {c1 c2 : Nat} {st : aSt} : lw X d n (k + 4) 1113 (lwL x4 (some (.int v1)) (some (.int v2)) none) ([.int v3]) (c1, c2) st = if v3 = v1 then lw X d n (k + 2) 1117 (lwL x4 (some (.int v1)) (some (.int v2)) none) ([]) (c1, c2) st else rI (nI 0) st := rfl
set_option maxRecDepth 100000 in
set_option maxHeartbeats 100000 in
theorem lwp_1117_359 {X : Nat × (Nat → Int32)} {d n k : Nat} {x4 : Int32} {v1 : Int32} {v2 : Int32} {c1 c2 : Nat} {st : aSt} : lw X d n (k + 4) 1117 (lwL x4 (some (.int v1)) (some (.int v2)) none) ([]) (c1, c2) st = if v1 = 0 then lw X d n (k + 2) 1119 (lwL x4 (some (.int v1)) (some (.int v2)) none) ([]) (c1, c2) st else aR X d m_L_law_ n 1561 (lwL x4 none none none) (c1, c2) st := rfl
set_option maxRecDepth 100000 in
set_option maxHeartbeats 100000 in
theorem lwp_1119_357 {X : Nat × (Nat → Int32)} {d n k : Nat} {x4 : Int32} {v1 : Int32} {v2 : Int32} {c1 c2 : Nat} {st : aSt} : lw X d n (k + 3) 1119 (lwL x4 (some (.int v1)) (some (.int v2)) none) ([]) (c1, c2) st = if (nI 0) < 0 ∨ 1 ≤ (nI 0).toNatClampNeg then none else lw X d n k 1122 (lwL x4 (some (.int v1)) (some (.int v2)) none) ([.long (gJ st 158 (nI 0).toNatClampNeg)]) (c1, c2) st := rfl
set_option maxRecDepth 100000 in
set_option maxHeartbeats 100000 in
theorem lwp_1122_354 {X : Nat × (Nat → Int32)} {d n k : Nat} {x4 : Int32} {v1 : Int32} {v2 : Int32} {v3 : Int64} {c1 c2 : Nat} {st : aSt} : lw X d n (k + 12) 1122 (lwL x4 (some (.int v1)) (some (.int v2)) none) ([.long v3]) (c1, c2) st = if lg_cmp (v3) (v2.toInt64) = 0 then aR X d m_L_law_ n 1561 (lwL x4 none none none) (c1, c2) st else rI (nI 0) st := rfl
set_option maxRecDepth 100000 in
set_option maxHeartbeats 100000 in
theorem lwp_1129_400 {X : Nat × (Nat → Int32)} {d n k : Nat} {x4 : Int32}  {c1 c2 : Nat} {st : aSt} : lw X d n (k + 6) 1129 (lwL x4 none none none) ([]) (c1, c2) st = if (x4 + (nI 1)) < 0 ∨ X.1 ≤ (x4 + (nI 1)).toNatClampNeg then none else lw X d n k 1135 (lwL x4 none none none) ([.int (X.2 (x4 + (nI 1)).toNatClampNeg), .ref 0]) (c1, c2) st := rfl
set_option maxRecDepth 100000 in
set_option maxHeartbeats 100000 in
theorem lwp_1135_394 {X : Nat × (Nat → Int32)} {d n k : Nat} {x4 : Int32} {v1 : Int32} {c1 c2 : Nat} {st : aSt} : lw X d n (k + 5) 1135 (lwL x4 none none none) ([.int v1, .ref 0]) (c1, c2) st = if (x4 + (nI 2)) < 0 ∨ X.1 ≤ (x4 + (nI 2)).toNatClampNeg then none else lw X d n k 1140 (lwL x4 none none none) ([.int (X.2 (x4 + (nI 2)).toNatClampNeg), .int v1, .ref 0]) (c1, c2) st := rfl
set_option maxRecDepth 100000 in
set_option maxHeartbeats 100000 in
theorem lwp_1140_389 {X : Nat × (Nat → Int32)} {d n k : Nat} {x4 : Int32} {v1 : Int32} {v2 : Int32} {c1 c2 : Nat} {st : aSt} : lw X d n (k + 5) 1140 (lwL x4 none none none) ([.int v2, .int v1, .ref 0]) (c1, c2) st = if (x4 + (nI 3)) < 0 ∨ X.1 ≤ (x4 + (nI 3)).toNatClampNeg then none else lw X d n k 1145 (lwL x4 none none none) ([.int (X.2 (x4 + (nI 3)).toNatClampNeg), .int v2, .int v1, .ref 0]) (c1, c2) st := rfl
set_option maxRecDepth 100000 in
set_option maxHeartbeats 100000 in
theorem lwp_1145_384 {X : Nat × (Nat → Int32)} {d n k : Nat} {x4 : Int32} {v1 : Int32} {v2 : Int32} {v3 : Int32} {c1 c2 : Nat} {st : aSt} : lw X d n (k + 5) 1145 (lwL x4 none none none) ([.int v3, .int v2, .int v1, .ref 0]) (c1, c2) st = if (x4 + (nI 4)) < 0 ∨ X.1 ≤ (x4 + (nI 4)).toNatClampNeg then none else lw X d n k 1150 (lwL x4 none none none) ([.int (X.2 (x4 + (nI 4)).toNatClampNeg), .int v3, .int v2, .int v1, .ref 0]) (c1, c2) st := rfl
set_option maxRecDepth 100000 in
set_option maxHeartbeats 100000 in
theorem lwp_1150_379 {X : Nat × (Nat → Int32)} {d n k : Nat} {x4 : Int32} {v1 : Int32} {v2 : Int32} {v3 : Int32} {v4 : Int32} {c1 c2 : Nat} {st : aSt} : lw X d n (k + 2) 1150 (lwL x4 none none none) ([.int v4, .int v3, .int v2, .int v1, .ref 0]) (c1, c2) st = if c1 + 1 ≤ 601024 ∧ c2 + 6 ≤ 7293034 then cI (am_call X aP d 291 [.ref 0, .int v1, .int v2, .int v3, .int v4, .ref 158] st) (fun r1 s1 => lw X d n k 1152 (lwL x4 none none none) ([.int r1]) (c1 + 1, c2 + 6) (kp st s1)) (fun e s1 => rX e (kp st s1)) else none := rfl
set_option maxRecDepth 100000 in
set_option maxHeartbeats 100000 in
theorem lwp_1152_377 {X : Nat × (Nat → Int32)} {d n k : Nat} {x4 : Int32} {v1 : Int32} {c1 c2 : Nat} {st : aSt} : lw X d n (k + 7) 1152 (lwL x4 none none none) ([.int v1]) (c1, c2) st = if (x4 + (nI 1)) < 0 ∨ X.1 ≤ (x4 + (nI 1)).toNatClampNeg then none else lw X d n k 1159 (lwL x4 (some (.int v1)) none none) ([.int (X.2 (x4 + (nI 1)).toNatClampNeg), .ref 132]) (c1, c2) st := rfl
set_option maxRecDepth 100000 in
set_option maxHeartbeats 100000 in
theorem lwp_1159_370 {X : Nat × (Nat → Int32)} {d n k : Nat} {x4 : Int32} {v1 : Int32} {v2 : Int32} {c1 c2 : Nat} {st : aSt} : lw X d n (k + 5) 1159 (lwL x4 (some (.int v1)) none none) ([.int v2, .ref 132]) (c1, c2) st = if (x4 + (nI 2)) < 0 ∨ X.1 ≤ (x4 + (nI 2)).toNatClampNeg then none else lw X d n k 1164 (lwL x4 (some (.int v1)) none none) ([.int (X.2 (x4 + (nI 2)).toNatClampNeg), .int v2, .ref 132]) (c1, c2) st := rfl
set_option maxRecDepth 100000 in
set_option maxHeartbeats 100000 in
theorem lwp_1164_365 {X : Nat × (Nat → Int32)} {d n k : Nat} {x4 : Int32} {v1 : Int32} {v2 : Int32} {v3 : Int32} {c1 c2 : Nat} {st : aSt} : lw X d n (k + 5) 1164 (lwL x4 (some (.int v1)) none none) ([.int v3, .int v2, .ref 132]) (c1, c2) st = if (x4 + (nI 3)) < 0 ∨ X.1 ≤ (x4 + (nI 3)).toNatClampNeg then none else lw X d n k 1169 (lwL x4 (some (.int v1)) none none) ([.int (X.2 (x4 + (nI 3)).toNatClampNeg), .int v3, .int v2, .ref 132]) (c1, c2) st := rfl
set_option maxRecDepth 100000 in
set_option maxHeartbeats 100000 in
theorem lwp_1169_360 {X : Nat × (Nat → Int32)} {d n k : Nat} {x4 : Int32} {v1 : Int32} {v2 : Int32} {v3 : Int32} {v4 : Int32} {c1 c2 : Nat} {st : aSt} : lw X d n (k + 5) 1169 (lwL x4 (some (.int v1)) none none) ([.int v4, .int v3, .int v2, .ref 132]) (c1, c2) st = if (x4 + (nI 4)) < 0 ∨ X.1 ≤ (x4 + (nI 4)).toNatClampNeg then none else lw X d n k 1174 (lwL x4 (some (.int v1)) none none) ([.int (X.2 (x4 + (nI 4)).toNatClampNeg), .int v4, .int v3, .int v2, .ref 132]) (c1, c2) st := rfl
set_option maxRecDepth 100000 in
set_option maxHeartbeats 100000 in
theorem lwp_1174_355 {X : Nat × (Nat → Int32)} {d n k : Nat} {x4 : Int32} {v1 : Int32} {v2 : Int32} {v3 : Int32} {v4 : Int32} {v5 : Int32} {c1 c2 : Nat} {st : aSt} : lw X d n (k + 1) 1174 (lwL x4 (some (.int v1)) none none) ([.int v5, .int v4, .int v3, .int v2, .ref 132]) (c1, c2) st = if c1 + 0 ≤ 601024 ∧ c2 + 0 ≤ 7293034 then cJ (am_call X aP d 252 [.ref 132, .int v2, .int v3, .int v4, .int v5] st) (fun r1 s1 => lw X d n k 1175 (lwL x4 (some (.int v1)) none none) ([.long r1]) (c1 + 0, c2 + 0) (kp st s1)) (fun e s1 => rX e (kp st s1)) else none := rfl
set_option maxRecDepth 100000 in
set_option maxHeartbeats 100000 in
theorem lwp_1175_354 {X : Nat × (Nat → Int32)} {d n k : Nat} {x4 : Int32} {v1 : Int32} {v2 : Int64} {c1 c2 : Nat} {st : aSt} : lw X d n (k + 3) 1175 (lwL x4 (some (.int v1)) none none) ([.long v2]) (c1, c2) st = if c1 + 0 ≤ 601024 ∧ c2 + 0 ≤ 7293034 then cI (am_call X aP d 152 [.ref 132] st) (fun r1 s1 => lw X d n k 1178 (lwL x4 (some (.int v1)) (some (.long v2)) none) ([.int r1]) (c1 + 0, c2 + 0) (kp st s1)) (fun e s1 => rX e (kp st s1)) else none := rfl
set_option maxRecDepth 100000 in
set_option maxHeartbeats 100000 in
theorem lwp_1178_351 {X : Nat × (Nat → Int32)} {d n k : Nat} {x4 : Int32} {v1 : Int32} {v2 : Int64} {v3 : Int32} {c1 c2 : Nat} {st : aSt} : lw X d n (k + 4) 1178 (lwL x4 (some (.int v1)) (some (.long v2)) none) ([.int v3]) (c1, c2) st = if v3 = v1 then lw X d n (k + 2) 1182 (lwL x4 (some (.int v1)) (some (.long v2)) none) ([]) (c1, c2) st else rI (nI 0) st := rfl
set_option maxRecDepth 100000 in
set_option maxHeartbeats 100000 in
theorem lwp_1182_349 {X : Nat × (Nat → Int32)} {d n k : Nat} {x4 : Int32} {v1 : Int32} {v2 : Int64} {c1 c2 : Nat} {st : aSt} : lw X d n (k + 4) 1182 (lwL x4 (some (.int v1)) (some (.long v2)) none) ([]) (c1, c2) st = if v1 = 0 then lw X d n (k + 2) 1184 (lwL x4 (some (.int v1)) (some (.long v2)) none) ([]) (c1, c2) st else aR X d m_L_law_ n 1561 (lwL x4 none none none) (c1, c2) st := rfl
set_option maxRecDepth 100000 in
set_option maxHeartbeats 100000 in
theorem lwp_1184_347 {X : Nat × (Nat → Int32)} {d n k : Nat} {x4 : Int32} {v1 : Int32} {v2 : Int64} {c1 c2 : Nat} {st : aSt} : lw X d n (k + 3) 1184 (lwL x4 (some (.int v1)) (some (.long v2)) none) ([]) (c1, c2) st = if (nI 0) < 0 ∨ 1 ≤ (nI 0).toNatClampNeg then none else lw X d n k 1187 (lwL x4 (some (.int v1)) (some (.long v2)) none) ([.long (gJ st 158 (nI 0).toNatClampNeg)]) (c1, c2) st := rfl
