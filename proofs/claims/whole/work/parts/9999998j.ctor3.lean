/-! THE REFERENCE, MADE -/
noncomputable def yi (X : Nat × (Nat → Int32)) (d n k i : Nat) (stk : List Value) (cn : Nat × Nat) (st : aSt) : aRes := am_in X (am_call X aP d) m_X10_init (am_run X (am_call X aP d) m_X10_init n) k (m_X10_init.1.drop i) [some (.ref 132)] stk cn st
set_option maxRecDepth 100000 in
set_option maxHeartbeats 1000000 in
theorem yi_0 {X : Nat × (Nat → Int32)} {d n k : Nat} {st : aSt} {cn : Nat × Nat} : yi X d n (k + 2) 0 [] cn st = yi X d n k 2 [] cn st := rfl
set_option maxRecDepth 100000 in
set_option maxHeartbeats 1000000 in
theorem yi_a2 {X : Nat × (Nat → Int32)} {d n k : Nat} {I : Nat → Nat → Int32} {J : Nat → Nat → Int64} {R : Nat → Nat → Option Nat} : yi X d n (k + 4) 2 [] (0, 0) (133, I, J, R) = yi X d n k 6 [] (1, 2) (setR (mkNew (133, I, J, R)) 132 1 (some 133)) := rfl
set_option maxRecDepth 100000 in
set_option maxHeartbeats 1000000 in
theorem yi_s6 {X : Nat × (Nat → Int32)} {d n k : Nat} {I : Nat → Nat → Int32} {J : Nat → Nat → Int64} {R : Nat → Nat → Option Nat} {cn : Nat × Nat} : yi X d n (k + 3) 6 [] cn (134, I, J, R) = yi X d n k 9 [] cn (134, uI I 132 8 (nI 4294967295), J, R) := rfl
set_option maxRecDepth 100000 in
set_option maxHeartbeats 1000000 in
theorem yi_a9 {X : Nat × (Nat → Int32)} {d n k : Nat} {I : Nat → Nat → Int32} {J : Nat → Nat → Int64} {R : Nat → Nat → Option Nat} : yi X d n (k + 4) 9 [] (1, 2) (134, I, J, R) = yi X d n k 13 [] (2, 602) (setR (mkNew (134, I, J, R)) 132 9 (some 134)) := rfl
set_option maxRecDepth 100000 in
set_option maxHeartbeats 1000000 in
theorem yi_a13 {X : Nat × (Nat → Int32)} {d n k : Nat} {I : Nat → Nat → Int32} {J : Nat → Nat → Int64} {R : Nat → Nat → Option Nat} : yi X d n (k + 4) 13 [] (2, 602) (135, I, J, R) = yi X d n k 17 [] (3, 650) (setR (mkNew (135, I, J, R)) 132 10 (some 135)) := rfl
set_option maxRecDepth 100000 in
set_option maxHeartbeats 1000000 in
theorem yi_a17 {X : Nat × (Nat → Int32)} {d n k : Nat} {I : Nat → Nat → Int32} {J : Nat → Nat → Int64} {R : Nat → Nat → Option Nat} : yi X d n (k + 4) 17 [] (3, 650) (136, I, J, R) = yi X d n k 21 [] (4, 660) (setR (mkNew (136, I, J, R)) 132 11 (some 136)) := rfl
set_option maxRecDepth 100000 in
set_option maxHeartbeats 1000000 in
theorem yi_a21 {X : Nat × (Nat → Int32)} {d n k : Nat} {I : Nat → Nat → Int32} {J : Nat → Nat → Int64} {R : Nat → Nat → Option Nat} : yi X d n (k + 4) 21 [] (4, 660) (137, I, J, R) = yi X d n k 25 [] (5, 708) (setR (mkNew (137, I, J, R)) 132 12 (some 137)) := rfl
set_option maxRecDepth 100000 in
set_option maxHeartbeats 1000000 in
theorem yi_a25 {X : Nat × (Nat → Int32)} {d n k : Nat} {I : Nat → Nat → Int32} {J : Nat → Nat → Int64} {R : Nat → Nat → Option Nat} : yi X d n (k + 4) 25 [] (5, 708) (138, I, J, R) = yi X d n k 29 [] (6, 718) (setR (mkNew (138, I, J, R)) 132 13 (some 138)) := rfl
set_option maxRecDepth 100000 in
set_option maxHeartbeats 1000000 in
theorem yi_a29 {X : Nat × (Nat → Int32)} {d n k : Nat} {I : Nat → Nat → Int32} {J : Nat → Nat → Int64} {R : Nat → Nat → Option Nat} : yi X d n (k + 4) 29 [] (6, 718) (139, I, J, R) = yi X d n k 33 [] (7, 868) (setR (mkNew (139, I, J, R)) 132 20 (some 139)) := rfl
set_option maxRecDepth 100000 in
set_option maxHeartbeats 1000000 in
theorem yi_a33 {X : Nat × (Nat → Int32)} {d n k : Nat} {I : Nat → Nat → Int32} {J : Nat → Nat → Int64} {R : Nat → Nat → Option Nat} : yi X d n (k + 4) 33 [] (7, 868) (140, I, J, R) = yi X d n k 37 [] (8, 1018) (setR (mkNew (140, I, J, R)) 132 21 (some 140)) := rfl
set_option maxRecDepth 100000 in
set_option maxHeartbeats 1000000 in
theorem yi_a37 {X : Nat × (Nat → Int32)} {d n k : Nat} {I : Nat → Nat → Int32} {J : Nat → Nat → Int64} {R : Nat → Nat → Option Nat} : yi X d n (k + 4) 37 [] (8, 1018) (141, I, J, R) = yi X d n k 41 [] (9, 1168) (setR (mkNew (141, I, J, R)) 132 22 (some 141)) := rfl
set_option maxRecDepth 100000 in
set_option maxHeartbeats 1000000 in
theorem yi_a41 {X : Nat × (Nat → Int32)} {d n k : Nat} {I : Nat → Nat → Int32} {J : Nat → Nat → Int64} {R : Nat → Nat → Option Nat} : yi X d n (k + 4) 41 [] (9, 1168) (142, I, J, R) = yi X d n k 45 [] (10, 1318) (setR (mkNew (142, I, J, R)) 132 23 (some 142)) := rfl
set_option maxRecDepth 100000 in
set_option maxHeartbeats 1000000 in
theorem yi_a45 {X : Nat × (Nat → Int32)} {d n k : Nat} {I : Nat → Nat → Int32} {J : Nat → Nat → Int64} {R : Nat → Nat → Option Nat} : yi X d n (k + 4) 45 [] (10, 1318) (143, I, J, R) = yi X d n k 49 [] (11, 1468) (setR (mkNew (143, I, J, R)) 132 24 (some 143)) := rfl
set_option maxRecDepth 100000 in
set_option maxHeartbeats 1000000 in
theorem yi_a49 {X : Nat × (Nat → Int32)} {d n k : Nat} {I : Nat → Nat → Int32} {J : Nat → Nat → Int64} {R : Nat → Nat → Option Nat} : yi X d n (k + 4) 49 [] (11, 1468) (144, I, J, R) = yi X d n k 53 [] (12, 1476) (setR (mkNew (144, I, J, R)) 132 27 (some 144)) := rfl
set_option maxRecDepth 100000 in
set_option maxHeartbeats 1000000 in
theorem yi_a53 {X : Nat × (Nat → Int32)} {d n k : Nat} {I : Nat → Nat → Int32} {J : Nat → Nat → Int64} {R : Nat → Nat → Option Nat} : yi X d n (k + 4) 53 [] (12, 1476) (145, I, J, R) = yi X d n k 57 [] (13, 1626) (setR (mkNew (145, I, J, R)) 132 28 (some 145)) := rfl
set_option maxRecDepth 100000 in
set_option maxHeartbeats 1000000 in
theorem yi_a57 {X : Nat × (Nat → Int32)} {d n k : Nat} {I : Nat → Nat → Int32} {J : Nat → Nat → Int64} {R : Nat → Nat → Option Nat} : yi X d n (k + 4) 57 [] (13, 1626) (146, I, J, R) = yi X d n k 61 [] (14, 1776) (setR (mkNew (146, I, J, R)) 132 29 (some 146)) := rfl
set_option maxRecDepth 100000 in
set_option maxHeartbeats 1000000 in
theorem yi_a61 {X : Nat × (Nat → Int32)} {d n k : Nat} {I : Nat → Nat → Int32} {J : Nat → Nat → Int64} {R : Nat → Nat → Option Nat} : yi X d n (k + 4) 61 [] (14, 1776) (147, I, J, R) = yi X d n k 65 [] (15, 1827) (setR (mkNew (147, I, J, R)) 132 36 (some 147)) := rfl
set_option maxRecDepth 100000 in
set_option maxHeartbeats 1000000 in
theorem yi_a65 {X : Nat × (Nat → Int32)} {d n k : Nat} {I : Nat → Nat → Int32} {J : Nat → Nat → Int64} {R : Nat → Nat → Option Nat} : yi X d n (k + 4) 65 [] (15, 1827) (148, I, J, R) = yi X d n k 69 [] (16, 1878) (setR (mkNew (148, I, J, R)) 132 37 (some 148)) := rfl
set_option maxRecDepth 100000 in
set_option maxHeartbeats 1000000 in
theorem yi_a69 {X : Nat × (Nat → Int32)} {d n k : Nat} {I : Nat → Nat → Int32} {J : Nat → Nat → Int64} {R : Nat → Nat → Option Nat} : yi X d n (k + 4) 69 [] (16, 1878) (149, I, J, R) = yi X d n k 73 [] (17, 2694) (setR (mkNew (149, I, J, R)) 132 38 (some 149)) := rfl
set_option maxRecDepth 100000 in
set_option maxHeartbeats 1000000 in
theorem yi_a73 {X : Nat × (Nat → Int32)} {d n k : Nat} {I : Nat → Nat → Int32} {J : Nat → Nat → Int64} {R : Nat → Nat → Option Nat} : yi X d n (k + 4) 73 [] (17, 2694) (150, I, J, R) = yi X d n k 77 [] (18, 2706) (setR (mkNew (150, I, J, R)) 132 39 (some 150)) := rfl
set_option maxRecDepth 100000 in
set_option maxHeartbeats 1000000 in
theorem yi_a77 {X : Nat × (Nat → Int32)} {d n k : Nat} {I : Nat → Nat → Int32} {J : Nat → Nat → Int64} {R : Nat → Nat → Option Nat} : yi X d n (k + 4) 77 [] (18, 2706) (151, I, J, R) = yi X d n k 81 [] (19, 2718) (setR (mkNew (151, I, J, R)) 132 40 (some 151)) := rfl
set_option maxRecDepth 100000 in
set_option maxHeartbeats 1000000 in
theorem yi_a81 {X : Nat × (Nat → Int32)} {d n k : Nat} {I : Nat → Nat → Int32} {J : Nat → Nat → Int64} {R : Nat → Nat → Option Nat} : yi X d n (k + 4) 81 [] (19, 2718) (152, I, J, R) = yi X d n k 85 [] (20, 2730) (setR (mkNew (152, I, J, R)) 132 41 (some 152)) := rfl
set_option maxRecDepth 100000 in
set_option maxHeartbeats 1000000 in
theorem yi_a85 {X : Nat × (Nat → Int32)} {d n k : Nat} {I : Nat → Nat → Int32} {J : Nat → Nat → Int64} {R : Nat → Nat → Option Nat} : yi X d n (k + 4) 85 [] (20, 2730) (153, I, J, R) = yi X d n k 89 [] (21, 2742) (setR (mkNew (153, I, J, R)) 132 43 (some 153)) := rfl
set_option maxRecDepth 100000 in
set_option maxHeartbeats 1000000 in
theorem yi_a89 {X : Nat × (Nat → Int32)} {d n k : Nat} {I : Nat → Nat → Int32} {J : Nat → Nat → Int64} {R : Nat → Nat → Option Nat} : yi X d n (k + 4) 89 [] (21, 2742) (154, I, J, R) = yi X d n k 93 [] (22, 2749) (setR (mkNew (154, I, J, R)) 132 44 (some 154)) := rfl
set_option maxRecDepth 100000 in
set_option maxHeartbeats 1000000 in
theorem yi_a93 {X : Nat × (Nat → Int32)} {d n k : Nat} {I : Nat → Nat → Int32} {J : Nat → Nat → Int64} {R : Nat → Nat → Option Nat} : yi X d n (k + 4) 93 [] (22, 2749) (155, I, J, R) = yi X d n k 97 [] (23, 2756) (setR (mkNew (155, I, J, R)) 132 45 (some 155)) := rfl
set_option maxRecDepth 100000 in
set_option maxHeartbeats 1000000 in
theorem yi_a97 {X : Nat × (Nat → Int32)} {d n k : Nat} {I : Nat → Nat → Int32} {J : Nat → Nat → Int64} {R : Nat → Nat → Option Nat} : yi X d n (k + 4) 97 [] (23, 2756) (156, I, J, R) = yi X d n k 101 [] (24, 2770) (setR (mkNew (156, I, J, R)) 132 46 (some 156)) := rfl
set_option maxRecDepth 100000 in
set_option maxHeartbeats 1000000 in
theorem yi_a101 {X : Nat × (Nat → Int32)} {d n k : Nat} {I : Nat → Nat → Int32} {J : Nat → Nat → Int64} {R : Nat → Nat → Option Nat} : yi X d n (k + 4) 101 [] (24, 2770) (157, I, J, R) = yi X d n k 105 [] (25, 5374) (setR (mkNew (157, I, J, R)) 132 48 (some 157)) := rfl
theorem setR_t (N o k : Nat) (v : Option Nat) (I : Nat → Nat → Int32) (J : Nat → Nat → Int64) (R : Nat → Nat → Option Nat) : setR (N, I, J, R) o k v = (N, I, J, uR R o k v) := rfl
def opM : List cOp := [(1, 132, 1, 133)] ++ ([(2, 132, 8, 4294967295)] ++ ([(1, 132, 9, 134)] ++ ([(1, 132, 10, 135)] ++ ([(1, 132, 11, 136)] ++ ([(1, 132, 12, 137)] ++ ([(1, 132, 13, 138)] ++ ([(1, 132, 20, 139)] ++ ([(1, 132, 21, 140)] ++ ([(1, 132, 22, 141)] ++ ([(1, 132, 23, 142)] ++ ([(1, 132, 24, 143)] ++ ([(1, 132, 27, 144)] ++ ([(1, 132, 28, 145)] ++ ([(1, 132, 29, 146)] ++ ([(1, 132, 36, 147)] ++ ([(1, 132, 37, 148)] ++ ([(1, 132, 38, 149)] ++ ([(1, 132, 39, 150)] ++ ([(1, 132, 40, 151)] ++ ([(1, 132, 41, 152)] ++ ([(1, 132, 43, 153)] ++ ([(1, 132, 44, 154)] ++ ([(1, 132, 45, 155)] ++ ([(1, 132, 46, 156)] ++ ([(1, 132, 48, 157)])))))))))))))))))))))))))
set_option maxRecDepth 100000 in
set_option maxHeartbeats 1000000 in
theorem yi_105 {X : Nat × (Nat → Int32)} {d n k : Nat} {st : aSt} {cn : Nat × Nat} : yi X d n (k + 2) 105 [] cn st = (if cn.1 + 0 ≤ m_X10_init.2.2.2.1 ∧ cn.2 + 0 ≤ m_X10_init.2.2.2.2 then cV (am_call X aP d 172 [.ref 132] st) (fun s1 => yi X d n k 107 [] (cn.1 + 0, cn.2 + 0) (kp st s1)) (fun e s1 => rX e (kp st s1)) else none) := rfl
set_option maxRecDepth 100000 in
set_option maxHeartbeats 1000000 in
theorem yi_107 {X : Nat × (Nat → Int32)} {d n k : Nat} {st : aSt} {cn : Nat × Nat} : yi X d n (k + 2) 107 [] cn st = (if cn.1 + 0 ≤ m_X10_init.2.2.2.1 ∧ cn.2 + 0 ≤ m_X10_init.2.2.2.2 then cV (am_call X aP d 173 [.ref 132] st) (fun s1 => yi X d n k 109 [] (cn.1 + 0, cn.2 + 0) (kp st s1)) (fun e s1 => rX e (kp st s1)) else none) := rfl
set_option maxRecDepth 100000 in
set_option maxHeartbeats 1000000 in
theorem yi_109 {X : Nat × (Nat → Int32)} {d n k : Nat} {st : aSt} {cn : Nat × Nat} : yi X d n (k + 1) 109 [] cn st = rV st := rfl
theorem yg (X : Nat × (Nat → Int32)) (d : Nat) (st : aSt) : am_call X aP (d + 1) 155 [.ref 132] st = aR X d m_X10_init (9999999 + 1) 0 [some (.ref 132)] (0, 0) st := am_go X d 155 _ st (by decide) ⟨Nat.le_of_ble_eq_true rfl, rfl⟩
theorem yi_aR {X : Nat × (Nat → Int32)} {d n : Nat} {cn : Nat × Nat} {st : aSt} : aR X d m_X10_init (n + 1) 0 [some (.ref 132)] cn st = yi X d n 400 0 [] cn st := rfl
set_option maxRecDepth 100000 in
set_option maxHeartbeats 1000000 in
theorem y10_go (X : Nat × (Nat → Int32)) (d : Nat) {I : Nat → Nat → Int32} {J : Nat → Nat → Int64} {R : Nat → Nat → Option Nat} (h : cln 133 I J R) : am_call X aP (d + 1) 155 [.ref 132] (133, I, J, R) = yi X d 9999999 295 105 [] (25, 5374) (158, wrI opM I, J, wrR opM R) ∧ cln 158 (wrI opM I) J (wrR opM R) := by
  simp only [opM, wrI_app, wrR_app, wrI_1, wrI_2, wrR_1, wrR_2]
  have h134 : cln 134 _ J (uR _ 132 1 (some 133)) := fun o ho => by
    unfold uR
    rw [va_up_ne _ _ (by omega)]
    exact h o (by omega)
  have k134 : cln 134 (uI _ 132 8 (nI 4294967295)) J _ := fun o ho => by
    rw [uI_row _ _ (by omega)]
    exact h134 o ho
  have h135 : cln 135 _ J (uR _ 132 9 (some 134)) := fun o ho => by
    unfold uR
    rw [va_up_ne _ _ (by omega)]
    exact k134 o (by omega)
  have h136 : cln 136 _ J (uR _ 132 10 (some 135)) := fun o ho => by
    unfold uR
    rw [va_up_ne _ _ (by omega)]
    exact h135 o (by omega)
  have h137 : cln 137 _ J (uR _ 132 11 (some 136)) := fun o ho => by
    unfold uR
    rw [va_up_ne _ _ (by omega)]
    exact h136 o (by omega)
  have h138 : cln 138 _ J (uR _ 132 12 (some 137)) := fun o ho => by
    unfold uR
    rw [va_up_ne _ _ (by omega)]
    exact h137 o (by omega)
  have h139 : cln 139 _ J (uR _ 132 13 (some 138)) := fun o ho => by
    unfold uR
    rw [va_up_ne _ _ (by omega)]
    exact h138 o (by omega)
  have h140 : cln 140 _ J (uR _ 132 20 (some 139)) := fun o ho => by
    unfold uR
    rw [va_up_ne _ _ (by omega)]
    exact h139 o (by omega)
  have h141 : cln 141 _ J (uR _ 132 21 (some 140)) := fun o ho => by
    unfold uR
    rw [va_up_ne _ _ (by omega)]
    exact h140 o (by omega)
  have h142 : cln 142 _ J (uR _ 132 22 (some 141)) := fun o ho => by
    unfold uR
    rw [va_up_ne _ _ (by omega)]
    exact h141 o (by omega)
  have h143 : cln 143 _ J (uR _ 132 23 (some 142)) := fun o ho => by
    unfold uR
    rw [va_up_ne _ _ (by omega)]
    exact h142 o (by omega)
  have h144 : cln 144 _ J (uR _ 132 24 (some 143)) := fun o ho => by
    unfold uR
    rw [va_up_ne _ _ (by omega)]
    exact h143 o (by omega)
  have h145 : cln 145 _ J (uR _ 132 27 (some 144)) := fun o ho => by
    unfold uR
    rw [va_up_ne _ _ (by omega)]
    exact h144 o (by omega)
  have h146 : cln 146 _ J (uR _ 132 28 (some 145)) := fun o ho => by
    unfold uR
    rw [va_up_ne _ _ (by omega)]
    exact h145 o (by omega)
  have h147 : cln 147 _ J (uR _ 132 29 (some 146)) := fun o ho => by
    unfold uR
    rw [va_up_ne _ _ (by omega)]
    exact h146 o (by omega)
  have h148 : cln 148 _ J (uR _ 132 36 (some 147)) := fun o ho => by
    unfold uR
    rw [va_up_ne _ _ (by omega)]
    exact h147 o (by omega)
  have h149 : cln 149 _ J (uR _ 132 37 (some 148)) := fun o ho => by
    unfold uR
    rw [va_up_ne _ _ (by omega)]
    exact h148 o (by omega)
  have h150 : cln 150 _ J (uR _ 132 38 (some 149)) := fun o ho => by
    unfold uR
    rw [va_up_ne _ _ (by omega)]
    exact h149 o (by omega)
  have h151 : cln 151 _ J (uR _ 132 39 (some 150)) := fun o ho => by
    unfold uR
    rw [va_up_ne _ _ (by omega)]
    exact h150 o (by omega)
  have h152 : cln 152 _ J (uR _ 132 40 (some 151)) := fun o ho => by
    unfold uR
    rw [va_up_ne _ _ (by omega)]
    exact h151 o (by omega)
  have h153 : cln 153 _ J (uR _ 132 41 (some 152)) := fun o ho => by
    unfold uR
    rw [va_up_ne _ _ (by omega)]
    exact h152 o (by omega)
  have h154 : cln 154 _ J (uR _ 132 43 (some 153)) := fun o ho => by
    unfold uR
    rw [va_up_ne _ _ (by omega)]
    exact h153 o (by omega)
  have h155 : cln 155 _ J (uR _ 132 44 (some 154)) := fun o ho => by
    unfold uR
    rw [va_up_ne _ _ (by omega)]
    exact h154 o (by omega)
  have h156 : cln 156 _ J (uR _ 132 45 (some 155)) := fun o ho => by
    unfold uR
    rw [va_up_ne _ _ (by omega)]
    exact h155 o (by omega)
  have h157 : cln 157 _ J (uR _ 132 46 (some 156)) := fun o ho => by
    unfold uR
    rw [va_up_ne _ _ (by omega)]
    exact h156 o (by omega)
  have h158 : cln 158 _ J (uR _ 132 48 (some 157)) := fun o ho => by
    unfold uR
    rw [va_up_ne _ _ (by omega)]
    exact h157 o (by omega)
  refine ⟨?_, h158⟩
  rw [yg, yi_aR, yi_0, yi_a2, mkNew_c h, setR_t, yi_s6, yi_a9, mkNew_c k134, setR_t, yi_a13, mkNew_c h135, setR_t, yi_a17, mkNew_c h136, setR_t, yi_a21, mkNew_c h137, setR_t, yi_a25, mkNew_c h138, setR_t, yi_a29, mkNew_c h139, setR_t, yi_a33, mkNew_c h140, setR_t, yi_a37, mkNew_c h141, setR_t, yi_a41, mkNew_c h142, setR_t, yi_a45, mkNew_c h143, setR_t, yi_a49, mkNew_c h144, setR_t, yi_a53, mkNew_c h145, setR_t, yi_a57, mkNew_c h146, setR_t, yi_a61, mkNew_c h147, setR_t, yi_a65, mkNew_c h148, setR_t, yi_a69, mkNew_c h149, setR_t, yi_a73, mkNew_c h150, setR_t, yi_a77, mkNew_c h151, setR_t, yi_a81, mkNew_c h152, setR_t, yi_a85, mkNew_c h153, setR_t, yi_a89, mkNew_c h154, setR_t, yi_a93, mkNew_c h155, setR_t, yi_a97, mkNew_c h156, setR_t, yi_a101, mkNew_c h157, setR_t]
