/-! THE LAW'S TEXT: words, all of it, and the calls -/
section LW7
variable {X : Nat × (Nat → Int32)} {w : Bool × Bool × Bool} {J : Nat → Nat → Int64} {B : Nat → Int} {e r : Nat} {bw : Bool} {F : Nat → LOut}
theorem not40 {q : Nat} (h : 97 ≤ B q ∧ B q ≤ 122) : ¬ (q < e ∧ B q = 40) := fun z => by omega
/-- the reference up to the word -/
theorem m_uHead {q p : Nat} {S S1 : Hp} {d : Nat} {R : aRes} (hqs : sk B e q = q) (nd : ¬ (q < e ∧ isD (B q) = true)) (n4 : ¬ (q < e ∧ B q = 40)) (hM : Mp S B e p) (hM1 : Mp S1 B e q) (hh : ∀ d, am_call X aP (d + 1) 159 [.ref 132] (mkS w (hI S) J) = some (.inl (some (.int (zI (bt0 B e q)))), (mkS w (hI S1) J))) (hR : (if zI (wV B e q : Nat) = zI (pk5 (sx 3) 0 : Nat) then cV (am_call X aP (d + (4 * r + 5)) 184 [.ref 132, .int (nI 5), .int (nI 6)] (mkS w (hI S1) J)) (fun s16 => rV (mkS w (gI s16) (gJ s16))) (fun e9 s16 => rX e9 (mkS w (gI s16) (gJ s16))) else if zI (wV B e q : Nat) = zI (pk5 (sx 4) 0 : Nat) then cV (am_call X aP (d + (4 * r + 5)) 184 [.ref 132, .int (nI 4), .int (nI 7)] (mkS w (hI S1) J)) (fun s21 => rV (mkS w (gI s21) (gJ s21))) (fun e9 s21 => rX e9 (mkS w (gI s21) (gJ s21))) else if zI (gvn B e q) = zI (-1) then cV (am_call X aP (d + (4 * r + 5)) 158 [.ref 132, .int (nI 1), .int (zI (q : Int))] (mkS w (hI S1) J)) (fun s24 => aR X (d + (4 * r + 5)) m_X10_readUnit 9999999 66 [some (.ref 132), some (.int (zI (gvn B e q)))] (0, 0) (mkS w (gI s24) (gJ s24))) (fun e9 s24 => rX e9 (mkS w (gI s24) (gJ s24))) else aR X (d + (4 * r + 5)) m_X10_readUnit 9999999 66 [some (.ref 132), some (.int (zI (gvn B e q)))] (0, 0) (mkS w (hI S1) J)) = R) : am_call X aP (d + (4 * r + 6)) 186 [.ref 132] (mkS w (hI S) J) = R := by
  have hr := bt0_r (q := q) hM1.1 hM1.2.2.1
  have hwd := fun d => M_wordN (X := X) (d := d) (w := w) (J := J) hM1 hqs
  have hft := fun d => m_fact (X := X) (d := d) (w := w) (J := J) hM1 hqs
  have a4 := hM1.2.2.2.2.1
  rw [show d + (4 * r + 6) = (d + (4 * r + 5)) + 1 from rfl, go_X10_readUnit, e_X10_readUnit_0]
  refine cI_go (r := zI 1) (st := mkS w (hI S) J) (M_fine1 hM) ?_
  refine (if_neg (by decide)).trans ?_
  refine cI_go (r := zI (bt0 B e q)) (st := mkS w (hI S1) J) (hh _) ?_
  refine (if_neg (by simp only [zl]; rw [z_eq (by omega) (by omega) (by decide) (by decide)]; exact fun z => n4 ((bt0_c (by decide)).mp z))).trans ?_
  refine cI_go (r := zI (bt0 B e q)) (st := mkS w (hI S1) J) (M_hereN hM1 hqs) ?_
  refine cI_go (r := zI 0) (st := mkS w (hI S1) J) ?_ ?_
  · have := m_isDigit (X := X) (d := d + (4 * r + 4)) (w := w) (J := J) hr (hI S1)
    rw [if_neg (fun z => nd (bt0_d.mp z))] at this
    exact this
  refine (if_pos rfl).trans ?_
  refine cI_go (r := zI (wV B e q : Nat)) (st := mkS w (hI S1) J) ?_ ?_
  · rw [show d + (4 * r + 5) = (d + (4 * r + 3)) + 2 from rfl]
    exact hwd _
  refine cI_go (r := zI (pk5 (sx 3) 0 : Nat)) (st := mkS w (hI S1) J) ?_ ?_
  · rw [show d + (4 * r + 5) = (d + (4 * r + 3)) + 2 from rfl]
    exact M_of (by decide)
  by_cases c3 : zI (wV B e q : Nat) = zI (pk5 (sx 3) 0 : Nat)
  · rw [if_pos c3] at hR
    exact (if_pos c3).trans hR
  · rw [if_neg c3] at hR
    refine (if_neg c3).trans ?_
    refine cI_go (r := zI (wV B e q : Nat)) (st := mkS w (hI S1) J) ?_ ?_
    · rw [show d + (4 * r + 5) = (d + (4 * r + 3)) + 2 from rfl]
      exact hwd _
    refine cI_go (r := zI (pk5 (sx 4) 0 : Nat)) (st := mkS w (hI S1) J) ?_ ?_
    · rw [show d + (4 * r + 5) = (d + (4 * r + 3)) + 2 from rfl]
      exact M_of (by decide)
    by_cases c4 : zI (wV B e q : Nat) = zI (pk5 (sx 4) 0 : Nat)
    · rw [if_pos c4] at hR
      exact (if_pos c4).trans hR
    · rw [if_neg c4] at hR
      refine (if_neg c4).trans ?_
      refine cI_go (r := zI (gvn B e q)) (st := mkS w (hI S1) J) ?_ ?_
      · rw [show d + (4 * r + 5) = (d + (4 * r + 2)) + 3 from rfl]
        exact hft _
      simp only [gI_mk, gJ_mk, hk, a4]
      rw [← hR]
      simp only [zl]
/-- the class up to the word -/
theorem c_uHead {q : Nat} {S : Hp} (nd : ¬ (q < e ∧ isD (B q) = true)) (n4 : ¬ (q < e ∧ B q = 40)) (hT : Tp S B e q) (d : Nat) (o : Int) (R : aRes) (hR : (cI (am_call X aP (d + (4 * r + 5)) 89 [.ref 1, .ref (2000000 + 3)] (mkS w (hI S) J)) (fun r6 s5 => if r6 = nI 0 then cI (am_call X aP (d + (4 * r + 5)) 89 [.ref 1, .ref (2000000 + 4)] (mkS w (gI s5) (gJ s5))) (fun r8 s7 => if r8 = nI 0 then cI (am_call X aP (d + (4 * r + 5)) 36 [.ref 1] (mkS w (gI s7) (gJ s7))) (fun r10 s9 => if r10 = nI 4294967295 then cI (am_call X aP (d + (4 * r + 5)) 91 [.ref 1, .int (nI 1)] (mkS w (gI s9) (gJ s9))) (fun r12 s11 => match bok r12 with
  | true => rI r12 (mkS w (gI s11) (gJ s11))
  | false => none) (fun e9 s11 => rX e9 (mkS w (gI s11) (gJ s11))) else cI (am_call X aP (d + (4 * r + 5)) 30 [.ref (iW bw), .int (nI 1), .int r10] (mkS w (gI s9) (gJ s9))) (fun r14 s13 => match bok r14 with
  | true => rI r14 (mkS w (gI s13) (gJ s13))
  | false => none) (fun e9 s13 => rX e9 (mkS w (gI s13) (gJ s13)))) (fun e9 s9 => rX e9 (mkS w (gI s9) (gJ s9))) else cI (am_call X aP (d + (4 * r + 5)) 34 [.ref (iW bw), .ref 1, .int (zI o)] (mkS w (gI s7) (gJ s7))) (fun r16 s15 => if r16 = nI 0 then rI (nI 0) (mkS w (gI s15) (gJ s15)) else cI (am_call X aP (d + (4 * r + 5)) 35 [.ref (iW bw), .ref 1, .int (zI o + nI 1)] (mkS w (gI s15) (gJ s15))) (fun r18 s17 => if r18 = nI 0 then rI (nI 0) (mkS w (gI s17) (gJ s17)) else cI (am_call X aP (d + (4 * r + 5)) 30 [.ref (iW bw), .int (nI 8), .int (nI 0)] (mkS w (gI s17) (gJ s17))) (fun r20 s19 => if r20 = nI 0 then rI (nI 0) (mkS w (gI s19) (gJ s19)) else rI (nI 1) (mkS w (gI s19) (gJ s19))) (fun e9 s19 => rX e9 (mkS w (gI s19) (gJ s19)))) (fun e9 s17 => rX e9 (mkS w (gI s17) (gJ s17)))) (fun e9 s15 => rX e9 (mkS w (gI s15) (gJ s15)))) (fun e9 s7 => rX e9 (mkS w (gI s7) (gJ s7))) else cI (am_call X aP (d + (4 * r + 5)) 34 [.ref (iW bw), .ref 1, .int (zI o)] (mkS w (gI s5) (gJ s5))) (fun r22 s21 => if r22 = nI 0 then rI (nI 0) (mkS w (gI s21) (gJ s21)) else cI (am_call X aP (d + (4 * r + 5)) 35 [.ref (iW bw), .ref 1, .int (zI o + nI 1)] (mkS w (gI s21) (gJ s21))) (fun r24 s23 => if r24 = nI 0 then rI (nI 0) (mkS w (gI s23) (gJ s23)) else cI (am_call X aP (d + (4 * r + 5)) 30 [.ref (iW bw), .int (nI 7), .int (nI 0)] (mkS w (gI s23) (gJ s23))) (fun r26 s25 => if r26 = nI 0 then rI (nI 0) (mkS w (gI s25) (gJ s25)) else rI (nI 1) (mkS w (gI s25) (gJ s25))) (fun e9 s25 => rX e9 (mkS w (gI s25) (gJ s25)))) (fun e9 s23 => rX e9 (mkS w (gI s23) (gJ s23)))) (fun e9 s21 => rX e9 (mkS w (gI s21) (gJ s21)))) (fun e9 s5 => rX e9 (mkS w (gI s5) (gJ s5)))) = R) : am_call X aP (d + (4 * r + 6)) 33 [.ref (iW bw), .ref 1, .int (zI o)] (mkS w (hI S) J) = R := by
  rw [show d + (4 * r + 6) = (d + (4 * r + 5)) + 1 from rfl, go_X3_readUnit, e_X3_readUnit_0]
  refine cI_go (r := zI 0) (st := mkS w (hI S) J) ?_ ?_
  · have := T_digit (X := X) (d := d + (4 * r + 3)) (w := w) (J := J) hT
    rw [if_neg nd] at this
    exact this
  refine (if_pos rfl).trans ?_
  refine cI_go (r := zI 0) (st := mkS w (hI S) J) ?_ ?_
  · simp only [gI_mk, gJ_mk, zl]
    exact T_takes0 (d := d + (4 * r + 3)) hT (by decide) n4
  refine (if_pos rfl).trans ?_
  exact hR
theorem unit_L0 (he : e ≤ 150) {q : Nat} (hqe : q ≤ e) (hqs : sk B e q = q) (kw : wd B e q = sx 3) : PUq X B e bw 0 q := by
  obtain ⟨hq1, hlet⟩ := wd_let (by decide) kw
  refine ⟨.inl (3, (q : Int)), trivial, fun w J S cd hT hK hl => ?_, fun w J S p cd hM hs h7 hK hl => ?_⟩
  · obtain ⟨S1, g1, g2, g3, g4⟩ := T_word1 (X := X) w J hT (k := 3) (by decide) kw
    obtain ⟨S2, f1, f2, f3⟩ := c_opens0 (X := X) w J (bw := bw) g2 g3
    refine ⟨S2, fun d => c_uHead (r := 0) (not_dig hlet) (not40 hlet) hT d _ _ ?_, f2, FW_tr (FW_t g4) (FW_t f3)⟩
    refine cI_go (r := zI 1) (st := mkS w (hI S1) J) (g1 (d + (4 * 0 + 3))) ?_
    refine (if_neg (by decide)).trans ?_
    refine cI_go (r := zI 0) (st := mkS w (hI S2) J) (f1 (d + (4 * 0 + 3))) ?_
    refine (if_pos rfl).trans ?_
    simp (disch := omega) only [hk, hu, hI_n, hI_un, z_nat, em_d, zl, z_add, z_sub, z_mul, z_lt, z_eq, gI_mk, gJ_mk, cI_some, cV_some, cJ_some, cI_x, cV_x, cJ_x, uS_self, uS_ne, if_pos, if_neg, b01, b01n, ite_not, if_true, if_false, Bool.false_eq_true, hLL, rI_d]
    rfl
  · obtain ⟨S1, g1, g2, g3⟩ := M_here (X := X) w J hM
    rw [hs] at g1 g2
    obtain ⟨S2, f1, f2, f3⟩ := m_rTwo0 (X := X) (w := w) (J := J) (x := 5) (code := 6) g2 ((g3.2 7 (by decide)).trans h7)
    refine ⟨S2, fun d => m_uHead (r := 0) hqs (not_dig hlet) (not40 hlet) hM g2 g1 ?_, f2, FZ_tr (FZ_m g3) f3⟩
    refine (if_pos (congrArg (fun z : Nat => zI (z : Int)) ((wV_eq (show 3 < 16 by decide)).mpr kw))).trans ?_
    refine cV_go (st := mkS w (hI S2) J) ?_ ?_
    · simp only [zl]
      exact f1 d
    simp (disch := omega) only [hk, hu, hI_n, hI_un, z_nat, em_d, zl, z_add, z_sub, z_mul, z_lt, z_eq, gI_mk, gJ_mk, cI_some, cV_some, cJ_some, cI_x, cV_x, cJ_x, uS_self, uS_ne, if_pos, if_neg, b01, b01n, ite_not, if_true, if_false, Bool.false_eq_true, rV_d]
theorem unit_LS (he : e ≤ 150) (hr : r < 6) (hF : Fok X B e bw r F) {q : Nat} (hqe : q ≤ e) (hqs : sk B e q = q) (kw : wd B e q = sx 3) : PUq X B e bw (r + 1) q := by
  obtain ⟨hq1, hlet⟩ := wd_let (by decide) kw
  have hb := iW_c bw
  have hwl := wd_len B e q hqe
  have hlen : (wd B e q).length = 5 := by
    rw [kw]
    decide
  have s1 := sk_ge (B := B) (e := e) (p := q + (wd B e q).length)
  have eo : 6 - ((r + 1 : Nat) : Int) + 1 = 6 - (r : Int) := by omega
  refine ⟨outW 6 (outTwo B e F (sk B e (q + (wd B e q).length))), ?_, fun w J S cd hT hK hl => ?_, fun w J S p cd hM hs h7 hK hl => ?_⟩
  · cases e1 : outTwo B e F (sk B e (q + (wd B e q).length)) with
    | inl g => trivial
    | inr z =>
      obtain ⟨⟨b1, b2, b3, b4⟩, b5⟩ := two_wf hF (sk_le hwl) e1
      refine ⟨⟨?_, ?_, b3, b4⟩, List.append_ne_nil_of_right_ne_nil _ (List.cons_ne_nil _ _), fun rest t ht => ?_⟩
      · show q < z.2
        omega
      · show (z.1 ++ [(6, 0)]).length + q ≤ z.2
        rw [List.length_append]
        show z.1.length + 1 + q ≤ z.2
        omega
      · show okc ((z.1 ++ [(6, 0)]) ++ rest) t
        rw [List.append_assoc]
        exact b5 _ _ (Or.inr (Or.inr ⟨by decide, by decide, by omega, ht⟩))
  · obtain ⟨S1, g1, g2, g3, g4⟩ := T_word1 (X := X) w J hT (k := 3) (by decide) kw
    obtain ⟨S2, f1, f2, f3⟩ := c_two (X := X) (w := w) (J := J) he hF g2 (CKl_ft (by omega) hK g4) (by omega)
    have head : ∀ (d : Nat) (R : aRes), (cI (some (.inl (some (.int (zI (sg (outTwo B e F (sk B e (q + (wd B e q).length))))))), (mkS w (hI S2) J))) (fun r18 s17 => if r18 = nI 0 then rI (nI 0) (mkS w (gI s17) (gJ s17)) else cI (am_call X aP (d + (4 * (r + 1) + 5)) 30 [.ref (iW bw), .int (nI 7), .int (nI 0)] (mkS w (gI s17) (gJ s17))) (fun r20 s19 => if r20 = nI 0 then rI (nI 0) (mkS w (gI s19) (gJ s19)) else rI (nI 1) (mkS w (gI s19) (gJ s19))) (fun e9 s19 => rX e9 (mkS w (gI s19) (gJ s19)))) (fun e9 s17 => rX e9 (mkS w (gI s17) (gJ s17))) = R) → am_call X aP (d + (4 * (r + 1) + 6)) 33 [.ref (iW bw), .ref 1, .int (zI (6 - ((r + 1 : Nat) : Int)))] (mkS w (hI S) J) = R := fun d R hR => by
      refine c_uHead (r := r + 1) (not_dig hlet) (not40 hlet) hT d _ _ ?_
      refine cI_go (r := zI 1) (st := mkS w (hI S1) J) (g1 (d + (4 * (r + 1) + 3))) ?_
      refine (if_neg (by decide)).trans ?_
      refine cI_go (r := zI 1) (st := mkS w (hI S1) J) (c_opens1 (d := d + (4 * (r + 1) + 3)) w J ⟨by omega, by omega⟩) ?_
      refine (if_neg (by decide)).trans ?_
      rw [← hR]
      have f1 := f1 d
      rw [show d + (4 * r + 9) = d + (4 * (r + 1) + 5) by omega] at f1
      simp only [gI_mk, gJ_mk, zl, z_add, eo]
      rw [f1]
    cases e1 : outTwo B e F (sk B e (q + (wd B e q).length)) with
    | inl g =>
      rw [e1] at f2 head
      refine ⟨S2, fun d => head d _ ?_, f2, FW_tr (FW_t g4) f3⟩
      simp (disch := omega) only [hk, hu, hI_n, hI_un, z_nat, em_d, zl, z_add, z_sub, z_mul, z_lt, z_eq, gI_mk, gJ_mk, cI_some, cV_some, cJ_some, cI_x, cV_x, cJ_x, uS_self, uS_ne, if_pos, if_neg, b01, b01n, ite_not, if_true, if_false, Bool.false_eq_true, hLL, sg_l, rI_d]
      rfl
    | inr z =>
      rw [e1] at f2 head
      obtain ⟨hT2, hK2⟩ := f2
      obtain ⟨⟨b1, b2, b3, b4⟩, -⟩ := two_wf hF (sk_le hwl) e1
      obtain ⟨S3, y1, y2, y3, y4, y5⟩ := c_put (X := X) w J hK2 (by rw [List.length_append]; omega) (6, 0)
      refine ⟨S3, fun d => head d _ ?_, ⟨Tp_o hT2 y3 y4, ?_⟩, FW_tr (FW_t g4) (FW_tr f3 y5)⟩
      · rw [cI_some, sg_r]
        refine (if_neg (by decide)).trans ?_
        refine cI_go (r := zI 1) (st := mkS w (hI S3) J) ?_ ?_
        · simp only [gI_mk, gJ_mk, zl]
          exact y1 (d + (4 * (r + 1) + 4))
        simp (disch := omega) only [hk, hu, hI_n, hI_un, z_nat, em_d, zl, z_add, z_sub, z_mul, z_lt, z_eq, gI_mk, gJ_mk, cI_some, cV_some, cJ_some, cI_x, cV_x, cJ_x, uS_self, uS_ne, if_pos, if_neg, b01, b01n, ite_not, if_true, if_false, Bool.false_eq_true, hLL, rI_d]
        rfl
      · show CKl S3 (iW bw) (cd ++ (z.1 ++ [(6, 0)]))
        rw [← List.append_assoc]
        exact y2
  · obtain ⟨S1, g1, g2, g3⟩ := M_here (X := X) w J hM
    rw [hs] at g1 g2
    obtain ⟨S2, f1, f2, f3⟩ := m_rTwoS (X := X) (w := w) (J := J) (x := 5) (code := 6) he hr hF g2 (by omega) ((g3.2 7 (by decide)).trans h7) (MKl_m hK g3) hl
    rw [show q + 5 = q + (wd B e q).length by omega] at f2
    refine ⟨S2, fun d => m_uHead (r := r + 1) hqs (not_dig hlet) (not40 hlet) hM g2 g1 ?_, f2, FZ_tr (FZ_m g3) f3⟩
    refine (if_pos (congrArg (fun z : Nat => zI (z : Int)) ((wV_eq (show 3 < 16 by decide)).mpr kw))).trans ?_
    refine cV_go (st := mkS w (hI S2) J) ?_ ?_
    · simp only [zl]
      exact f1 d
    simp (disch := omega) only [hk, hu, hI_n, hI_un, z_nat, em_d, zl, z_add, z_sub, z_mul, z_lt, z_eq, gI_mk, gJ_mk, cI_some, cV_some, cJ_some, cI_x, cV_x, cJ_x, uS_self, uS_ne, if_pos, if_neg, b01, b01n, ite_not, if_true, if_false, Bool.false_eq_true, rV_d]
theorem unit_M0 (he : e ≤ 150) {q : Nat} (hqe : q ≤ e) (hqs : sk B e q = q) (n3 : ¬ wd B e q = sx 3) (kw : wd B e q = sx 4) : PUq X B e bw 0 q := by
  obtain ⟨hq1, hlet⟩ := wd_let (by decide) kw
  refine ⟨.inl (3, (q : Int)), trivial, fun w J S cd hT hK hl => ?_, fun w J S p cd hM hs h7 hK hl => ?_⟩
  · obtain ⟨S1, g1, g2, g3, g4⟩ := T_word1 (X := X) w J hT (k := 4) (by decide) kw
    obtain ⟨S2, f1, f2, f3⟩ := c_opens0 (X := X) w J (bw := bw) g2 g3
    refine ⟨S2, fun d => c_uHead (r := 0) (not_dig hlet) (not40 hlet) hT d _ _ ?_, f2, FW_tr (FW_t g4) (FW_t f3)⟩
    refine cI_go (r := zI 0) (st := mkS w (hI S) J) (T_word0 (d := d + (4 * 0 + 3)) hT (by decide) n3) ?_
    refine (if_pos rfl).trans ?_
    refine cI_go (r := zI 1) (st := mkS w (hI S1) J) (g1 (d + (4 * 0 + 3))) ?_
    refine (if_neg (by decide)).trans ?_
    refine cI_go (r := zI 0) (st := mkS w (hI S2) J) (f1 (d + (4 * 0 + 3))) ?_
    refine (if_pos rfl).trans ?_
    simp (disch := omega) only [hk, hu, hI_n, hI_un, z_nat, em_d, zl, z_add, z_sub, z_mul, z_lt, z_eq, gI_mk, gJ_mk, cI_some, cV_some, cJ_some, cI_x, cV_x, cJ_x, uS_self, uS_ne, if_pos, if_neg, b01, b01n, ite_not, if_true, if_false, Bool.false_eq_true, hLL, rI_d]
    rfl
  · obtain ⟨S1, g1, g2, g3⟩ := M_here (X := X) w J hM
    rw [hs] at g1 g2
    obtain ⟨S2, f1, f2, f3⟩ := m_rTwo0 (X := X) (w := w) (J := J) (x := 4) (code := 7) g2 ((g3.2 7 (by decide)).trans h7)
    refine ⟨S2, fun d => m_uHead (r := 0) hqs (not_dig hlet) (not40 hlet) hM g2 g1 ?_, f2, FZ_tr (FZ_m g3) f3⟩
    refine (if_neg (by rw [zW (wV_lt B e q) (W_lt 3 (by decide))]; exact fun z => n3 ((wV_eq (show 3 < 16 by decide)).mp z))).trans ?_
    refine (if_pos (congrArg (fun z : Nat => zI (z : Int)) ((wV_eq (show 4 < 16 by decide)).mpr kw))).trans ?_
    refine cV_go (st := mkS w (hI S2) J) ?_ ?_
    · simp only [zl]
      exact f1 d
    simp (disch := omega) only [hk, hu, hI_n, hI_un, z_nat, em_d, zl, z_add, z_sub, z_mul, z_lt, z_eq, gI_mk, gJ_mk, cI_some, cV_some, cJ_some, cI_x, cV_x, cJ_x, uS_self, uS_ne, if_pos, if_neg, b01, b01n, ite_not, if_true, if_false, Bool.false_eq_true, rV_d]
theorem unit_MS (he : e ≤ 150) (hr : r < 6) (hF : Fok X B e bw r F) {q : Nat} (hqe : q ≤ e) (hqs : sk B e q = q) (n3 : ¬ wd B e q = sx 3) (kw : wd B e q = sx 4) : PUq X B e bw (r + 1) q := by
  obtain ⟨hq1, hlet⟩ := wd_let (by decide) kw
  have hb := iW_c bw
  have hwl := wd_len B e q hqe
  have hlen : (wd B e q).length = 4 := by
    rw [kw]
    decide
  have s1 := sk_ge (B := B) (e := e) (p := q + (wd B e q).length)
  have eo : 6 - ((r + 1 : Nat) : Int) + 1 = 6 - (r : Int) := by omega
  refine ⟨outW 7 (outTwo B e F (sk B e (q + (wd B e q).length))), ?_, fun w J S cd hT hK hl => ?_, fun w J S p cd hM hs h7 hK hl => ?_⟩
  · cases e1 : outTwo B e F (sk B e (q + (wd B e q).length)) with
    | inl g => trivial
    | inr z =>
      obtain ⟨⟨b1, b2, b3, b4⟩, b5⟩ := two_wf hF (sk_le hwl) e1
      refine ⟨⟨?_, ?_, b3, b4⟩, List.append_ne_nil_of_right_ne_nil _ (List.cons_ne_nil _ _), fun rest t ht => ?_⟩
      · show q < z.2
        omega
      · show (z.1 ++ [(7, 0)]).length + q ≤ z.2
        rw [List.length_append]
        show z.1.length + 1 + q ≤ z.2
        omega
      · show okc ((z.1 ++ [(7, 0)]) ++ rest) t
        rw [List.append_assoc]
        exact b5 _ _ (Or.inr (Or.inr ⟨by decide, by decide, by omega, ht⟩))
  · obtain ⟨S1, g1, g2, g3, g4⟩ := T_word1 (X := X) w J hT (k := 4) (by decide) kw
    obtain ⟨S2, f1, f2, f3⟩ := c_two (X := X) (w := w) (J := J) he hF g2 (CKl_ft (by omega) hK g4) (by omega)
    have head : ∀ (d : Nat) (R : aRes), (cI (some (.inl (some (.int (zI (sg (outTwo B e F (sk B e (q + (wd B e q).length))))))), (mkS w (hI S2) J))) (fun r18 s17 => if r18 = nI 0 then rI (nI 0) (mkS w (gI s17) (gJ s17)) else cI (am_call X aP (d + (4 * (r + 1) + 5)) 30 [.ref (iW bw), .int (nI 8), .int (nI 0)] (mkS w (gI s17) (gJ s17))) (fun r20 s19 => if r20 = nI 0 then rI (nI 0) (mkS w (gI s19) (gJ s19)) else rI (nI 1) (mkS w (gI s19) (gJ s19))) (fun e9 s19 => rX e9 (mkS w (gI s19) (gJ s19)))) (fun e9 s17 => rX e9 (mkS w (gI s17) (gJ s17))) = R) → am_call X aP (d + (4 * (r + 1) + 6)) 33 [.ref (iW bw), .ref 1, .int (zI (6 - ((r + 1 : Nat) : Int)))] (mkS w (hI S) J) = R := fun d R hR => by
      refine c_uHead (r := r + 1) (not_dig hlet) (not40 hlet) hT d _ _ ?_
      refine cI_go (r := zI 0) (st := mkS w (hI S) J) (T_word0 (d := d + (4 * (r + 1) + 3)) hT (by decide) n3) ?_
      refine (if_pos rfl).trans ?_
      refine cI_go (r := zI 1) (st := mkS w (hI S1) J) (g1 (d + (4 * (r + 1) + 3))) ?_
      refine (if_neg (by decide)).trans ?_
      refine cI_go (r := zI 1) (st := mkS w (hI S1) J) (c_opens1 (d := d + (4 * (r + 1) + 3)) w J ⟨by omega, by omega⟩) ?_
      refine (if_neg (by decide)).trans ?_
      rw [← hR]
      have f1 := f1 d
      rw [show d + (4 * r + 9) = d + (4 * (r + 1) + 5) by omega] at f1
      simp only [gI_mk, gJ_mk, zl, z_add, eo]
      rw [f1]
    cases e1 : outTwo B e F (sk B e (q + (wd B e q).length)) with
    | inl g =>
      rw [e1] at f2 head
      refine ⟨S2, fun d => head d _ ?_, f2, FW_tr (FW_t g4) f3⟩
      simp (disch := omega) only [hk, hu, hI_n, hI_un, z_nat, em_d, zl, z_add, z_sub, z_mul, z_lt, z_eq, gI_mk, gJ_mk, cI_some, cV_some, cJ_some, cI_x, cV_x, cJ_x, uS_self, uS_ne, if_pos, if_neg, b01, b01n, ite_not, if_true, if_false, Bool.false_eq_true, hLL, sg_l, rI_d]
      rfl
    | inr z =>
      rw [e1] at f2 head
      obtain ⟨hT2, hK2⟩ := f2
      obtain ⟨⟨b1, b2, b3, b4⟩, -⟩ := two_wf hF (sk_le hwl) e1
      obtain ⟨S3, y1, y2, y3, y4, y5⟩ := c_put (X := X) w J hK2 (by rw [List.length_append]; omega) (7, 0)
      refine ⟨S3, fun d => head d _ ?_, ⟨Tp_o hT2 y3 y4, ?_⟩, FW_tr (FW_t g4) (FW_tr f3 y5)⟩
      · rw [cI_some, sg_r]
        refine (if_neg (by decide)).trans ?_
        refine cI_go (r := zI 1) (st := mkS w (hI S3) J) ?_ ?_
        · simp only [gI_mk, gJ_mk, zl]
          exact y1 (d + (4 * (r + 1) + 4))
        simp (disch := omega) only [hk, hu, hI_n, hI_un, z_nat, em_d, zl, z_add, z_sub, z_mul, z_lt, z_eq, gI_mk, gJ_mk, cI_some, cV_some, cJ_some, cI_x, cV_x, cJ_x, uS_self, uS_ne, if_pos, if_neg, b01, b01n, ite_not, if_true, if_false, Bool.false_eq_true, hLL, rI_d]
        rfl
      · show CKl S3 (iW bw) (cd ++ (z.1 ++ [(7, 0)]))
        rw [← List.append_assoc]
        exact y2
  · obtain ⟨S1, g1, g2, g3⟩ := M_here (X := X) w J hM
    rw [hs] at g1 g2
    obtain ⟨S2, f1, f2, f3⟩ := m_rTwoS (X := X) (w := w) (J := J) (x := 4) (code := 7) he hr hF g2 (by omega) ((g3.2 7 (by decide)).trans h7) (MKl_m hK g3) hl
    rw [show q + 4 = q + (wd B e q).length by omega] at f2
    refine ⟨S2, fun d => m_uHead (r := r + 1) hqs (not_dig hlet) (not40 hlet) hM g2 g1 ?_, f2, FZ_tr (FZ_m g3) f3⟩
    refine (if_neg (by rw [zW (wV_lt B e q) (W_lt 3 (by decide))]; exact fun z => n3 ((wV_eq (show 3 < 16 by decide)).mp z))).trans ?_
    refine (if_pos (congrArg (fun z : Nat => zI (z : Int)) ((wV_eq (show 4 < 16 by decide)).mpr kw))).trans ?_
    refine cV_go (st := mkS w (hI S2) J) ?_ ?_
    · simp only [zl]
      exact f1 d
    simp (disch := omega) only [hk, hu, hI_n, hI_un, z_nat, em_d, zl, z_add, z_sub, z_mul, z_lt, z_eq, gI_mk, gJ_mk, cI_some, cV_some, cJ_some, cI_x, cV_x, cJ_x, uS_self, uS_ne, if_pos, if_neg, b01, b01n, ite_not, if_true, if_false, Bool.false_eq_true, rV_d]
/-- a given thing, or nothing that can stand -/
theorem unit_G (he : e ≤ 150) {q : Nat} (hqe : q ≤ e) (hqs : sk B e q = q) (nd : ¬ (q < e ∧ isD (B q) = true)) (n4 : ¬ (q < e ∧ B q = 40)) (n3 : ¬ wd B e q = sx 3) (n5 : ¬ wd B e q = sx 4) : PUq X B e bw r q := by
  have hb := iW_c bw
  have hg := gvn_r B e q
  have m3 : ¬ zI (wV B e q : Nat) = zI (pk5 (sx 3) 0 : Nat) := by rw [zW (wV_lt B e q) (W_lt 3 (by decide))]; exact fun z => n3 ((wV_eq (show 3 < 16 by decide)).mp z)
  have m4 : ¬ zI (wV B e q : Nat) = zI (pk5 (sx 4) 0 : Nat) := by rw [zW (wV_lt B e q) (W_lt 4 (by decide))]; exact fun z => n5 ((wV_eq (show 4 < 16 by decide)).mp z)
  have hwl := wd_len B e q hqe
  by_cases kg : gvn B e q = -1
  · refine ⟨.inl (1, (q : Int)), trivial, fun w J S cd hT hK hl => ?_, fun w J S p cd hM hs h7 hK hl => ?_⟩
    · obtain ⟨S1, g1, g2, g3, g4⟩ := c_gvn (X := X) w J hT
      have e1 := g3 kg
      rw [kg, e1] at g1
      obtain ⟨S2, f1, f2, f3⟩ := T_failHere (X := X) w J hT 1
      refine ⟨S2, fun d => c_uHead nd n4 hT d _ _ ?_, f2, FW_t f3⟩
      refine cI_go (r := zI 0) (st := mkS w (hI S) J) (T_word0 (d := d + (4 * r + 3)) hT (by decide) n3) ?_
      refine (if_pos rfl).trans ?_
      refine cI_go (r := zI 0) (st := mkS w (hI S) J) (T_word0 (d := d + (4 * r + 3)) hT (by decide) n5) ?_
      refine (if_pos rfl).trans ?_
      refine cI_go (r := zI (-1)) (st := mkS w (hI S) J) (g1 (d + (4 * r + 2))) ?_
      refine (if_pos (by simp only [zl])).trans ?_
      refine cI_go (r := zI 0) (st := mkS w (hI S2) J) (f1 (d + (4 * r + 4))) ?_
      simp (disch := omega) only [hk, hu, hI_n, hI_un, z_nat, em_d, zl, z_add, z_sub, z_mul, z_lt, z_eq, gI_mk, gJ_mk, cI_some, cV_some, cJ_some, cI_x, cV_x, cJ_x, uS_self, uS_ne, if_pos, if_neg, b01, b01n, ite_not, if_true, if_false, Bool.false_eq_true, hLL, z_bok0, rI_d]
      rfl
    · obtain ⟨S1, g1, g2, g3⟩ := M_here (X := X) w J hM
      rw [hs] at g1 g2
      obtain ⟨S2, f1, f2, -, f3⟩ := M_wrong1 (X := X) w J g2 1 (q : Int) (by omega)
      refine ⟨S2, fun d => m_uHead hqs nd n4 hM g2 g1 ?_, f2, FZ_tr (FZ_m g3) (FZ_m f3)⟩
      refine (if_neg m3).trans ((if_neg m4).trans ((if_pos (by rw [kg])).trans ?_))
      refine cV_go (st := mkS w (hI S2) J) ?_ ?_
      · simp only [zl]
        exact f1 (d + (4 * r + 4))
      simp only [gI_mk, gJ_mk]
      rw [show 9999999 = 9999998 + 1 from rfl, e_X10_readUnit_66]
      refine cI_go (r := zI 0) (st := mkS w (hI S2) J) (M_fine0 (d := d + (4 * r + 4)) f2) ?_
      simp (disch := omega) only [hk, hu, hI_n, hI_un, z_nat, em_d, zl, z_add, z_sub, z_mul, z_lt, z_eq, gI_mk, gJ_mk, cI_some, cV_some, cJ_some, cI_x, cV_x, cJ_x, uS_self, uS_ne, if_pos, if_neg, b01, b01n, ite_not, if_true, if_false, Bool.false_eq_true, rV_d]
  · have hne : wd B e q ≠ [] := fun z => kg (by
      unfold gvn
      rw [z, if_neg (by decide), if_neg (by decide), if_neg (by decide), if_neg (by decide), if_neg (by decide), if_neg (by decide), if_neg (by decide), if_neg (by decide)])
    have hpos : 0 < (wd B e q).length := List.length_pos_iff.mpr hne
    have s1 := sk_ge (B := B) (e := e) (p := q + (wd B e q).length)
    refine ⟨.inr ([(1, gvn B e q)], sk B e (q + (wd B e q).length)), ⟨⟨?_, ?_, sk_sk, sk_le hwl⟩, List.cons_ne_nil _ _, Psh_1 (Or.inr ⟨rfl, by omega, hg.2⟩)⟩, fun w J S cd hT hK hl => ?_, fun w J S p cd hM hs h7 hK hl => ?_⟩
    · show q < sk B e (q + (wd B e q).length)
      omega
    · show 1 + q ≤ sk B e (q + (wd B e q).length)
      omega
    · obtain ⟨S1, g1, g2, g3, g4⟩ := c_gvn (X := X) w J hT
      obtain ⟨S2, f1, f2, f3, f4, f5⟩ := c_put (X := X) w J (CKl_ft (by omega) hK g4) (by omega) (1, gvn B e q)
      refine ⟨S2, fun d => c_uHead nd n4 hT d _ _ ?_, ⟨Tp_o (g2 kg) f3 f4, f2⟩, FW_tr (FW_t g4) f5⟩
      refine cI_go (r := zI 0) (st := mkS w (hI S) J) (T_word0 (d := d + (4 * r + 3)) hT (by decide) n3) ?_
      refine (if_pos rfl).trans ?_
      refine cI_go (r := zI 0) (st := mkS w (hI S) J) (T_word0 (d := d + (4 * r + 3)) hT (by decide) n5) ?_
      refine (if_pos rfl).trans ?_
      refine cI_go (r := zI (gvn B e q)) (st := mkS w (hI S1) J) (g1 (d + (4 * r + 2))) ?_
      refine (if_neg (by simp only [zl]; rw [z_eq (by omega) (by omega) (by decide) (by decide)]; exact kg)).trans ?_
      refine cI_go (r := zI 1) (st := mkS w (hI S2) J) (f1 (d + (4 * r + 4))) ?_
      simp (disch := omega) only [hk, hu, hI_n, hI_un, z_nat, em_d, zl, z_add, z_sub, z_mul, z_lt, z_eq, gI_mk, gJ_mk, cI_some, cV_some, cJ_some, cI_x, cV_x, cJ_x, uS_self, uS_ne, if_pos, if_neg, b01, b01n, ite_not, if_true, if_false, Bool.false_eq_true, hLL, z_bok1, rI_d]
      rfl
    · obtain ⟨S1, g1, g2, g3⟩ := M_here (X := X) w J hM
      rw [hs] at g1 g2
      obtain ⟨S2, f1, f2, f3⟩ := M_pass (X := X) w J g2
      obtain ⟨S3, y1, y2, y3, y4, y5⟩ := m_emit (X := X) w J f2 (MKl_m (MKl_m hK g3) f3) (by omega) (1, gvn B e q)
      refine ⟨S3, fun d => m_uHead hqs nd n4 hM g2 g1 ?_, ⟨⟨_, y3, rfl⟩, y2, ?_⟩, FZ_tr (FZ_m g3) (FZ_tr (FZ_m f3) y5)⟩
      · refine (if_neg m3).trans ((if_neg m4).trans ((if_neg (by rw [z_eq (by omega) (by omega) (by decide) (by decide)]; exact kg)).trans ?_))
        rw [show 9999999 = 9999998 + 1 from rfl, e_X10_readUnit_66]
        refine cI_go (r := zI 1) (st := mkS w (hI S1) J) (M_fine1 (d := d + (4 * r + 4)) g2) ?_
        refine (if_neg (by decide)).trans ?_
        refine cV_go (st := mkS w (hI S2) J) (f1 (d + (4 * r + 3))) ?_
        refine cV_go (st := mkS w (hI S3) J) ?_ ?_
        · simp only [gI_mk, gJ_mk, zl]
          exact y1 (d + (4 * r + 3))
        simp (disch := omega) only [hk, hu, hI_n, hI_un, z_nat, em_d, zl, z_add, z_sub, z_mul, z_lt, z_eq, gI_mk, gJ_mk, cI_some, cV_some, cJ_some, cI_x, cV_x, cJ_x, uS_self, uS_ne, if_pos, if_neg, b01, b01n, ite_not, if_true, if_false, Bool.false_eq_true, rV_d]
      · rw [y4, f3.2 7 (by decide), g3.2 7 (by decide)]
        exact h7
theorem unit_all0 (he : e ≤ 150) : PU X B e bw 0 := fun q hqe hqs => by
  by_cases kd : q < e ∧ isD (B q) = true
  · exact unit_D he hqe hqs kd
  · by_cases k4 : q < e ∧ B q = 40
    · exact unit_P0 he hqe hqs k4
    · by_cases k3 : wd B e q = sx 3
      · exact unit_L0 he hqe hqs k3
      · by_cases k5 : wd B e q = sx 4
        · exact unit_M0 he hqe hqs k3 k5
        · exact unit_G he hqe hqs kd k4 k3 k5
theorem unit_allS (he : e ≤ 150) (hr : r < 6) (hS : PS X B e bw r) : PU X B e bw (r + 1) := fun q hqe hqs => by
  obtain ⟨F, hF⟩ := PS_F hS
  by_cases kd : q < e ∧ isD (B q) = true
  · exact unit_D he hqe hqs kd
  · by_cases k4 : q < e ∧ B q = 40
    · exact unit_PS he hr hF hqe hqs k4
    · by_cases k3 : wd B e q = sx 3
      · exact unit_LS he hr hF hqe hqs k3
      · by_cases k5 : wd B e q = sx 4
        · exact unit_MS he hr hF hqe hqs k3 k5
        · exact unit_G he hqe hqs kd k4 k3 k5
theorem law_sum (he : e ≤ 150) : ∀ r, r ≤ 6 → PS X B e bw r
  | 0, _ => sum_of he (prod_of he (unit_all0 he))
  | r + 1, h => sum_of he (prod_of he (unit_allS he (by omega) (law_sum he r (by omega))))
end LW7
