/-! THE WORK'S TEXT: an again -/
section WK5
variable {X : Nat × (Nat → Int32)} {d : Nat} {w : Bool × Bool × Bool} {S : Hp} {J : Nat → Nat → Int64} {B : Nat → Int} {e p q i j r : Nat} {nc nr : Int} {bl : Bool} {G : Nat → WOut} {out : WOut}
theorem CSt_agn {m : Int} {b : List Tk} (h : S 4 (i : Int) = 5 ∧ S 5 (i : Int) = m ∧ S 6 (i : Int) = ((i + 1 + b.length : Nat) : Int)) (hb : CSt S b (i + 1)) (h2 : S 4 ((i + 1 + b.length : Nat) : Int) = 6 ∧ S 5 ((i + 1 + b.length : Nat) : Int) = (i : Int) ∧ S 6 ((i + 1 + b.length : Nat) : Int) = 0) : CSt S (agn m b) i := by
  refine ⟨⟨h.1, ?_, ?_⟩, CSt_app b (i + 1) hb ⟨⟨h2.1, ?_, ?_⟩, trivial⟩⟩
  · show S 5 (i : Int) = if (5 : Int) = 6 then (i : Int) - 1 - m else m
    rw [if_neg (by decide)]
    exact h.2.1
  · show S 6 (i : Int) = if (5 : Int) = 5 then (i : Int) + 1 + (b.length : Int) else (b.length : Int)
    rw [if_pos rfl, h.2.2]
    omega
  · show _ = if (6 : Int) = 6 then ((i + 1 + b.length : Nat) : Int) - 1 - (b.length : Int) else (b.length : Int)
    rw [if_pos rfl, h2.2.1]
    omega
  · show _ = if (6 : Int) = 5 then ((i + 1 + b.length : Nat) : Int) + 1 + 0 else 0
    rw [if_neg (by decide)]
    exact h2.2.2
theorem MSt_agn {o : Nat} {m : Int} {b : List Tk} (h : S o ((3 * j : Nat) : Int) = 5 ∧ S o ((3 * j + 1 : Nat) : Int) = m ∧ S o ((3 * j + 2 : Nat) : Int) = ((3 * (j + 1 + mL b) : Nat) : Int)) (hb : MSt S o b (j + 1)) : MSt S o (agn m b) j := by
  unfold agn MSt
  rw [if_neg (show ¬ (5 : Int) = 6 by decide)]
  refine ⟨⟨h.1, h.2.1, ?_⟩, MSt_app b (j + 1) hb ?_⟩
  · show _ = if (5 : Int) = 5 then ((3 * (j + 1 + mL b) : Nat) : Int) else _
    rw [if_pos rfl]
    exact h.2.2
  · unfold MSt
    rw [if_pos (show (6 : Int) = 6 from rfl)]
    trivial
theorem FC_6 (v : Int) : FC i S (uS S 6 (i : Int) v) := ⟨fun o ho => uS_row _ _ _ (fun z => ho (by rw [z]; decide)), fun k _ => uS_ne _ _ (Or.inl (by decide)), fun x hx => ⟨uS_ne _ _ (Or.inl (by decide)), uS_ne _ _ (Or.inl (by decide)), uS_ne _ _ (Or.inr (by omega))⟩⟩
theorem c_agn (he : e ≤ 150) (hG : Gok X B e bl nc nr r G) (hr : r < 6) (w : Bool × Bool × Bool) (J : Nat → Nat → Int64) (hT : Tp S B e p) (h4 : S 3 4 = (i : Int)) (hi : i + 2 ≤ p) (h7 : S (iL bl) 7 = nr) (h8 : S (iL bl) 8 = nc) : ∃ S', (∀ d, am_call X aP (d + (3 * r + 7)) 72 [.ref 3, .ref 1, .ref (iL bl), .int (zI (6 - ((r + 1 : Nat) : Int)))] (mkS w (hI S) J) = some (.inl (some (.int (zI (sgW (oAgn B e G p))))), (mkS w (hI S') J))) ∧ CF S' B e i (oAgn B e G p) ∧ FC i S S' := by
  have hp := hT.2.2.2.1
  unfold oAgn
  by_cases n1 : numK B e p 0 60 = 0
  · rw [if_pos n1]
    obtain ⟨d1, d2, d3⟩ := numK_0 n1
    have gp := dg_pos d1
    have s2 := sk_ge (B := B) (e := e) (p := numE B e p)
    obtain ⟨S1, g1, g2, -, g5, g3⟩ := T_num1 (X := X) w J hT (lo := 0) (hi := 60) (by decide) (by decide) n1
    have a4 : S1 3 4 = (i : Int) := by
      rw [g3.1 3 (by decide)]
      exact h4
    obtain ⟨S2, f1, f2, f3, f4, f5⟩ := c_sput (X := X) w J a4 (by omega) 5 (numV B e p) 0
    have f6 := Tp_o g2 f4.1 f4.2
    by_cases k1 : sk B e (numE B e p) < e ∧ B (sk B e (numE B e p)) = 91
    · rw [if_pos k1]
      obtain ⟨S3, y1, y2, y3⟩ := T_needs1 (X := X) w J f6 (c := 91) (by decide) k1
      have s3 := sk_ge (B := B) (e := e) (p := sk B e (numE B e p) + 1)
      have b4 : S3 3 4 = ((i + 1 : Nat) : Int) := by
        rw [y3.1 3 (by decide)]
        exact f3
      have b7 : S3 (iL bl) 7 = nr := by
        rw [FT_iL y3, FC_iL f5, FT_iL g3]
        exact h7
      have b8 : S3 (iL bl) 8 = nc := by
        rw [FT_iL y3, FC_iL f5, FT_iL g3]
        exact h8
      obtain ⟨S4, z1, z2, z3⟩ := c_steps he hG sk_sk w J S3 (i + 1) y2 b4 (by omega) b7 b8
      have hF4 : FC i S S4 := FC_tr (FC_t g3) (FC_tr f5 (FC_tr (FC_t y3) z3 (Nat.le_succ i)) (Nat.le_refl _)) (Nat.le_refl _)
      obtain ⟨v1, v2⟩ := sqW_wf hG e (sk B e (sk B e (numE B e p) + 1)) (by omega) (sk_le (by omega)) sk_sk
      have head : ∀ (d : Nat) (R : aRes), (cI (some (.inl (some (.int (zI (sgW (sqW B e G e (sk B e (sk B e (numE B e p) + 1))))))), (mkS w (hI S4) J))) (fun r8 s7 => if r8 = nI 0 then (rI (nI 0) (mkS w (gI s7) (gJ s7))) else cI (am_call X aP (d + (3 * r + 6)) 88 [.ref 1, .int (nI 93)] (mkS w (gI s7) (gJ s7))) (fun r10 s9 => if r10 = nI 0 then (rI (nI 0) (mkS w (gI s9) (gJ s9))) else aR X (d + (3 * r + 6)) m_X6_readAgain 9999999 51 [some (.ref 3), none, none, none, some (.int (zI i))] (0, 0) (mkS w (uI (gI s9) 6 (Int.toNat (i : Int)) (gI s9 3 4)) (gJ s9))) (fun e9 s9 => rX e9 (mkS w (gI s9) (gJ s9)))) (fun e9 s7 => rX e9 (mkS w (gI s7) (gJ s7)))) = R → am_call X aP (d + (3 * r + 7)) 72 [.ref 3, .ref 1, .ref (iL bl), .int (zI (6 - ((r + 1 : Nat) : Int)))] (mkS w (hI S) J) = R := fun d R hR => by
        rw [show d + (3 * r + 7) = (d + (3 * r + 6)) + 1 from rfl, go_X6_readAgain, e_X6_readAgain_0]
        refine (if_pos (by simp (disch := omega) only [hk, hu, hI_n, hI_un, z_nat, em_d, zl, z_add, z_sub, z_mul, z_lt, z_eq, gI_mk, gJ_mk, cI_some, cV_some, cJ_some, cI_x, cV_x, cJ_x, uS_self, uS_ne, if_pos, if_neg, b01, b01n, ite_not, if_true, if_false, Bool.false_eq_true, hLL]; omega)).trans ?_
        refine cI_go (r := zI 1) (st := mkS w (hI S1) J) ?_ ?_
        · simp only [zl]
          exact g1 (d + (3 * r + 3))
        refine (if_neg (by decide)).trans ?_
        refine cI_go (r := zI 1) (st := mkS w (hI S2) J) ?_ ?_
        · simp (disch := omega) only [hk, hu, hI_n, hI_un, z_nat, em_d, zl, z_add, z_sub, z_mul, z_lt, z_eq, gI_mk, gJ_mk, cI_some, cV_some, cJ_some, cI_x, cV_x, cJ_x, uS_self, uS_ne, if_pos, if_neg, b01, b01n, ite_not, if_true, if_false, Bool.false_eq_true, hLL, g5]
          exact f1 (d + (3 * r + 5))
        refine cI_go (r := zI 1) (st := mkS w (hI S3) J) ?_ ?_
        · simp only [gI_mk, gJ_mk, zl]
          exact y1 (d + (3 * r + 3))
        refine (if_neg (by decide)).trans ?_
        rw [← hR]
        have z1 := z1 d
        have eo : 6 - ((r + 1 : Nat) : Int) + 1 = 6 - (r : Int) := by omega
        simp (disch := omega) only [hk, hu, hI_n, hI_un, z_nat, em_d, zl, z_add, z_sub, z_mul, z_lt, z_eq, gI_mk, gJ_mk, cI_some, cV_some, cJ_some, cI_x, cV_x, cJ_x, uS_self, uS_ne, if_pos, if_neg, b01, b01n, ite_not, if_true, if_false, Bool.false_eq_true, hLL, eo, a4]
        rw [z1]
        rfl
      cases e1 : sqW B e G e (sk B e (sk B e (numE B e p) + 1)) with
      | inl g =>
        rw [e1] at z2 head
        refine ⟨S4, fun d => head d _ ?_, z2, hF4⟩
        rw [cI_some]
        refine (if_pos rfl).trans ?_
        simp (disch := omega) only [hk, hu, hI_n, hI_un, z_nat, em_d, zl, z_add, z_sub, z_mul, z_lt, z_eq, gI_mk, gJ_mk, cI_some, cV_some, cJ_some, cI_x, cV_x, cJ_x, uS_self, uS_ne, if_pos, if_neg, b01, b01n, ite_not, if_true, if_false, Bool.false_eq_true, hLL, rI_d]
        rfl
      | inr y =>
        rw [e1] at z2 head v1
        obtain ⟨t1, t2, t3⟩ := z2
        obtain ⟨⟨u1, u2, u3, u4, u5⟩, u6⟩ := v1
        by_cases k2 : y.2 < e ∧ B y.2 = 93
        · rw [show clA B e (.inr y) = .inr y from if_pos k2]
          obtain ⟨S5, x1, x2, x3⟩ := T_needs1 (X := X) w J t1 (c := 93) (by decide) k2
          have c4 : S5 3 4 = ((i + 1 + y.1.length : Nat) : Int) := by
            rw [x3.1 3 (by decide)]
            exact t3
          have c6 : uS S5 6 (i : Int) ((i + 1 + y.1.length : Nat) : Int) 3 4 = ((i + 1 + y.1.length : Nat) : Int) := by
            rw [uS_ne _ _ (Or.inl (by decide))]
            exact c4
          obtain ⟨S7, q1, q2, q3, q4, q5⟩ := c_sput (X := X) w J c6 (by omega) 6 (i : Int) 0
          refine ⟨S7, fun d => head d _ ?_, ⟨?_, ?_, ?_⟩, FC_tr hF4 (FC_tr (FC_t x3) (FC_tr (FC_6 _) q5 (by omega)) (Nat.le_refl _)) (Nat.le_refl _)⟩
          · rw [cI_some]
            refine (if_neg (show ¬ zI 1 = nI 0 by decide)).trans ?_
            refine cI_go (r := zI 1) (st := mkS w (hI S5) J) ?_ ?_
            · simp only [gI_mk, gJ_mk, zl]
              exact x1 (d + (3 * r + 3))
            refine (if_neg (by decide)).trans ?_
            rw [show 9999999 = 9999998 + 1 from rfl, e_X6_readAgain_51]
            refine cI_go (r := zI 1) (st := mkS w (hI S7) J) ?_ ?_
            · have := q1 (d + (3 * r + 5))
              simp (disch := omega) only [hk, hu, hI_n, hI_un, z_nat, em_d, zl, z_add, z_sub, z_mul, z_lt, z_eq, gI_mk, gJ_mk, cI_some, cV_some, cJ_some, cI_x, cV_x, cJ_x, uS_self, uS_ne, if_pos, if_neg, b01, b01n, ite_not, if_true, if_false, Bool.false_eq_true, hLL, c4]
              exact this
            simp (disch := omega) only [hk, hu, hI_n, hI_un, z_nat, em_d, zl, z_add, z_sub, z_mul, z_lt, z_eq, gI_mk, gJ_mk, cI_some, cV_some, cJ_some, cI_x, cV_x, cJ_x, uS_self, uS_ne, if_pos, if_neg, b01, b01n, ite_not, if_true, if_false, Bool.false_eq_true, hLL, z_bok1, rI_d]
            rfl
          · exact Tp_o x2 (q4.1.trans (uS_row _ _ _ (by decide))) (q4.2.trans (uS_row _ _ _ (by decide)))
          · obtain ⟨m1, m2, m3⟩ := q5.2.2 i (by omega)
            have m4 := x3.1 4 (by decide)
            have m5 := x3.1 5 (by decide)
            obtain ⟨n4, n5, -⟩ := z3.2.2 i (by omega)
            have o4 := y3.1 4 (by decide)
            have o5 := y3.1 5 (by decide)
            refine CSt_agn ⟨?_, ?_, ?_⟩ ?_ q2
            · rw [m1, uS_row _ _ _ (by decide), m4, n4, o4]
              exact f2.1
            · rw [m2, uS_row _ _ _ (by decide), m5, n5, o5]
              exact f2.2.1
            · rw [m3, uS_self]
            · refine CSt_ext y.1 (i + 1) (fun x hx1 hx2 => ?_) t2
              obtain ⟨l1, l2, l3⟩ := q5.2.2 x (by omega)
              rw [l1, l2, l3, uS_row _ _ _ (by decide), uS_row _ _ _ (by decide), uS_ne _ _ (Or.inr (by omega)), m4, m5, x3.1 6 (by decide)]
              exact ⟨rfl, rfl, rfl⟩
          · rw [q3]
            show ((i + 1 + y.1.length + 1 : Nat) : Int) = ((i + (agn (numV B e p) y.1).length : Nat) : Int)
            rw [agn_len]
            omega
        · rw [show clA B e (.inr y) = .inl (1, (y.2 : Int)) from if_neg k2]
          obtain ⟨S5, x1, x2, x3⟩ := T_needs0 (X := X) w J t1 (c := 93) (by decide) k2
          refine ⟨S5, fun d => head d _ ?_, x2, FC_tr hF4 (FC_t x3) (Nat.le_refl _)⟩
          rw [cI_some]
          refine (if_neg (show ¬ zI 1 = nI 0 by decide)).trans ?_
          refine cI_go (r := zI 0) (st := mkS w (hI S5) J) ?_ ?_
          · simp only [gI_mk, gJ_mk, zl]
            exact x1 (d + (3 * r + 3))
          refine (if_pos (by decide)).trans ?_
          simp (disch := omega) only [hk, hu, hI_n, hI_un, z_nat, em_d, zl, z_add, z_sub, z_mul, z_lt, z_eq, gI_mk, gJ_mk, cI_some, cV_some, cJ_some, cI_x, cV_x, cJ_x, uS_self, uS_ne, if_pos, if_neg, b01, b01n, ite_not, if_true, if_false, Bool.false_eq_true, hLL, rI_d]
          rfl
    · rw [if_neg k1]
      obtain ⟨S3, y1, y2, y3⟩ := T_needs0 (X := X) w J f6 (c := 91) (by decide) k1
      refine ⟨S3, fun d => ?_, y2, FC_tr (FC_t g3) (FC_tr f5 (FC_t y3) (Nat.le_refl _)) (Nat.le_refl _)⟩
      rw [show d + (3 * r + 7) = (d + (3 * r + 6)) + 1 from rfl, go_X6_readAgain, e_X6_readAgain_0]
      refine (if_pos (by simp (disch := omega) only [hk, hu, hI_n, hI_un, z_nat, em_d, zl, z_add, z_sub, z_mul, z_lt, z_eq, gI_mk, gJ_mk, cI_some, cV_some, cJ_some, cI_x, cV_x, cJ_x, uS_self, uS_ne, if_pos, if_neg, b01, b01n, ite_not, if_true, if_false, Bool.false_eq_true, hLL]; omega)).trans ?_
      refine cI_go (r := zI 1) (st := mkS w (hI S1) J) ?_ ?_
      · simp only [zl]
        exact g1 (d + (3 * r + 3))
      refine (if_neg (by decide)).trans ?_
      refine cI_go (r := zI 1) (st := mkS w (hI S2) J) ?_ ?_
      · simp (disch := omega) only [hk, hu, hI_n, hI_un, z_nat, em_d, zl, z_add, z_sub, z_mul, z_lt, z_eq, gI_mk, gJ_mk, cI_some, cV_some, cJ_some, cI_x, cV_x, cJ_x, uS_self, uS_ne, if_pos, if_neg, b01, b01n, ite_not, if_true, if_false, Bool.false_eq_true, hLL, g5]
        exact f1 (d + (3 * r + 5))
      refine cI_go (r := zI 0) (st := mkS w (hI S3) J) ?_ ?_
      · simp only [gI_mk, gJ_mk, zl]
        exact y1 (d + (3 * r + 3))
      refine (if_pos (by decide)).trans ?_
      simp (disch := omega) only [hk, hu, hI_n, hI_un, z_nat, em_d, zl, z_add, z_sub, z_mul, z_lt, z_eq, gI_mk, gJ_mk, cI_some, cV_some, cJ_some, cI_x, cV_x, cJ_x, uS_self, uS_ne, if_pos, if_neg, b01, b01n, ite_not, if_true, if_false, Bool.false_eq_true, hLL, rI_d]
      rfl
  · rw [if_neg n1]
    obtain ⟨S1, g1, g2, g3⟩ := T_num0 (X := X) w J hT (lo := 0) (hi := 60) (by decide) (by decide) n1
    refine ⟨S1, fun d => ?_, g2, FC_t g3⟩
    rw [show d + (3 * r + 7) = (d + (3 * r + 6)) + 1 from rfl, go_X6_readAgain, e_X6_readAgain_0]
    refine (if_pos (by simp (disch := omega) only [hk, hu, hI_n, hI_un, z_nat, em_d, zl, z_add, z_sub, z_mul, z_lt, z_eq, gI_mk, gJ_mk, cI_some, cV_some, cJ_some, cI_x, cV_x, cJ_x, uS_self, uS_ne, if_pos, if_neg, b01, b01n, ite_not, if_true, if_false, Bool.false_eq_true, hLL]; omega)).trans ?_
    refine cI_go (r := zI 0) (st := mkS w (hI S1) J) ?_ ?_
    · simp only [zl]
      exact g1 (d + (3 * r + 3))
    refine (if_pos (by decide)).trans ?_
    simp (disch := omega) only [hk, hu, hI_n, hI_un, z_nat, em_d, zl, z_add, z_sub, z_mul, z_lt, z_eq, gI_mk, gJ_mk, cI_some, cV_some, cJ_some, cI_x, cV_x, cJ_x, uS_self, uS_ne, if_pos, if_neg, b01, b01n, ite_not, if_true, if_false, Bool.false_eq_true, hLL, rI_d]
    rfl
end WK5
