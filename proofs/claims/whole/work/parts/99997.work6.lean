/-! THE WORK'S TEXT: an again of the reference, and every step -/
section WK6
variable {X : Nat × (Nat → Int32)} {d : Nat} {w : Bool × Bool × Bool} {S : Hp} {J : Nat → Nat → Int64} {B : Nat → Int} {e p q i j r : Nat} {nc nr : Int} {bl : Bool} {G : Nat → WOut} {out : WOut}
/-- wrong: nothing more, but one less is open -/
theorem m_29B {k pl x2 : Int} {D f : Nat} (h : Bd S k pl) : aR X (D + 2) m_X10_readAgain (f + 1) 29 [some (.ref 132), none, some (.int (zI x2))] (0, 0) (mkS w (hI S) J) = some (.inl none, (mkS w (hI (uS S 132 7 (S 132 7 - 1))) J)) := by
  have h2 : Bd (uS S 132 7 (S 132 7 - 1)) k pl := Bd_o h (uS_ne _ _ (Or.inr (by decide))) (uS_ne _ _ (Or.inr (by decide)))
  rw [e_X10_readAgain_29]
  refine cV_go (st := mkS w (hI S) J) ?_ ?_
  · simp only [gI_mk, gJ_mk, zl]
    exact M_signB (d := D) (c := 93) h
  refine cI_go (r := zI 0) (st := mkS w (hI (uS S 132 7 (S 132 7 - 1))) J) ?_ ?_
  · simp (disch := omega) only [hk, hu, hI_n, hI_un, z_nat, em_d, zl, z_add, z_sub, z_mul, z_lt, z_eq, gI_mk, gJ_mk, cI_some, cV_some, cJ_some, cI_x, cV_x, cJ_x, uS_self, uS_ne, if_pos, if_neg, b01, b01n, ite_not, if_true, if_false, Bool.false_eq_true]
    exact M_fine0 (d := D + 1) h2
  refine (if_pos (by decide)).trans ?_
  simp (disch := omega) only [hk, hu, hI_n, hI_un, z_nat, em_d, zl, z_add, z_sub, z_mul, z_lt, z_eq, gI_mk, gJ_mk, cI_some, cV_some, cJ_some, cI_x, cV_x, cJ_x, uS_self, uS_ne, if_pos, if_neg, b01, b01n, ite_not, if_true, if_false, Bool.false_eq_true, rV_d]
theorem m_19B {k pl x2 : Int} {D f : Nat} (h : Bd S k pl) : aR X (D + 2) m_X10_readAgain (f + 2) 19 [some (.ref 132), none, some (.int (zI x2))] (0, 0) (mkS w (hI S) J) = some (.inl none, (mkS w (hI (uS S 132 7 (S 132 7 - 1))) J)) := (m_loopB (D := D + 1) (f := f + 1) h).trans (m_29B h)
theorem Bd_7 {k pl : Int} (h : Bd S k pl) : Bd (uS S 132 7 (S 132 7 - 1)) k pl := Bd_o h (uS_ne _ _ (Or.inr (by decide))) (uS_ne _ _ (Or.inr (by decide)))
theorem m_opens0 (w : Bool × Bool × Bool) (J : Nat → Nat → Int64) (h : Mp S B e p) {x : Int} (h7 : S 132 7 = 6) : ∃ S', (∀ d, am_call X aP (d + 2) 181 [.ref 132, .int (zI x)] (mkS w (hI S) J) = some (.inl none, (mkS w (hI S') J))) ∧ Bd S' 3 (p : Int) ∧ ∀ j, FR j S S' := by
  have h4 := h.2.2.2.2.1
  have he := h.2.2.1
  have hp := h.2.2.2.1
  obtain ⟨S1, g1, g2, -, g3⟩ := M_wrong1 (X := X) w J h 3 (p : Int) (by omega)
  have e7 : S1 132 7 = 6 := (g3.2 7 (by decide)).trans h7
  refine ⟨uS S1 132 7 7, fun d => ?_, Bd_o g2 (uS_ne _ _ (Or.inr (by decide))) (uS_ne _ _ (Or.inr (by decide))), fun j => FR_tr (FR_m g3) (FR_7 _ _ (Or.inr rfl)) (Nat.le_refl _)⟩
  rw [go_X10_opensOne, e_X10_opensOne_0, M_fine1 h]
  simp (disch := omega) only [hk, hu, hI_n, hI_un, z_nat, em_d, zl, z_add, z_sub, z_mul, z_lt, z_eq, gI_mk, gJ_mk, cI_some, cV_some, cJ_some, cI_x, cV_x, cJ_x, uS_self, uS_ne, if_pos, if_neg, b01, b01n, ite_not, if_true, if_false, Bool.false_eq_true, h7, h4]
  rw [g1]
  simp (disch := omega) only [hk, hu, hI_n, hI_un, z_nat, em_d, zl, z_add, z_sub, z_mul, z_lt, z_eq, gI_mk, gJ_mk, cI_some, cV_some, cJ_some, cI_x, cV_x, cJ_x, uS_self, uS_ne, if_pos, if_neg, b01, b01n, ite_not, if_true, if_false, Bool.false_eq_true]
  rw [show 9999999 = 9999998 + 1 from rfl, e_X10_opensOne_12, M_fine0 g2]
  simp (disch := omega) only [hk, hu, hI_n, hI_un, z_nat, em_d, zl, z_add, z_sub, z_mul, z_lt, z_eq, gI_mk, gJ_mk, cI_some, cV_some, cJ_some, cI_x, cV_x, cJ_x, uS_self, uS_ne, if_pos, if_neg, b01, b01n, ite_not, if_true, if_false, Bool.false_eq_true]
  rw [show 9999998 = 9999997 + 1 from rfl, e_X10_opensOne_21]
  simp (disch := omega) only [hk, hu, hI_n, hI_un, z_nat, em_d, zl, z_add, z_sub, z_mul, z_lt, z_eq, gI_mk, gJ_mk, cI_some, cV_some, cJ_some, cI_x, cV_x, cJ_x, uS_self, uS_ne, if_pos, if_neg, b01, b01n, ite_not, if_true, if_false, Bool.false_eq_true, e7, rV_d]
  rfl
theorem m_agn0 (hM : Mp S B e q) (h7 : S 132 7 = 6) (w : Bool × Bool × Bool) (J : Nat → Nat → Int64) : ∃ S', (∀ d, am_call X aP (d + 6) 193 [.ref 132] (mkS w (hI S) J) = some (.inl none, (mkS w (hI S') J))) ∧ Bd S' 3 (q : Int) ∧ FR j S S' := by
  obtain ⟨S1, g1, g2, g3⟩ := m_opens0 (X := X) w J (x := 5) hM h7
  refine ⟨uS S1 132 7 (S1 132 7 - 1), fun d => ?_, Bd_7 g2, FR_tr (g3 j) (FR_7 S1 _ (Or.inr rfl)) (Nat.le_refl _)⟩
  · rw [show d + 6 = (d + 5) + 1 from rfl, go_X10_readAgain, e_X10_readAgain_0]
    refine cV_go (st := mkS w (hI S1) J) ?_ ?_
    · simp only [zl]
      exact g1 (d + 3)
    refine cI_go (r := zI 0) (st := mkS w (hI S1) J) ?_ ?_
    · simp only [gI_mk, gJ_mk, zl]
      exact M_numB (d := d + 3) (lo := 0) (hi := 60) g2
    refine cV_go (st := mkS w (hI S1) J) ?_ ?_
    · simp only [gI_mk, gJ_mk, zl]
      exact M_signB (d := d + 3) (c := 91) g2
    refine cV_go (st := mkS w (hI S1) J) ?_ ?_
    · simp only [gI_mk, gJ_mk, zl]
      exact m_tellsB (d := d + 3) (x := 5) (a := 0) (b := 0) g2
    simp (disch := omega) only [hk, hu, hI_n, hI_un, z_nat, em_d, zl, z_add, z_sub, z_mul, z_lt, z_eq, gI_mk, gJ_mk, cI_some, cV_some, cJ_some, cI_x, cV_x, cJ_x, uS_self, uS_ne, if_pos, if_neg, b01, b01n, ite_not, if_true, if_false, Bool.false_eq_true]
    rw [show 9999999 = 9999997 + 2 from rfl]
    exact m_19B (D := d + 3) g2
theorem m_agn (hG : Gok X B e bl nc nr r G) (hr : r < 6) (hM : Mp S B e q) (hq5 : q + 5 ≤ e) (he : e ≤ 150) (h7 : S 132 7 = 6 - ((r + 1 : Nat) : Int)) (h30 : S 132 30 = ((3 * j : Nat) : Int)) (hj : 3 * j ≤ q) (h18 : S 132 18 = nr) (h19 : S 132 19 = nc) (w : Bool × Bool × Bool) (J : Nat → Nat → Int64) : ∃ S', (∀ d, am_call X aP (d + (2 * r + 8)) 193 [.ref 132] (mkS w (hI S) J) = some (.inl none, (mkS w (hI S') J))) ∧ MF S' B e (r + 1) j (oAgn B e G (sk B e (q + 5))) ∧ FR j S S' := by
  obtain ⟨S1, g1, g2, g3, g4, g5, g6⟩ := m_opensOne1 (X := X) w J hM (x := 5) hq5 h7 (by omega)
  have hF1 : FR j S S1 := ⟨fun o ho => g6 o (fun z => ho (by rw [List.mem_singleton.mp z]; exact List.mem_cons_self ..)), fun k hk1 => by
    by_cases k25 : k = 25
    · rw [k25]
      exact g4
    · exact g5.2 k (by omega), fun x _ => by rw [g6 145 (by decide)]⟩
  have s0 := sk_ge (B := B) (e := e) (p := q + 5)
  have s0' := sk_le (B := B) (e := e) (p := q + 5) hq5
  generalize hp : sk B e (q + 5) = p at s0 s0'
  have a7 : S1 132 7 = 6 - (r : Int) := by omega
  have a30 : S1 132 30 = ((3 * j : Nat) : Int) := (g5.2 30 (by decide)).trans h30
  have a18 : S1 132 18 = nr := (g5.2 18 (by decide)).trans h18
  have a19 : S1 132 19 = nc := (g5.2 19 (by decide)).trans h19
  unfold oAgn
  by_cases n1 : numK B e p 0 60 = 0
  · rw [if_pos n1]
    obtain ⟨d1, d2, d3⟩ := numK_0 n1
    have gp := dg_pos d1
    have s2 := sk_ge (B := B) (e := e) (p := numE B e p)
    obtain ⟨S2, f1, f2, f3⟩ := M_num1 (X := X) w J g2 hp (lo := 0) (hi := 60) (by decide) (by decide) n1
    by_cases k1 : sk B e (numE B e p) < e ∧ B (sk B e (numE B e p)) = 91
    · rw [if_pos k1]
      obtain ⟨S3, y1, y2, y3⟩ := M_sign1 (X := X) w J f2 (c := 91) (by decide) k1
      have b30 : S3 132 30 = ((3 * j : Nat) : Int) := (y3.2 30 (by decide)).trans ((f3.2 30 (by decide)).trans a30)
      have b7 : S3 132 7 = 6 - (r : Int) := (y3.2 7 (by decide)).trans ((f3.2 7 (by decide)).trans a7)
      obtain ⟨S4, z1, z2, z3, z4, z5, z6⟩ := m_tells (X := X) w J y2 b30 (by omega) 5 (numV B e p) 0
      have s3 := sk_ge (B := B) (e := e) (p := sk B e (numE B e p) + 1)
      have hF4 : FR j S S4 := FR_tr hF1 (FR_tr (FR_m f3) (FR_tr (FR_m y3) z6 (Nat.le_refl _)) (Nat.le_refl _)) (Nat.le_refl _)
      obtain ⟨S5, v1, v2, v3⟩ := m_seqA hG e (sk B e (sk B e (numE B e p) + 1)) w J S4 (sk B e (numE B e p) + 1) (j + 1) (by omega) z5 rfl (z4.trans b7) z3 (by omega) ((hF4.2.1 18 (by decide)).trans h18) ((hF4.2.1 19 (by decide)).trans h19)
      have hF5 : FR j S S5 := FR_tr hF4 v3 (Nat.le_succ j)
      have b3j : S3 132 30 = 3 * (j : Int) := by omega
      have head : ∀ (d : Nat) (R : aRes), (∀ f', aR X (d + (2 * r + 7)) m_X10_readAgain (f' + 1) 29 [some (.ref 132), none, some (.int (zI ((3 * (j : Int)))))] (0, 0) (mkS w (hI S5) J) = R) → am_call X aP (d + (2 * r + 8)) 193 [.ref 132] (mkS w (hI S) J) = R := fun d R hR => by
        rw [show d + (2 * r + 8) = (d + (2 * r + 7)) + 1 from rfl, go_X10_readAgain, e_X10_readAgain_0]
        refine cV_go (st := mkS w (hI S1) J) ?_ ?_
        · simp only [zl]
          exact g1 (d + (2 * r + 5))
        refine cI_go (r := zI (numV B e p)) (st := mkS w (hI S2) J) ?_ ?_
        · simp only [gI_mk, gJ_mk, zl]
          exact f1 (d + (2 * r + 5))
        refine cV_go (st := mkS w (hI S3) J) ?_ ?_
        · simp only [gI_mk, gJ_mk, zl]
          exact y1 (d + (2 * r + 5))
        refine cV_go (st := mkS w (hI S4) J) ?_ ?_
        · simp only [gI_mk, gJ_mk, zl]
          exact z1 (d + (2 * r + 5))
        obtain ⟨f', hf'⟩ := v1 d (9999996 - e) (3 * (j : Int))
        rw [show 9999996 - e + e + 3 = 9999999 by omega] at hf'
        simp (disch := omega) only [hk, hu, hI_n, hI_un, z_nat, em_d, zl, z_add, z_sub, z_mul, z_lt, z_eq, gI_mk, gJ_mk, cI_some, cV_some, cJ_some, cI_x, cV_x, cJ_x, uS_self, uS_ne, if_pos, if_neg, b01, b01n, ite_not, if_true, if_false, Bool.false_eq_true, b3j]
        exact hf'.trans (hR f')
      cases e1 : clA B e (sqW B e G e (sk B e (sk B e (numE B e p) + 1))) with
      | inl g =>
        rw [e1] at v2
        refine ⟨uS S5 132 7 (S5 132 7 - 1), fun d => head d _ (fun f' => m_29B (D := d + (2 * r + 5)) v2), Bd_7 v2, FR_tr hF5 (FR_7 S5 _ (Or.inr rfl)) (Nat.le_refl _)⟩
      | inr y =>
        rw [e1] at v2
        obtain ⟨⟨p', t1, t2⟩, t3, t4, t5⟩ := v2
        have k2 : y.2 < e ∧ B y.2 = 93 := by
          cases e2 : sqW B e G e (sk B e (sk B e (numE B e p) + 1)) with
          | inl g =>
            rw [e2] at e1
            cases e1
          | inr z =>
            rw [e2] at e1
            by_cases k3 : z.2 < e ∧ B z.2 = 93
            · rw [show clA B e (.inr z) = .inr z from if_pos k3] at e1
              injection e1 with e1
              rw [← e1]
              exact k3
            · rw [show clA B e (.inr z) = .inl (1, (z.2 : Int)) from if_neg k3] at e1
              cases e1
        have hml : 3 * (j + 1 + mL y.1) ≤ 150 := by
          obtain ⟨u1, -⟩ := sqW_wf hG e (sk B e (sk B e (numE B e p) + 1)) (by omega) (sk_le (by omega)) sk_sk
          cases e2 : sqW B e G e (sk B e (sk B e (numE B e p) + 1)) with
          | inl g =>
            rw [e2] at e1
            cases e1
          | inr z =>
            rw [e2] at e1 u1
            obtain ⟨⟨u2, u3, u4, u5, u6⟩, -⟩ := u1
            by_cases k3 : z.2 < e ∧ B z.2 = 93
            · rw [show clA B e (.inr z) = .inr z from if_pos k3] at e1
              injection e1 with e1
              rw [← e1]
              omega
            · rw [show clA B e (.inr z) = .inl (1, (z.2 : Int)) from if_neg k3] at e1
              cases e1
        obtain ⟨S6, x1, x2, x3⟩ := M_sign1 (X := X) w J t1 (c := 93) (by decide) (by rw [t2]; exact k2)
        rw [t2] at x2
        have c7 : S6 132 7 = 6 - (r : Int) := (x3.2 7 (by decide)).trans t5
        have c30 : S6 132 30 = ((3 * (j + 1 + mL y.1) : Nat) : Int) := (x3.2 30 (by decide)).trans t4
        have hM7 : Mp (uS S6 132 7 (S6 132 7 - 1)) B e (y.2 + 1) := Mp_o x2 (fun k k1 k2 => uS_ne _ _ (Or.inr (by omega))) (uS_row _ _ _ (by decide))
        have e30 : uS S6 132 7 (S6 132 7 - 1) 132 30 = ((3 * (j + 1 + mL y.1) : Nat) : Int) := (uS_ne _ _ (Or.inr (by decide))).trans c30
        refine ⟨uS (uS S6 132 7 (S6 132 7 - 1)) 145 (3 * (j : Int) + 2) ((3 * (j + 1 + mL y.1) : Nat) : Int), fun d => head d _ (fun f' => ?_), ⟨⟨_, Mp_o hM7 (fun k k1 k2 => uS_ne _ _ (Or.inl (by decide))) (uS_row _ _ _ (by decide)), rfl⟩, MSt_agn ⟨?_, ?_, ?_⟩ ?_, ?_, ?_⟩, FR_tr hF5 (FR_tr (FR_m x3) (FR_tr (FR_7 S6 _ (Or.inr rfl)) ⟨fun o ho => uS_row _ _ _ (fun z => ho (by rw [z]; decide)), fun k _ => uS_ne _ _ (Or.inl (by decide)), fun x hx => uS_ne _ _ (Or.inr (by omega))⟩ (Nat.le_refl _)) (Nat.le_refl _)) (Nat.le_refl _)⟩
        · rw [e_X10_readAgain_29]
          refine cV_go (st := mkS w (hI S6) J) ?_ ?_
          · simp only [gI_mk, gJ_mk, zl]
            exact x1 (d + (2 * r + 5))
          refine cI_go (r := zI 1) (st := mkS w (hI (uS S6 132 7 (S6 132 7 - 1))) J) ?_ ?_
          · simp (disch := omega) only [hk, hu, hI_n, hI_un, z_nat, em_d, zl, z_add, z_sub, z_mul, z_lt, z_eq, gI_mk, gJ_mk, cI_some, cV_some, cJ_some, cI_x, cV_x, cJ_x, uS_self, uS_ne, if_pos, if_neg, b01, b01n, ite_not, if_true, if_false, Bool.false_eq_true]
            exact M_fine1 (d := d + (2 * r + 6)) hM7
          refine (if_neg (by decide)).trans ?_
          simp (disch := omega) only [hk, hu, hI_n, hI_un, z_nat, em_d, zl, z_add, z_sub, z_mul, z_lt, z_eq, gI_mk, gJ_mk, cI_some, cV_some, cJ_some, cI_x, cV_x, cJ_x, uS_self, uS_ne, if_pos, if_neg, b01, b01n, ite_not, if_true, if_false, Bool.false_eq_true, c30, rV_d]
        · rw [uS_ne _ _ (Or.inr (by omega)), uS_row _ _ _ (by decide), x3.1 145 (by decide), v3.2.2 _ (by omega)]
          exact z2.1
        · rw [uS_ne _ _ (Or.inr (by omega)), uS_row _ _ _ (by decide), x3.1 145 (by decide), v3.2.2 _ (by omega)]
          exact z2.2.1
        · rw [show ((3 * j + 2 : Nat) : Int) = 3 * (j : Int) + 2 by omega, uS_self]
        · refine MSt_ext y.1 (j + 1) (fun x hx1 hx2 => ?_) t3
          rw [uS_ne _ _ (Or.inr (by omega)), uS_row _ _ _ (by decide), x3.1 145 (by decide)]
        · rw [uS_ne _ _ (Or.inl (by decide)), e30]
          show _ = ((3 * (j + mL (agn (numV B e p) y.1)) : Nat) : Int)
          rw [agn_mL]
          omega
        · rw [uS_ne _ _ (Or.inl (by decide)), uS_self]
          omega
    · rw [if_neg k1]
      obtain ⟨S3, y1, y2, y3⟩ := M_sign0 (X := X) w J f2 (c := 91) (by decide) k1
      refine ⟨uS S3 132 7 (S3 132 7 - 1), fun d => ?_, Bd_7 y2, FR_tr hF1 (FR_tr (FR_m f3) (FR_tr (FR_m y3) (FR_7 S3 _ (Or.inr rfl)) (Nat.le_refl _)) (Nat.le_refl _)) (Nat.le_refl _)⟩
      rw [show d + (2 * r + 8) = (d + (2 * r + 7)) + 1 from rfl, go_X10_readAgain, e_X10_readAgain_0]
      refine cV_go (st := mkS w (hI S1) J) ?_ ?_
      · simp only [zl]
        exact g1 (d + (2 * r + 5))
      refine cI_go (r := zI (numV B e p)) (st := mkS w (hI S2) J) ?_ ?_
      · simp only [gI_mk, gJ_mk, zl]
        exact f1 (d + (2 * r + 5))
      refine cV_go (st := mkS w (hI S3) J) ?_ ?_
      · simp only [gI_mk, gJ_mk, zl]
        exact y1 (d + (2 * r + 5))
      refine cV_go (st := mkS w (hI S3) J) ?_ ?_
      · simp only [gI_mk, gJ_mk, zl]
        exact m_tellsB (d := d + (2 * r + 5)) (x := 5) (a := numV B e p) (b := 0) y2
      simp (disch := omega) only [hk, hu, hI_n, hI_un, z_nat, em_d, zl, z_add, z_sub, z_mul, z_lt, z_eq, gI_mk, gJ_mk, cI_some, cV_some, cJ_some, cI_x, cV_x, cJ_x, uS_self, uS_ne, if_pos, if_neg, b01, b01n, ite_not, if_true, if_false, Bool.false_eq_true]
      rw [show 9999999 = 9999997 + 2 from rfl]
      exact m_19B (D := d + (2 * r + 5)) y2
  · rw [if_neg n1]
    obtain ⟨S2, f1, f2, f3⟩ := M_num0 (X := X) w J g2 hp (lo := 0) (hi := 60) (by decide) (by decide) n1
    refine ⟨uS S2 132 7 (S2 132 7 - 1), fun d => ?_, Bd_7 f2, FR_tr hF1 (FR_tr (FR_m f3) (FR_7 S2 _ (Or.inr rfl)) (Nat.le_refl _)) (Nat.le_refl _)⟩
    rw [show d + (2 * r + 8) = (d + (2 * r + 7)) + 1 from rfl, go_X10_readAgain, e_X10_readAgain_0]
    refine cV_go (st := mkS w (hI S1) J) ?_ ?_
    · simp only [zl]
      exact g1 (d + (2 * r + 5))
    refine cI_go (r := zI 0) (st := mkS w (hI S2) J) ?_ ?_
    · simp only [gI_mk, gJ_mk, zl]
      exact f1 (d + (2 * r + 5))
    refine cV_go (st := mkS w (hI S2) J) ?_ ?_
    · simp only [gI_mk, gJ_mk, zl]
      exact M_signB (d := d + (2 * r + 5)) (c := 91) f2
    refine cV_go (st := mkS w (hI S2) J) ?_ ?_
    · simp only [gI_mk, gJ_mk, zl]
      exact m_tellsB (d := d + (2 * r + 5)) (x := 5) (a := 0) (b := 0) f2
    simp (disch := omega) only [hk, hu, hI_n, hI_un, z_nat, em_d, zl, z_add, z_sub, z_mul, z_lt, z_eq, gI_mk, gJ_mk, cI_some, cV_some, cJ_some, cI_x, cV_x, cJ_x, uS_self, uS_ne, if_pos, if_neg, b01, b01n, ite_not, if_true, if_false, Bool.false_eq_true]
    rw [show 9999999 = 9999997 + 2 from rfl]
    exact m_19B (D := d + (2 * r + 5)) f2
end WK6
