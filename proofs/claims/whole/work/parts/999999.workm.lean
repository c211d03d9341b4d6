/-! THE CALLS OF work: the reference -/
section WKM
variable {X : Nat × (Nat → Int32)} {d : Nat} {w : Bool × Bool × Bool} {S : Hp} {J : Nat → Nat → Int64} {B : Nat → Int} {e : Nat} {tp n : Int} {nT nR nC : Int} {rd s : Int → Int} {cd : List (Int × Int)} {P : Pst} {k : Nat}
theorem m_workB (h2 : S 132 2 = tp) (hb : -2147483648 ≤ n ∧ n < 2147483648) (ht : 0 ≤ tp ∧ tp ≤ 600) (hn : ¬ (0 ≤ n ∧ n ≤ min tp 150)) : am_call X aP (d + 9) 195 [.ref 132, .int (zI n)] (mkS w (hI S) J) = some (.inl (some (.int (zI 0))), (mkS w (hI (mxB S 1)) J)) := by
  have hmm := fun d => m_may0 (X := X) (d := d) (w := w) (J := J) (S := uS S 132 0 0) (uS_self _ _ _ _) (cd := 1) (k := 1) (by decide) (by decide)
  rw [go_X10_work, e_X10_work_0]
  by_cases q1 : n < 0
  · refine (if_pos ?_).trans ?_
    · simp (disch := omega) only [hk, hu, hI_n, hI_un, z_nat, em_d, zl, z_add, z_sub, z_mul, z_lt, z_eq, gI_mk, gJ_mk, cI_some, cV_some, cJ_some, cI_x, cV_x, cJ_x, uS_self, uS_ne, if_pos, if_neg, b01, b01n, ite_not, if_true, if_false, Bool.false_eq_true]
      exact q1
    refine cI_go (r := zI 0) (st := mkS w (hI (mxB S 1)) J) ?_ ?_
    · simp (disch := omega) only [hk, hu, hI_n, hI_un, z_nat, em_d, zl, z_add, z_sub, z_mul, z_lt, z_eq, gI_mk, gJ_mk, cI_some, cV_some, cJ_some, cI_x, cV_x, cJ_x, uS_self, uS_ne, if_pos, if_neg, b01, b01n, ite_not, if_true, if_false, Bool.false_eq_true]
      exact hmm _
    simp (disch := omega) only [hk, hu, hI_n, hI_un, z_nat, em_d, zl, z_add, z_sub, z_mul, z_lt, z_eq, gI_mk, gJ_mk, cI_some, cV_some, cJ_some, cI_x, cV_x, cJ_x, uS_self, uS_ne, if_pos, if_neg, b01, b01n, ite_not, if_true, if_false, Bool.false_eq_true, rI_d]
  · refine (if_neg ?_).trans ?_
    · simp (disch := omega) only [hk, hu, hI_n, hI_un, z_nat, em_d, zl, z_add, z_sub, z_mul, z_lt, z_eq, gI_mk, gJ_mk, cI_some, cV_some, cJ_some, cI_x, cV_x, cJ_x, uS_self, uS_ne, if_pos, if_neg, b01, b01n, ite_not, if_true, if_false, Bool.false_eq_true]
      exact q1
    by_cases q2 : tp < n
    · refine (if_pos ?_).trans ?_
      · simp (disch := omega) only [hk, hu, hI_n, hI_un, z_nat, em_d, zl, z_add, z_sub, z_mul, z_lt, z_eq, gI_mk, gJ_mk, cI_some, cV_some, cJ_some, cI_x, cV_x, cJ_x, uS_self, uS_ne, if_pos, if_neg, b01, b01n, ite_not, if_true, if_false, Bool.false_eq_true, h2]
        exact q2
      refine cI_go (r := zI 0) (st := mkS w (hI (mxB S 1)) J) ?_ ?_
      · simp (disch := omega) only [hk, hu, hI_n, hI_un, z_nat, em_d, zl, z_add, z_sub, z_mul, z_lt, z_eq, gI_mk, gJ_mk, cI_some, cV_some, cJ_some, cI_x, cV_x, cJ_x, uS_self, uS_ne, if_pos, if_neg, b01, b01n, ite_not, if_true, if_false, Bool.false_eq_true]
        exact hmm _
      simp (disch := omega) only [hk, hu, hI_n, hI_un, z_nat, em_d, zl, z_add, z_sub, z_mul, z_lt, z_eq, gI_mk, gJ_mk, cI_some, cV_some, cJ_some, cI_x, cV_x, cJ_x, uS_self, uS_ne, if_pos, if_neg, b01, b01n, ite_not, if_true, if_false, Bool.false_eq_true, rI_d]
    · refine (if_neg ?_).trans ?_
      · simp (disch := omega) only [hk, hu, hI_n, hI_un, z_nat, em_d, zl, z_add, z_sub, z_mul, z_lt, z_eq, gI_mk, gJ_mk, cI_some, cV_some, cJ_some, cI_x, cV_x, cJ_x, uS_self, uS_ne, if_pos, if_neg, b01, b01n, ite_not, if_true, if_false, Bool.false_eq_true, h2]
        exact q2
      refine (if_pos ?_).trans ?_
      · simp (disch := omega) only [hk, hu, hI_n, hI_un, z_nat, em_d, zl, z_add, z_sub, z_mul, z_lt, z_eq, gI_mk, gJ_mk, cI_some, cV_some, cJ_some, cI_x, cV_x, cJ_x, uS_self, uS_ne, if_pos, if_neg, b01, b01n, ite_not, if_true, if_false, Bool.false_eq_true]
        omega
      refine cI_go (r := zI 0) (st := mkS w (hI (mxB S 1)) J) ?_ ?_
      · simp (disch := omega) only [hk, hu, hI_n, hI_un, z_nat, em_d, zl, z_add, z_sub, z_mul, z_lt, z_eq, gI_mk, gJ_mk, cI_some, cV_some, cJ_some, cI_x, cV_x, cJ_x, uS_self, uS_ne, if_pos, if_neg, b01, b01n, ite_not, if_true, if_false, Bool.false_eq_true]
        exact hmm _
      simp (disch := omega) only [hk, hu, hI_n, hI_un, z_nat, em_d, zl, z_add, z_sub, z_mul, z_lt, z_eq, gI_mk, gJ_mk, cI_some, cV_some, cJ_some, cI_x, cV_x, cJ_x, uS_self, uS_ne, if_pos, if_neg, b01, b01n, ite_not, if_true, if_false, Bool.false_eq_true, rI_d]
theorem m_wkHead (hT : Tx S 134 B) (h2 : S 132 2 = tp) (ht : 0 ≤ tp ∧ tp ≤ 600) (he : (e : Int) ≤ min tp 150) (h31 : 0 ≤ S 132 31 ∧ S 132 31 ≤ 16) (w : Bool × Bool × Bool) (J : Nat → Nat → Int64) : ∃ S1, Mp S1 B e 0 ∧ Fr [132] S S1 ∧ S1 132 2 = 0 ∧ S1 132 7 = 0 ∧ S1 132 0 = 0 ∧ (∀ k, k = 1 ∨ 8 < k → S1 132 k = S 132 k) ∧ ∀ d R, (if S 132 31 = 16 then (cI (am_call X aP (d + 39) 169 [.ref 132, .int (zI 0)] (mkS w (hI S1) J)) (fun r5 s4 => rI (zI (-20)) (mkS w (gI s4) (gJ s4))) (fun e9 s4 => rX e9 (mkS w (gI s4) (gJ s4)))) else aR X (d + 39) m_X10_work 9999999 38 [some (.ref 132), none, none, none] (0, 0) (mkS w (hI (uS S1 132 30 0)) J)) = R → am_call X aP (d + 40) 195 [.ref 132, .int (zI ((e : Int)))] (mkS w (hI S) J) = R := by
  obtain ⟨S1, g1, g2, g3, g4, g5, g6⟩ := M_begins (X := X) (S := uS S 132 0 0) (B := B) (e := e) w J ⟨fun k hk9 => by rw [uS_row _ _ _ (by decide)]; exact hT.1 k hk9, hT.2⟩ (by omega)
  have hmm := fun d => m_may1 (X := X) (d := d) (w := w) (J := J) (S := uS S 132 0 0) (uS_self _ _ _ _) 1 1
  have e31 : S1 132 31 = S 132 31 := by rw [g6 31 (by decide), uS_ne _ _ (Or.inr (by decide))]
  refine ⟨S1, g2, Fr_tr (Fr_u S (L := [132]) 0 0 (by decide)) g3 (fun _ z => z) (fun _ z => z), g4, g5, by rw [g6 0 (by decide), uS_self], fun k q => by rw [g6 k (by omega), uS_ne _ _ (Or.inr (by omega))], fun d R hR => ?_⟩
  rw [show d + 40 = (d + 39) + 1 from rfl, go_X10_work, e_X10_work_0]
  refine (if_neg ?_).trans ?_
  · simp (disch := omega) only [hk, hu, hI_n, hI_un, z_nat, em_d, zl, z_add, z_sub, z_mul, z_lt, z_eq, gI_mk, gJ_mk, cI_some, cV_some, cJ_some, cI_x, cV_x, cJ_x, uS_self, uS_ne, if_pos, if_neg, b01, b01n, ite_not, if_true, if_false, Bool.false_eq_true]
    omega
  refine (if_neg ?_).trans ?_
  · simp (disch := omega) only [hk, hu, hI_n, hI_un, z_nat, em_d, zl, z_add, z_sub, z_mul, z_lt, z_eq, gI_mk, gJ_mk, cI_some, cV_some, cJ_some, cI_x, cV_x, cJ_x, uS_self, uS_ne, if_pos, if_neg, b01, b01n, ite_not, if_true, if_false, Bool.false_eq_true, h2]
    omega
  refine (if_neg ?_).trans ?_
  · simp (disch := omega) only [hk, hu, hI_n, hI_un, z_nat, em_d, zl, z_add, z_sub, z_mul, z_lt, z_eq, gI_mk, gJ_mk, cI_some, cV_some, cJ_some, cI_x, cV_x, cJ_x, uS_self, uS_ne, if_pos, if_neg, b01, b01n, ite_not, if_true, if_false, Bool.false_eq_true]
    omega
  refine cI_go (r := zI 1) (st := mkS w (hI (uS S 132 0 0)) J) ?_ ?_
  · simp (disch := omega) only [hk, hu, hI_n, hI_un, z_nat, em_d, zl, z_add, z_sub, z_mul, z_lt, z_eq, gI_mk, gJ_mk, cI_some, cV_some, cJ_some, cI_x, cV_x, cJ_x, uS_self, uS_ne, if_pos, if_neg, b01, b01n, ite_not, if_true, if_false, Bool.false_eq_true]
    exact hmm (d + 38)
  refine (if_neg (by decide)).trans ?_
  refine cV_go (st := mkS w (hI S1) J) ?_ ?_
  · simp only [gI_mk, gJ_mk]
    exact g1 (d + 38)
  rw [← hR]
  have v31 : hI S1 132 31 = zI (S 132 31) := (hI_n S1 132 (a := 31) (by decide)).trans (by rw [e31])
  have u30 : uI (hI S1) 132 30 (zI 0) = hI (uS S1 132 30 0) := hI_un S1 132 (a := 30) _ (by decide)
  by_cases hW : S 132 31 = 16
  · rw [if_pos hW]
    refine (if_pos ?_).trans ?_
    · simp only [gI_mk, gJ_mk, v31, hW, zl]
    · simp only [gI_mk, gJ_mk, zl]
  · rw [if_neg hW]
    refine (if_neg ?_).trans ?_
    · simp only [gI_mk, gJ_mk, v31, zl]
      rw [z_eq (by omega) (by omega) (by decide) (by decide)]
      exact hW
    · simp only [gI_mk, gJ_mk, zl, u30]
theorem m_workN (hT : Tx S 134 B) (h2 : S 132 2 = tp) (ht : 0 ≤ tp ∧ tp ≤ 600) (hn : 0 ≤ n ∧ n ≤ min tp 150) (hP : PM nR nC S P) (hW : P.W = 16) (w : Bool × Bool × Bool) (J : Nat → Nat → Int64) : ∃ S', (∀ d, am_call X aP (d + 40) 195 [.ref 132, .int (zI n)] (mkS w (hI S) J) = some (.inl (some (.int (zI (-20)))), (mkS w (hI S') J))) ∧ Fr [132] S S' ∧ S' 132 8 = -1 ∧ S' 132 2 = 0 ∧ S' 132 0 = 0 ∧ ∀ k, k = 1 ∨ 8 < k → S' 132 k = S 132 k := by
  obtain ⟨n, rfl⟩ : ∃ m : Nat, n = (m : Int) := ⟨n.toNat, by omega⟩
  have h16 : S 132 31 = 16 := by
    rw [hP.1.1, hW]
    rfl
  obtain ⟨S1, g1, g2, g3, g4, g5, g6, g7⟩ := m_wkHead (X := X) hT h2 ht hn.2 (by omega) w J
  refine ⟨uS S1 132 8 (-1), fun d => g7 d _ ?_, Fr_tr g2 (Fr_u S1 (L := [132]) _ _ (by decide)) (fun _ z => z) (fun _ z => z), uS_self _ _ _ _, (uS_ne _ _ (Or.inr (by decide))).trans g3, (uS_ne _ _ (Or.inr (by decide))).trans g5, fun k q => (uS_ne _ _ (Or.inr (by omega))).trans (g6 k q)⟩
  rw [if_pos h16]
  refine cI_go (r := zI 0) (st := mkS w (hI (uS S1 132 8 (-1))) J) (M_result1 (d := d + 37) g1) ?_
  simp only [gI_mk, gJ_mk, rI_d]
theorem m_work (hT : Tx S 134 B) (h2 : S 132 2 = tp) (ht : 0 ≤ tp ∧ tp ≤ 600) (hn : (e : Int) ≤ min tp 150) (hL : LdP S nT nR nC rd) (hN : NwP nR nC S s) (hv : InvS rd nR nC s) (hc : CdP S cd) (hP : PM nR nC S P) (hW : P.W < 16) {out : WOut} (hwf : WfW nC nR 6 (sk B e 0) B e out) (hk9 : ∀ y, out = .inr y → OkN nC nR k 6 y.1) (hmr : ∀ (w : Bool × Bool × Bool) (J : Nat → Nat → Int64) (S : Hp) (p : Nat), Mp S B e p → sk B e p = sk B e 0 → S 132 7 = 0 → S 132 30 = 0 → S 132 18 = nR → S 132 19 = nC → ∃ S', (∀ d f, ∃ f', f ≤ f' ∧ aR X (d + 19) m_X10_work (f + e + 3) 38 [some (.ref 132), none, none, none] (0, 0) (mkS w (hI S) J) = aR X (d + 19) m_X10_work (f' + 1) 47 [some (.ref 132), none, none, none] (0, 0) (mkS w (hI S') J)) ∧ MF S' B e 6 0 out ∧ FR 0 S S') (w : Bool × Bool × Bool) (J : Nat → Nat → Int64) : ∃ S', (∀ f, out = .inl f → am_call X aP (d + 40) 195 [.ref 132, .int (zI ((e : Int)))] (mkS w (hI S) J) = some (.inl (some (.int (zI (f.1 - 10)))), (mkS w (hI S') J)) ∧ S' 132 8 = f.2 ∧ Fr [132, 145] S S' ∧ S' 132 31 = S 132 31 ∧ S' 132 32 = S 132 32) ∧ (∀ y, out = .inr y → am_call X aP (d + 40) 195 [.ref 132, .int (zI ((e : Int)))] (mkS w (hI S) J) = some (.inl (some (.int (zI (((goF cd rd nR nC k y.1 (s, 0, 0, 0)).2.2.1 : Int))))), (mkS w (hI S') J)) ∧ S' 132 8 = -1 ∧ S' 132 32 = ((goF cd rd nR nC k y.1 (s, 0, 0, 0)).2.2.2 : Int) ∧ NwP nR nC S' (goF cd rd nR nC k y.1 (s, 0, 0, 0)).1 ∧ PM nR nC S' (Pwork P s)) ∧ Fr [132, 143, 144, 145, 146, 147, 148, 149, 150] S S' ∧ S' 132 2 = 0 ∧ S' 132 0 = 0 ∧ ∀ k, k = 1 ∨ 8 < k → k < 30 ∨ 35 < k → S' 132 k = S 132 k := by
  obtain ⟨-, l2, l3, -, -, -, r1, r2, r3, r4, r5⟩ := id hL
  have w31 := hP.1.1
  obtain ⟨S1, g1, g2, g3, g4, g5, g6, g7⟩ := m_wkHead (X := X) hT h2 ht hn (by omega) w J
  have g7 := g7 d
  rw [if_neg (by omega)] at g7
  obtain ⟨S3, f1, f2, f3⟩ := hmr w J (uS S1 132 30 0) 0 (Mp_o g1 (fun k k1 k2 => uS_ne _ _ (Or.inr (by omega))) (uS_row _ _ _ (by decide))) rfl ((uS_ne _ _ (Or.inr (by decide))).trans g4) (uS_self _ _ _ _) ((uS_ne _ _ (Or.inr (by decide))).trans ((g6 18 (by decide)).trans l2)) ((uS_ne _ _ (Or.inr (by decide))).trans ((g6 19 (by decide)).trans l3))
  obtain ⟨f', hf9, hf'⟩ := f1 (d + 20) (9999996 - e)
  rw [show 9999996 - e + e + 3 = 9999999 by omega] at hf'
  have e3 : ∀ k, k < 4 ∨ (7 < k ∧ k ≠ 30) → S3 132 k = S1 132 k := fun k q => (f3.2.1 k q).trans (uS_ne _ _ (Or.inr (by omega)))
  have hF3 : Fr [132, 145] S S3 := Fr_tr (Fr_tr g2 (Fr_u S1 (L := [132]) _ _ (by decide)) (fun _ z => z) (fun _ z => z)) f3.1 (by decide) (fun _ z => z)
  cases out with
  | inl f =>
    obtain ⟨hp, h5, h6⟩ := id (show Bd S3 f.1 f.2 from f2)
    refine ⟨uS S3 132 8 f.2, fun f'' hf => ?_, fun x hx => (by cases hx), Fr_tr hF3 (Fr_u S3 (L := [132]) _ _ (by decide)) (by decide) (by decide), ?_, ?_, fun k q q2 => ?_⟩
    · injection hf with hf
      subst hf
      refine ⟨g7 _ (hf'.trans ?_), uS_self _ _ _ _, Fr_tr hF3 (Fr_u S3 (L := [132]) _ _ (by decide)) (fun _ z => z) (by decide), ?_, ?_⟩
      · rw [e_X10_work_47]
        refine cI_go (r := zI (f.1 - 10)) (st := mkS w (hI (uS S3 132 8 f.2)) J) ?_ ?_
        · simp only [zl]
          exact M_result0 (d := d + 37) f2
        simp (disch := omega) only [hk, hu, hI_n, hI_un, z_nat, em_d, zl, z_add, z_sub, z_mul, z_lt, z_eq, gI_mk, gJ_mk, cI_some, cV_some, cJ_some, cI_x, cV_x, cJ_x, uS_self, uS_ne, if_pos, if_neg, b01, b01n, ite_not, if_true, if_false, Bool.false_eq_true, h5, rI_d]
      · rw [uS_ne _ _ (Or.inr (by decide)), e3 31 (by decide)]
        exact g6 31 (by decide)
      · rw [uS_ne _ _ (Or.inr (by decide)), e3 32 (by decide)]
        exact g6 32 (by decide)
    · rw [uS_ne _ _ (Or.inr (by decide)), e3 2 (by decide)]
      exact g3
    · rw [uS_ne _ _ (Or.inr (by decide)), e3 0 (by decide)]
      exact g5
    · rw [uS_ne _ _ (Or.inr (by omega)), e3 k (by omega)]
      exact g6 k q
  | inr y =>
    obtain ⟨⟨p', hM3, -⟩, t2, t3, -⟩ := f2
    obtain ⟨⟨v1, v2, v3, v4, v5⟩, -⟩ := hwf
    have hlen : y.1.length ≤ 150 := by omega
    have hml : 3 * mL y.1 ≤ 150 := by omega
    rw [Nat.zero_add] at t3
    have h5 := hM3.2.2.2.2.2
    have cr : ∀ (T : Hp) (a b : Nat) (m : Int) (o : Nat), o ≠ b → cpS T a b m o = T o := fun T a b m o ho => by
      funext x
      unfold cpS
      rw [if_neg (fun z => ho z.1)]
    have ci : ∀ (T : Hp) (a b : Nat) (m x : Int), 0 ≤ x → x < m → cpS T a b m b x = T a x := fun T a b m x h1 h2 => by
      unfold cpS
      rw [if_pos ⟨rfl, h1, h2⟩]
    have cq : ∀ (T : Hp) (o : Nat), o ≠ 149 → cpy T 147 149 0 (51 * (P.W : Int)) 51 o = T o := fun T o ho => by
      funext x
      unfold cpy
      rw [if_neg (fun z => ho z.1)]
    have hc1 := fun d => m_copies (X := X) (d := d) (w := w) (J := J) (S := uS S3 132 8 (-1)) (o1 := 145) (o2 := 146) (n := ((3 * mL y.1 : Nat) : Int)) (by decide) (by decide) (by decide) (by decide) (by omega) (by rw [show LL 145 = 150 from rfl]; omega) (by rw [show LL 146 = 150 from rfl]; omega) (by omega) (by decide)
    obtain ⟨S5, hS5⟩ : ∃ T, T = cpS (uS S3 132 8 (-1)) 145 146 ((3 * mL y.1 : Nat) : Int) := ⟨_, rfl⟩
    rw [← hS5] at hc1
    have h5o : ∀ o, o ≠ 146 → o ≠ 132 → S5 o = S3 o := fun o q1 q2 => by rw [hS5, cr _ _ _ _ _ q1, uS_row _ _ _ q2]
    have h5k : ∀ k, k ≠ 8 → S5 132 k = S3 132 k := fun k q => by rw [hS5, cr _ _ _ _ _ (by decide), uS_ne _ _ (Or.inr q)]
    have h58 : S5 132 8 = -1 := by rw [hS5, cr _ _ _ _ _ (by decide), uS_self]
    have m5 : MSt S5 146 y.1 0 := MSt_ext y.1 0 (fun x q1 q2 => by rw [hS5, ci _ _ _ _ _ (by omega) (by omega), uS_row _ _ _ (by decide)]) t2
    have h531 : S5 132 31 = (P.W : Int) := by
      rw [h5k 31 (by decide), e3 31 (by decide), g6 31 (by decide)]
      exact w31
    have hpl := m_pastLoop (X := X) (d := d + 39) (w := w) (J := J) (S := S5) (W := (P.W : Int)) (by omega) h531 51 0 (f' - 52) (by omega)
    rw [show f' - 52 + 51 + 1 = f' by omega, cpy_zero] at hpl
    obtain ⟨S6, hS6⟩ : ∃ T, T = cpy S5 147 149 0 (51 * (P.W : Int)) 51 := ⟨_, rfl⟩
    rw [← hS6] at hpl
    have h6o : ∀ o, o ≠ 149 → S6 o = S5 o := fun o q => by rw [hS6, cq _ _ q]
    have h6p : ∀ x, 51 * (P.W : Int) ≤ x → x < 51 * (P.W : Int) + 51 → S6 149 x = S5 147 (x - 51 * (P.W : Int)) := fun x q1 q2 => by
      rw [hS6]
      unfold cpy
      rw [if_pos ⟨rfl, q1, q2⟩, Int.zero_add]
    have h6n : ∀ x, x < 51 * (P.W : Int) → S6 149 x = S5 149 x := fun x q1 => by
      rw [hS6]
      unfold cpy
      rw [if_neg (fun z => by have := z.2.1; omega)]
    have hF5 : Fr [132, 145, 146, 149] S S6 := fun o ho => by
      simp only [List.mem_cons, List.not_mem_nil, or_false, not_or] at ho
      rw [h6o o ho.2.2.2, h5o o ho.2.2.1 ho.1]
      exact hF3 o (by simp only [List.mem_cons, List.not_mem_nil, or_false, not_or]; omega)
    have hk6 : ∀ k, k = 1 ∨ 8 < k → k ≠ 30 → S6 132 k = S 132 k := fun k q q2 => by
      rw [h6o 132 (by decide), h5k k (by omega), e3 k (by omega)]
      exact g6 k q
    have hF7 := FG_rf S6
    obtain ⟨S7, hS7⟩ : ∃ T, T = uS S6 132 31 ((P.W : Int) + 1) := ⟨_, rfl⟩
    have h7o : ∀ o, o ≠ 132 → S7 o = S6 o := fun o q => by rw [hS7, uS_row _ _ _ q]
    have h7k : ∀ k, k ≠ 31 → S7 132 k = S6 132 k := fun k q => by rw [hS7, uS_ne _ _ (Or.inr q)]
    have h731 : S7 132 31 = (P.W : Int) + 1 := by rw [hS7, uS_self]
    have n7 : NwP nR nC S7 s := fun x hx => by
      rw [h7o 147 (by decide), hF5 147 (by decide)]
      exact hN x hx
    obtain ⟨S8, z1, z2, z3⟩ := m_takeP (X := X) (d := d + 37) (w := w) (J := J) n7 r2 r4
    obtain ⟨S9, hS9⟩ : ∃ T, T = uS (uS (uS S8 132 33 0) 132 34 0) 132 35 0 := ⟨_, rfl⟩
    have h9o : ∀ o, o ≠ 132 → S9 o = S8 o := fun o q => by rw [hS9, uS_row _ _ _ q, uS_row _ _ _ q, uS_row _ _ _ q]
    have h9k : ∀ k, k < 33 ∨ 35 < k → S9 132 k = S7 132 k := fun k q => by rw [hS9, uS_ne _ _ (Or.inr (by omega)), uS_ne _ _ (Or.inr (by omega)), uS_ne _ _ (Or.inr (by omega)), z3 132 (by decide)]
    have L9 : LdP S9 nT nR nC rd := LdP_of hL (by rw [h9k 17 (by decide), h7k 17 (by decide)]; exact hk6 17 (by decide) (by decide)) (by rw [h9k 18 (by decide), h7k 18 (by decide)]; exact hk6 18 (by decide) (by decide)) (by rw [h9k 19 (by decide), h7k 19 (by decide)]; exact hk6 19 (by decide) (by decide)) (fun x _ _ => by rw [h9o 137 (by decide), z3 137 (by decide), h7o 137 (by decide), hF5 137 (by decide)])
    have C9 : CdP S9 cd := CdP_of hc (by rw [h9k 26 (by decide), h7k 26 (by decide)]; exact hk6 26 (by decide) (by decide)) (by rw [h9o 141 (by decide), z3 141 (by decide), h7o 141 (by decide), hF5 141 (by decide)]) (by rw [h9o 142 (by decide), z3 142 (by decide), h7o 142 (by decide), hF5 142 (by decide)])
    have s9 : ScP nR nC S9 s := fun x hx => by
      rw [h9o 148 (by decide)]
      exact z2 x hx
    obtain ⟨S10, y1, y2, y3⟩ := m_run (X := X) (d := d + 25) (w := w) (J := J) (n := k) (L := y.1) L9 s9 hv C9 (MSt_ext y.1 0 (fun x _ _ => by rw [h9o 146 (by decide), z3 146 (by decide), h7o 146 (by decide), h6o 146 (by decide)]) m5) hlen hml (hk9 y rfl) (by rw [hS9, uS_ne _ _ (Or.inr (by decide)), uS_ne _ _ (Or.inr (by decide)), uS_self]) (by rw [hS9, uS_ne _ _ (Or.inr (by decide)), uS_self]) (by rw [hS9, uS_self])
    obtain ⟨-, -, b3, b4, b5, b6, b7⟩ := y2
    have hc2 := fun d => m_copies (X := X) (d := d) (w := w) (J := J) (S := S10) (o1 := 148) (o2 := 147) (n := 51) (by decide) (by decide) (by decide) (by decide) (by decide) (by decide) (by decide) (by decide) (by decide)
    obtain ⟨S11, hS11⟩ : ∃ T, T = cpS S10 148 147 51 := ⟨_, rfl⟩
    rw [← hS11] at hc2
    have h11o : ∀ o, o ≠ 147 → S11 o = S10 o := fun o q => by rw [hS11, cr _ _ _ _ _ q]
    have h10o : ∀ o, o ∉ [132, 143, 144, 150, 148] → S10 o = S6 o := fun o q => by
      rw [y3.1 o q]
      simp only [List.mem_cons, List.not_mem_nil, or_false, not_or] at q
      rw [h9o o q.1, z3 o (by rw [List.mem_singleton]; exact q.2.2.2.2), h7o o q.1]
    have h10k : ∀ k, k < 33 ∨ 35 < k → S10 132 k = S7 132 k := fun k q => (y3.2 k q).trans (h9k k q)
    have e10 : S10 132 35 = ((goF cd rd nR nC k y.1 (s, 0, 0, 0)).2.2.2 : Int) := b7
    have e11 : S11 132 35 = ((goF cd rd nR nC k y.1 (s, 0, 0, 0)).2.2.2 : Int) := by rw [h11o 132 (by decide)]; exact b7
    have e12 : S11 132 34 = ((goF cd rd nR nC k y.1 (s, 0, 0, 0)).2.2.1 : Int) := by rw [h11o 132 (by decide)]; exact b6
    refine ⟨uS S11 132 32 ((goF cd rd nR nC k y.1 (s, 0, 0, 0)).2.2.2 : Int), fun f hf => (by cases hf), fun y' hy => ?_, fun o ho => ?_, ?_, ?_, fun x q q2 => ?_⟩
    · injection hy with hy
      subst hy
      refine ⟨g7 _ (hf'.trans ?_), ?_, uS_self _ _ _ _, fun x hx => ?_, ⟨⟨?_, ?_, fun i hi x hx => ?_⟩, ?_⟩⟩
      · rw [e_X10_work_47]
        refine cI_go (r := zI 0) (st := mkS w (hI (uS S3 132 8 (-1))) J) ?_ ?_
        · simp only [zl]
          exact M_result1 (d := d + 37) hM3
        refine (if_pos ?_).trans ?_
        · simp (disch := omega) only [hk, hu, hI_n, hI_un, z_nat, em_d, zl, z_add, z_sub, z_mul, z_lt, z_eq, gI_mk, gJ_mk, cI_some, cV_some, cJ_some, cI_x, cV_x, cJ_x, uS_self, uS_ne, if_pos, if_neg, b01, b01n, ite_not, if_true, if_false, Bool.false_eq_true, h5]
        refine cV_go (st := mkS w (hI S5) J) ?_ ?_
        · simp (disch := omega) only [hk, hu, hI_n, hI_un, z_nat, em_d, zl, z_add, z_sub, z_mul, z_lt, z_eq, gI_mk, gJ_mk, cI_some, cV_some, cJ_some, cI_x, cV_x, cJ_x, uS_self, uS_ne, if_pos, if_neg, b01, b01n, ite_not, if_true, if_false, Bool.false_eq_true, t3]
          exact hc1 (d + 38)
        simp only [gI_mk, gJ_mk, zl]
        refine hpl.trans ?_
        have v31 : hI S6 132 31 = zI (P.W : Int) := (hI_n S6 132 (a := 31) (by decide)).trans (by rw [h6o 132 (by decide), h531])
        have u31 : uI (hI S6) 132 31 (zI ((P.W : Int) + 1)) = hI S7 := by
          rw [hS7]
          exact hI_un S6 132 (a := 31) _ (by decide)
        have u33 : uI (hI S8) 132 33 (zI 0) = hI (uS S8 132 33 0) := hI_un S8 132 (a := 33) _ (by decide)
        have u34 : uI (hI (uS S8 132 33 0)) 132 34 (zI 0) = hI (uS (uS S8 132 33 0) 132 34 0) := hI_un _ 132 (a := 34) _ (by decide)
        have u35 : uI (hI (uS (uS S8 132 33 0) 132 34 0)) 132 35 (zI 0) = hI S9 := by
          rw [hS9]
          exact hI_un _ 132 (a := 35) _ (by decide)
        have v30 : hI S9 132 30 = zI ((3 * mL y.1 : Nat) : Int) := (hI_n S9 132 (a := 30) (by decide)).trans (by rw [h9k 30 (by decide), h7k 30 (by decide), h6o 132 (by decide), h5k 30 (by decide), t3])
        rw [e_X10_work_67]
        refine (if_neg (by decide)).trans ?_
        refine cV_go (st := mkS w (hI S8) J) ?_ ?_
        · simp only [gI_mk, gJ_mk, zl, v31, z_add, u31]
          exact z1
        refine cV_go (st := mkS w (hI S10) J) ?_ ?_
        · simp only [gI_mk, gJ_mk, zl, u33, u34, u35, v30]
          exact y1
        refine cV_go (st := mkS w (hI S11) J) ?_ ?_
        · simp only [gI_mk, gJ_mk, zl]
          exact hc2 (d + 38)
        have v35 : hI S11 132 35 = zI ((goF cd rd nR nC k y.1 (s, 0, 0, 0)).2.2.2 : Int) := (hI_n S11 132 (a := 35) (by decide)).trans (by rw [e11])
        have u32 : uI (hI S11) 132 32 (zI ((goF cd rd nR nC k y.1 (s, 0, 0, 0)).2.2.2 : Int)) = hI (uS S11 132 32 ((goF cd rd nR nC k y.1 (s, 0, 0, 0)).2.2.2 : Int)) := hI_un S11 132 (a := 32) _ (by decide)
        have v34 : hI (uS S11 132 32 ((goF cd rd nR nC k y.1 (s, 0, 0, 0)).2.2.2 : Int)) 132 34 = zI ((goF cd rd nR nC k y.1 (s, 0, 0, 0)).2.2.1 : Int) := (hI_n _ 132 (a := 34) (by decide)).trans (by rw [uS_ne _ _ (Or.inr (by decide)), e12])
        simp only [gI_mk, gJ_mk]
        rw [v35, u32, v34, rI_d]
      · rw [uS_ne _ _ (Or.inr (by decide)), h11o 132 (by decide), h10k 8 (by decide), h7k 8 (by decide), h6o 132 (by decide)]
        exact h58
      · obtain ⟨x1, x2⟩ := Vd_r r2 r4 hx
        rw [uS_ne _ _ (Or.inl (by decide)), hS11, ci _ _ _ _ _ x1 x2]
        exact b3 x hx
      · rw [uS_ne _ _ (Or.inr (by decide)), h11o 132 (by decide), h10k 31 (by decide), h731]
        rfl
      · show P.W + 1 ≤ 16
        omega
      · obtain ⟨x1, x2⟩ := Vd_r r2 r4 hx
        have hi : i < P.W + 1 := hi
        rw [uS_ne _ _ (Or.inl (by decide)), h11o 149 (by decide), h10o 149 (by decide)]
        show S6 149 (51 * (i : Int) + x) = (if i = P.W then s else P.pw i) x
        by_cases ki : i = P.W
        · rw [if_pos ki, ki, h6p _ (by omega) (by omega), show 51 * (P.W : Int) + x - 51 * (P.W : Int) = x by omega, h5o 147 (by decide) (by decide), hF3 147 (by decide)]
          exact hN x hx
        · rw [if_neg ki, h6n _ (by omega), h5o 149 (by decide) (by decide), hF3 149 (by decide)]
          exact hP.1.2.2 i (by omega) x hx
      · have e157 : uS S11 132 32 ((goF cd rd nR nC k y.1 (s, 0, 0, 0)).2.2.2 : Int) 157 = S 157 := by rw [uS_row _ _ _ (by decide), h11o 157 (by decide), h10o 157 (by decide), hF5 157 (by decide)]
        refine ⟨?_, hP.2.2.1, ?_⟩
        · rw [uS_ne _ _ (Or.inr (by decide)), h11o 132 (by decide), h10k 49 (by decide), h7k 49 (by decide), hk6 49 (by decide) (by decide)]
          exact hP.2.1
        · rw [e157]
          exact hP.2.2.2
    · simp only [List.mem_cons, List.not_mem_nil, or_false, not_or] at ho
      rw [uS_row _ _ _ ho.1, h11o o (by omega), h10o o (by simp only [List.mem_cons, List.not_mem_nil, or_false, not_or]; omega), hF5 o (by simp only [List.mem_cons, List.not_mem_nil, or_false, not_or]; omega)]
    · rw [uS_ne _ _ (Or.inr (by decide)), h11o 132 (by decide), h10k 2 (by decide), h7k 2 (by decide), h6o 132 (by decide), h5k 2 (by decide), e3 2 (by decide)]
      exact g3
    · rw [uS_ne _ _ (Or.inr (by decide)), h11o 132 (by decide), h10k 0 (by decide), h7k 0 (by decide), h6o 132 (by decide), h5k 0 (by decide), e3 0 (by decide)]
      exact g5
    · rw [uS_ne _ _ (Or.inr (by omega)), h11o 132 (by decide), h10k x (by omega), h7k x (by omega)]
      exact hk6 x q (by omega)
end WKM
