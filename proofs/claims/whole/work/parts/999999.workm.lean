/-! THE CALLS OF work: the reference -/
section WKM
variable {X : Nat × (Nat → Int32)} {d : Nat} {w : Bool × Bool × Bool} {S : Hp} {J : Nat → Nat → Int64} {B : Nat → Int} {e : Nat} {tp n : Int} {nT nR nC : Int} {rd s : Int → Int} {cd : List (Int × Int)} {P : Pst} {k : Nat}
theorem m_workB (h2 : S 132 2 = tp) (hb : -2147483648 ≤ n ∧ n < 2147483648) (ht : 0 ≤ tp ∧ tp ≤ 600) (hn : ¬ (0 ≤ n ∧ n ≤ min tp 150)) : am_call X aP (d + 9) 195 [.ref 132, .int (zI n)] (mkS w (hI S) J) = some (.inl (some (.int (zI 0))), (mkS w (hI (mxB S 1)) J)) := by
  have hmm := fun d => m_may0 (X := X) (d := d) (w := w) (J := J) (S := uS S 132 0 0) (uS_self _ _ _ _) (cd := 1) (k := 1) (by decide) (by decide)
  rw [go_X10_work, e_X10_work_0]
  by_cases q1 : n < 0
  · refine (if_pos ?_).trans ?_
    · simp (disch := omega) only [hk, hu, hI_n, hI_un, z_nat, em_d, zl, z_add, z_sub, z_mul, z_lt, z_eq, gI_mk, gJ_mk, cI_some, cV_some, cJ_some, cI_x, cV_x, cJ_x, uS_self, uS_ne, if_pos, if_neg, b01, b01n, ite_not, if_true, if_false, Bool.false_eq_true]
      exact q1
    refine cI_go (r := zI 0) (st := mkS w (hI (mxB S 1)) J) ?_ ?_
    · simp (disch := omega) only [hk, hu, hI_n, hI_un, z_nat, em_d, zl, z_add, z_sub, z_mul, z_lt, z_eq, gI_mk, gJ_mk, cI_some, cV_some, cJ_some, cI_x, cV_x, cJ_x, uS_self, uS_ne, if_pos, if_neg, b01, b01n, ite_not, if_true, if_false, Bool.false_eq_true]
      exact hmm _
    simp (disch := omega) only [hk, hu, hI_n, hI_un, z_nat, em_d, zl, z_add, z_sub, z_mul, z_lt, z_eq, gI_mk, gJ_mk, cI_some, cV_some, cJ_some, cI_x, cV_x, cJ_x, uS_self, uS_ne, if_pos, if_neg, b01, b01n, ite_not, if_true, if_false, Bool.false_eq_true, rI_d]
  · refine (if_neg ?_).trans ?_
    · simp (disch := omega) only [hk, hu, hI_n, hI_un, z_nat, em_d, zl, z_add, z_sub, z_mul, z_lt, z_eq, gI_mk, gJ_mk, cI_some, cV_some, cJ_some, cI_x, cV_x, cJ_x, uS_self, uS_ne, if_pos, if_neg, b01, b01n, ite_not, if_true, if_false, Bool.false_eq_true]
      exact q1
    by_cases q2 : tp < n
    · refine (if_pos ?_).trans ?_
      · simp (disch := omega) only [hk, hu, hI_n, hI_un, z_nat, em_d, zl, z_add, z_sub, z_mul, z_lt, z_eq, gI_mk, gJ_mk, cI_some, cV_some, cJ_some, cI_x, cV_x, cJ_x, uS_self, uS_ne, if_pos, if_neg, b01, b01n, ite_not, if_true, if_false, Bool.false_eq_true, h2]
        exact q2
      refine cI_go (r := zI 0) (st := mkS w (hI (mxB S 1)) J) ?_ ?_
      · simp (disch := omega) only [hk, hu, hI_n, hI_un, z_nat, em_d, zl, z_add, z_sub, z_mul, z_lt, z_eq, gI_mk, gJ_mk, cI_some, cV_some, cJ_some, cI_x, cV_x, cJ_x, uS_self, uS_ne, if_pos, if_neg, b01, b01n, ite_not, if_true, if_false, Bool.false_eq_true]
        exact hmm _
      simp (disch := omega) only [hk, hu, hI_n, hI_un, z_nat, em_d, zl, z_add, z_sub, z_mul, z_lt, z_eq, gI_mk, gJ_mk, cI_some, cV_some, cJ_some, cI_x, cV_x, cJ_x, uS_self, uS_ne, if_pos, if_neg, b01, b01n, ite_not, if_true, if_false, Bool.false_eq_true, rI_d]
    · refine (if_neg ?_).trans ?_
      · simp (disch := omega) only [hk, hu, hI_n, hI_un, z_nat, em_d, zl, z_add, z_sub, z_mul, z_lt, z_eq, gI_mk, gJ_mk, cI_some, cV_some, cJ_some, cI_x, cV_x, cJ_x, uS_self, uS_ne, if_pos, if_neg, b01, b01n, ite_not, if_true, if_false, Bool.false_eq_true, h2]
        exact q2
      refine (if_pos ?_).trans ?_
      · simp (disch := omega) only [hk, hu, hI_n, hI_un, z_nat, em_d, zl, z_add, z_sub, z_mul, z_lt, z_eq, gI_mk, gJ_mk, cI_some, cV_some, cJ_some, cI_x, cV_x, cJ_x, uS_self, uS_ne, if_pos, if_neg, b01, b01n, ite_not, if_true, if_false, Bool.false_eq_true]
        omega
      refine cI_go (r := zI 0) (st := mkS w (hI (mxB S 1)) J) ?_ ?_
      · simp (disch := omega) only [hk, hu, hI_n, hI_un, z_nat, em_d, zl, z_add, z_sub, z_mul, z_lt, z_eq, gI_mk, gJ_mk, cI_some, cV_some, cJ_some, cI_x, cV_x, cJ_x, uS_self, uS_ne, if_pos, if_neg, b01, b01n, ite_not, if_true, if_false, Bool.false_eq_true]
        exact hmm _
      simp (disch := omega) only [hk, hu, hI_n, hI_un, z_nat, em_d, zl, z_add, z_sub, z_mul, z_lt, z_eq, gI_mk, gJ_mk, cI_some, cV_some, cJ_some, cI_x, cV_x, cJ_x, uS_self, uS_ne, if_pos, if_neg, b01, b01n, ite_not, if_true, if_false, Bool.false_eq_true, rI_d]
theorem m_wkHead (hT : Tx S 134 B) (h2 : S 132 2 = tp) (ht : 0 ≤ tp ∧ tp ≤ 600) (he : (e : Int) ≤ min tp 150) (h31 : 0 ≤ S 132 31 ∧ S 132 31 ≤ 16) (w : Bool × Bool × Bool) (J : Nat → Nat → Int64) : ∃ S1, Mp S1 B e 0 ∧ Fr [132] S S1 ∧ S1 132 2 = 0 ∧ S1 132 7 = 0 ∧ S1 132 0 = 0 ∧ (∀ k, k = 1 ∨ 8 < k → S1 132 k = S 132 k) ∧ ∀ d R, (if S 132 31 = 16 then (cI (am_call X aP (d + 39) 169 [.ref 132, .int (zI 0)] (mkS w (hI S1) J)) (fun r5 s4 => rI (zI (-20)) (mkS w (gI s4) (gJ s4))) (fun e9 s4 => rX e9 (mkS w (gI s4) (gJ s4)))) else aR X (d + 39) m_X10_work 9999999 38 [some (.ref 132), none, none, none] (0, 0) (mkS w (hI (uS S1 132 30 0)) J)) = R → am_call X aP (d + 40) 195 [.ref 132, .int (zI ((e : Int)))] (mkS w (hI S) J) = R := by
  obtain ⟨S1, g1, g2, g3, g4, g5, g6⟩ := M_begins (X := X) (S := uS S 132 0 0) (B := B) (e := e) w J ⟨fun k hk9 => by rw [uS_row _ _ _ (by decide)]; exact hT.1 k hk9, hT.2⟩ (by omega)
  have hmm := fun d => m_may1 (X := X) (d := d) (w := w) (J := J) (S := uS S 132 0 0) (uS_self _ _ _ _) 1 1
  have e31 : S1 132 31 = S 132 31 := by rw [g6 31 (by decide), uS_ne _ _ (Or.inr (by decide))]
  refine ⟨S1, g2, Fr_tr (Fr_u S (L := [132]) 0 0 (by decide)) g3 (fun _ z => z) (fun _ z => z), g4, g5, by rw [g6 0 (by decide), uS_self], fun k q => by rw [g6 k (by omega), uS_ne _ _ (Or.inr (by omega))], fun d R hR => ?_⟩
  rw [show d + 40 = (d + 39) + 1 from rfl, go_X10_work, e_X10_work_0]
  refine (if_neg ?_).trans ?_
  · simp (disch := omega) only [hk, hu, hI_n, hI_un, z_nat, em_d, zl, z_add, z_sub, z_mul, z_lt, z_eq, gI_mk, gJ_mk, cI_some, cV_some, cJ_some, cI_x, cV_x, cJ_x, uS_self, uS_ne, if_pos, if_neg, b01, b01n, ite_not, if_true, if_false, Bool.false_eq_true]
    omega
  refine (if_neg ?_).trans ?_
  · simp (disch := omega) only [hk, hu, hI_n, hI_un, z_nat, em_d, zl, z_add, z_sub, z_mul, z_lt, z_eq, gI_mk, gJ_mk, cI_some, cV_some, cJ_some, cI_x, cV_x, cJ_x, uS_self, uS_ne, if_pos, if_neg, b01, b01n, ite_not, if_true, if_false, Bool.false_eq_true, h2]
    omega
  refine (if_neg ?_).trans ?_
  · simp (disch := omega) only [hk, hu, hI_n, hI_un, z_nat, em_d, zl, z_add, z_sub, z_mul, z_lt, z_eq, gI_mk, gJ_mk, cI_some, cV_some, cJ_some, cI_x, cV_x, cJ_x, uS_self, uS_ne, if_pos, if_neg, b01, b01n, ite_not, if_true, if_false, Bool.false_eq_true]
    omega
  refine cI_go (r := zI 1) (st := mkS w (hI (uS S 132 0 0)) J) ?_ ?_
  · simp (disch := omega) only [hk, hu, hI_n, hI_un, z_nat, em_d, zl, z_add, z_sub, z_mul, z_lt, z_eq, gI_mk, gJ_mk, cI_some, cV_some, cJ_some, cI_x, cV_x, cJ_x, uS_self, uS_ne, if_pos, if_neg, b01, b01n, ite_not, if_true, if_false, Bool.false_eq_true]
    exact hmm (d + 38)
  refine (if_neg (by decide)).trans ?_
  refine cV_go (st := mkS w (hI S1) J) ?_ ?_
  · simp only [gI_mk, gJ_mk]
    exact g1 (d + 38)
  rw [← hR]
  have v31 : hI S1 132 31 = zI (S 132 31) := (hI_n S1 132 (a := 31) (by decide)).trans (by rw [e31])
  have u30 : uI (hI S1) 132 30 (zI 0) = hI (uS S1 132 30 0) := hI_un S1 132 (a := 30) _ (by decide)
  by_cases hW : S 132 31 = 16
  · rw [if_pos hW]
    refine (if_pos ?_).trans ?_
    · simp only [gI_mk, gJ_mk, v31, hW, zl]
    · simp only [gI_mk, gJ_mk, zl]
  · rw [if_neg hW]
    refine (if_neg ?_).trans ?_
    · simp only [gI_mk, gJ_mk, v31, zl]
      rw [z_eq (by omega) (by omega) (by decide) (by decide)]
      exact hW
    · simp only [gI_mk, gJ_mk, zl, u30]
theorem m_workN (hT : Tx S 134 B) (h2 : S 132 2 = tp) (ht : 0 ≤ tp ∧ tp ≤ 600) (hn : 0 ≤ n ∧ n ≤ min tp 150) (hP : PM nR nC S P) (hW : P.W = 16) (w : Bool × Bool × Bool) (J : Nat → Nat → Int64) : ∃ S', (∀ d, am_call X aP (d + 40) 195 [.ref 132, .int (zI n)] (mkS w (hI S) J) = some (.inl (some (.int (zI (-20)))), (mkS w (hI S') J))) ∧ Fr [132] S S' ∧ S' 132 8 = -1 ∧ S' 132 2 = 0 ∧ S' 132 0 = 0 ∧ ∀ k, k = 1 ∨ 8 < k → S' 132 k = S 132 k := by
  obtain ⟨n, rfl⟩ : ∃ m : Nat, n = (m : Int) := ⟨n.toNat, by omega⟩
  have h16 : S 132 31 = 16 := by
    rw [hP.1.1, hW]
    rfl
  obtain ⟨S1, g1, g2, g3, g4, g5, g6, g7⟩ := m_wkHead (X := X) hT h2 ht hn.2 (by omega) w J
  refine ⟨uS S1 132 8 (-1), fun d => g7 d _ ?_, Fr_tr g2 (Fr_u S1 (L := [132]) _ _ (by decide)) (fun _ z => z) (fun _ z => z), uS_self _ _ _ _, (uS_ne _ _ (Or.inr (by decide))).trans g3, (uS_ne _ _ (Or.inr (by decide))).trans g5, fun k q => (uS_ne _ _ (Or.inr (by omega))).trans (g6 k q)⟩
  rw [if_pos h16]
  refine cI_go (r := zI 0) (st := mkS w (hI (uS S1 132 8 (-1))) J) (M_result1 (d := d + 37) g1) ?_
  simp only [gI_mk, gJ_mk, rI_d]
theorem m_work (hT : Tx S 134 B) (h2 : S 132 2 = tp) (ht : 0 ≤ tp ∧ tp ≤ 600) (hn : (e : Int) ≤ min tp 150) (hL : LdP S nT nR nC rd) (hN : NwP nR nC S s) (hv : InvS rd nR nC s) (hc : CdP S cd) (hP : PM nR nC S P) (hW : P.W < 16) {out : WOut} (hwf : WfW nC nR 6 (sk B e 0) B e out) (hk9 : ∀ y, out = .inr y → OkN nC nR k 6 y.1) (hmr : ∀ (w : Bool × Bool × Bool) (J : Nat → Nat → Int64) (S : Hp) (p : Nat), Mp S B e p → sk B e p = sk B e 0 → S 132 7 = 0 → S 132 30 = 0 → S 132 18 = nR → S 132 19 = nC → ∃ S', (∀ d f, ∃ f', aR X (d + 19) m_X10_work (f + e + 3) 38 [some (.ref 132), none, none, none] (0, 0) (mkS w (hI S) J) = aR X (d + 19) m_X10_work (f' + 1) 47 [some (.ref 132), none, none, none] (0, 0) (mkS w (hI S') J)) ∧ MF S' B e 6 0 out ∧ FR 0 S S') (w : Bool × Bool × Bool) (J : Nat → Nat → Int64) : ∃ S', (∀ f, out = .inl f → am_call X aP (d + 40) 195 [.ref 132, .int (zI ((e : Int)))] (mkS w (hI S) J) = some (.inl (some (.int (zI (f.1 - 10)))), (mkS w (hI S') J)) ∧ S' 132 8 = f.2 ∧ Fr [132, 145] S S' ∧ S' 132 31 = S 132 31 ∧ S' 132 32 = S 132 32) ∧ (∀ y, out = .inr y → am_call X aP (d + 40) 195 [.ref 132, .int (zI ((e : Int)))] (mkS w (hI S) J) = some (.inl (some (.int (zI (((goF cd rd nR nC k y.1 (s, 0, 0, 0)).2.2.1 : Int))))), (mkS w (hI S') J)) ∧ S' 132 8 = -1 ∧ S' 132 32 = ((goF cd rd nR nC k y.1 (s, 0, 0, 0)).2.2.2 : Int) ∧ NwP nR nC S' (goF cd rd nR nC k y.1 (s, 0, 0, 0)).1 ∧ PM nR nC S' (Pwork P s)) ∧ Fr [132, 143, 144, 145, 146, 147, 148, 149, 150] S S' ∧ S' 132 2 = 0 ∧ S' 132 0 = 0 ∧ ∀ k, k = 1 ∨ 8 < k → k < 30 ∨ 35 < k → S' 132 k = S 132 k := by
  obtain ⟨-, l2, l3, -, -, -, r1, r2, r3, r4, r5⟩ := id hL
  have w31 := hP.1.1
  obtain ⟨S1, g1, g2, g3, g4, g5, g6, g7⟩ := m_wkHead (X := X) hT h2 ht hn (by omega) w J
  have g7 := g7 d
  rw [if_neg (by omega)] at g7
  obtain ⟨S3, f1, f2, f3⟩ := hmr w J (uS S1 132 30 0) 0 (Mp_o g1 (fun k k1 k2 => uS_ne _ _ (Or.inr (by omega))) (uS_row _ _ _ (by decide))) rfl ((uS_ne _ _ (Or.inr (by decide))).trans g4) (uS_self _ _ _ _) ((uS_ne _ _ (Or.inr (by decide))).trans ((g6 18 (by decide)).trans l2)) ((uS_ne _ _ (Or.inr (by decide))).trans ((g6 19 (by decide)).trans l3))
  obtain ⟨f', hf'⟩ := f1 (d + 20) (9999996 - e)
  rw [show 9999996 - e + e + 3 = 9999999 by omega] at hf'
  have e3 : ∀ k, k < 4 ∨ (7 < k ∧ k ≠ 30) → S3 132 k = S1 132 k := fun k q => (f3.2.1 k q).trans (uS_ne _ _ (Or.inr (by omega)))
  have hF3 : Fr [132, 145] S S3 := Fr_tr (Fr_tr g2 (Fr_u S1 (L := [132]) _ _ (by decide)) (fun _ z => z) (fun _ z => z)) f3.1 (by decide) (fun _ z => z)
  cases out with
  | inl f =>
    obtain ⟨hp, h5, h6⟩ := id (show Bd S3 f.1 f.2 from f2)
    refine ⟨uS S3 132 8 f.2, fun f'' hf => ?_, fun x hx => (by cases hx), Fr_tr hF3 (Fr_u S3 (L := [132]) _ _ (by decide)) (by decide) (by decide), ?_, ?_, fun k q q2 => ?_⟩
    · injection hf with hf
      subst hf
      refine ⟨g7 _ (hf'.trans ?_), uS_self _ _ _ _, Fr_tr hF3 (Fr_u S3 (L := [132]) _ _ (by decide)) (fun _ z => z) (by decide), ?_, ?_⟩
      · rw [e_X10_work_47]
        refine cI_go (r := zI (f.1 - 10)) (st := mkS w (hI (uS S3 132 8 f.2)) J) ?_ ?_
        · simp only [zl]
          exact M_result0 (d := d + 37) f2
        simp (disch := omega) only [hk, hu, hI_n, hI_un, z_nat, em_d, zl, z_add, z_sub, z_mul, z_lt, z_eq, gI_mk, gJ_mk, cI_some, cV_some, cJ_some, cI_x, cV_x, cJ_x, uS_self, uS_ne, if_pos, if_neg, b01, b01n, ite_not, if_true, if_false, Bool.false_eq_true, h5, rI_d]
      · rw [uS_ne _ _ (Or.inr (by decide)), e3 31 (by decide)]
        exact g6 31 (by decide)
      · rw [uS_ne _ _ (Or.inr (by decide)), e3 32 (by decide)]
        exact g6 32 (by decide)
    · rw [uS_ne _ _ (Or.inr (by decide)), e3 2 (by decide)]
      exact g3
    · rw [uS_ne _ _ (Or.inr (by decide)), e3 0 (by decide)]
      exact g5
    · rw [uS_ne _ _ (Or.inr (by omega)), e3 k (by omega)]
      exact g6 k q
  | inr y =>
    sorry
end WKM
