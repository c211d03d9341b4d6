/-! THE CALLS OF work: the class -/
section WKC
variable {X : Nat × (Nat → Int32)} {d : Nat} {w : Bool × Bool × Bool} {S : Hp} {J : Nat → Nat → Int64} {B : Nat → Int} {sz n : Int} {nT nR nC : Int} {rd s : Int → Int} {cd : List (Int × Int)} {P : Pst} {k : Nat}
theorem c_workB (h1 : S 1 1 = sz) (hsz : 0 ≤ sz ∧ sz ≤ 600) (hb : -2147483648 ≤ n ∧ n < 2147483648) (hn : ¬ (0 ≤ n ∧ n ≤ min sz 150)) : am_call X aP (d + 40) 106 [.ref 0, .int (zI n)] (mkS w (hI S) J) = some (.inr 2, (mkS w (hI (xbS S)) J)) := by
  rw [show d + 40 = (d + 39) + 1 from rfl, go_X9_work, e_X9_work_0]
  simp (disch := omega) only [hk, hu, hI_n, hI_un, z_nat, em_d, zl, z_add, z_sub, z_mul, z_lt, z_eq, gI_mk, gJ_mk, cI_some, cV_some, cJ_some, cI_x, cV_x, cJ_x, uS_self, uS_ne, if_pos, if_neg, b01, b01n, ite_not, if_true, if_false, Bool.false_eq_true, hLL]
  rw [c_openText0 (d := d + 36) h1 hsz (by decide) hb hn]
  simp (disch := omega) only [hk, hu, hI_n, hI_un, z_nat, em_d, zl, z_add, z_sub, z_mul, z_lt, z_eq, gI_mk, gJ_mk, cI_some, cV_some, cJ_some, cI_x, cV_x, cJ_x, uS_self, uS_ne, if_pos, if_neg, b01, b01n, ite_not, if_true, if_false, Bool.false_eq_true, hLL, rX_d]
theorem c_workN (w : Bool × Bool × Bool) (J : Nat → Nat → Int64) (hT : Tx S 2 B) (h1 : S 1 1 = sz) (hsz : 0 ≤ sz ∧ sz ≤ 600) (hn : 0 ≤ n ∧ n ≤ min sz 150) (hP : PC nR nC S P) (hW : P.W = 16) : ∃ S', (∀ d, am_call X aP (d + 40) 106 [.ref 0, .int (zI n)] (mkS w (hI S) J) = some (.inl (some (.int (zI (-20)))), (mkS w (hI S') J))) ∧ Fr [0, 1] S S' ∧ S' 1 1 = 0 ∧ S' 0 12 = -1 ∧ ∀ k, k ≠ 12 → S' 0 k = S 0 k := by
  obtain ⟨S1, g1, g2, g3, g4, g5, g6⟩ := c_openText1 (X := X) w J hT h1 hsz (most := 150) (by decide) hn
  have e3 : S1 26 3 = 16 := by
    rw [g3 26 (by decide), hP.1.1, hW]
    rfl
  refine ⟨S1, fun d => ?_, g3, g4, g5, g6⟩
  rw [show d + 40 = (d + 39) + 1 from rfl, go_X9_work, e_X9_work_0]
  refine cV_go (st := mkS w (hI S1) J) ?_ ?_
  · simp only [zl]
    exact g1 (d + 36)
  simp only [gI_mk, gJ_mk]
  rw [show 9999999 = 9999998 + 1 from rfl, e_X9_work_4]
  simp (disch := omega) only [hk, hu, hI_n, hI_un, z_nat, em_d, zl, z_add, z_sub, z_mul, z_lt, z_eq, gI_mk, gJ_mk, cI_some, cV_some, cJ_some, cI_x, cV_x, cJ_x, uS_self, uS_ne, if_pos, if_neg, b01, b01n, ite_not, if_true, if_false, Bool.false_eq_true, hLL, e3, rI_d]
theorem c_work (w : Bool × Bool × Bool) (J : Nat → Nat → Int64) (hT : Tx S 2 B) (h1 : S 1 1 = sz) (hsz : 0 ≤ sz ∧ sz ≤ 600) (hn : 0 ≤ n ∧ n ≤ min sz 150) (hL : CL S (iL w.1) nT nR nC rd) (hrd : Rd nR rd) (hs : CS nR nC S 8 s) (hv : InvS rd nR nC s) (hc : CW S (iW w.2.1) cd) (hP : PC nR nC S P) (hW : P.W < 16) {out : WOut} (hwf : WfW nC nR 6 (sk B n.toNat 0) B n.toNat out) (hk9 : ∀ y, out = .inr y → OkN nC nR k 6 y.1) (hcr : ∀ (w' : Bool × Bool × Bool) (J : Nat → Nat → Int64) (S : Hp), Tp S B n.toNat (sk B n.toNat 0) → S (iL w.1) 7 = nR → S (iL w.1) 8 = nC → ∃ S', (∀ d, am_call X aP (d + 25) 68 [.ref 3, .ref 1, .ref (iL w.1)] (mkS w' (hI S) J) = some (.inl (some (.int (zI (sgW out)))), (mkS w' (hI S') J))) ∧ CF S' B n.toNat 0 out ∧ FC 0 S S') : ∃ S', (∀ f, out = .inl f → am_call X aP (d + 40) 106 [.ref 0, .int (zI n)] (mkS w (hI S) J) = some (.inl (some (.int (zI (f.1 - 10)))), (mkS w (hI S') J)) ∧ S' 0 12 = f.2 ∧ S' 0 13 = S 0 13 ∧ Fr [0, 1, 3, 4, 5, 6] S S') ∧ (∀ y, out = .inr y → am_call X aP (d + 40) 106 [.ref 0, .int (zI n)] (mkS w (hI S) J) = some (.inl (some (.int (zI (((goF cd rd nR nC k y.1 (s, 0, 0, 0)).2.2.1 : Int))))), (mkS w (hI S') J)) ∧ S' 0 12 = -1 ∧ S' 0 13 = ((goF cd rd nR nC k y.1 (s, 0, 0, 0)).2.2.2 : Int) ∧ CS nR nC S' 8 (goF cd rd nR nC k y.1 (s, 0, 0, 0)).1 ∧ InvS rd nR nC (goF cd rd nR nC k y.1 (s, 0, 0, 0)).1 ∧ PC nR nC S' (Pwork P s)) ∧ (∀ o, o ∉ [0, 1, 3, 4, 5, 6, 7, 8, 9, 10, 11, 12, 13, 14, 15, 26, iW w.2.1 + 3, iW w.2.1 + 4, 28 + P.W] → S' o = S o) ∧ S' 1 1 = 0 ∧ ∀ k, k ≠ 12 → k ≠ 13 → S' 0 k = S 0 k := by
  have hlc := iL_c w.1
  have hwc := iW_c w.2.1
  obtain ⟨-, l7, l8, -, -, -, r1, r2, r3, r4, -⟩ := id hL
  obtain ⟨S1, g1, g2, g3, g4, g5, g6⟩ := c_openText1 (X := X) w J hT h1 hsz (most := 150) (by decide) hn
  obtain ⟨S2, f1, f2, f3⟩ := hcr w J S1 g2 (by rw [g3 _ (by simp only [List.mem_cons, List.not_mem_nil, or_false]; omega)]; exact l7) (by rw [g3 _ (by simp only [List.mem_cons, List.not_mem_nil, or_false]; omega)]; exact l8)
  have hF2 : Fr [0, 1, 3, 4, 5, 6] S S2 := Fr_tr g3 f3.1 (by decide) (by decide)
  have e0 : S2 0 = S1 0 := f3.1 0 (by decide)
  have e11 : S2 1 1 = 0 := (f3.2.1 1 (by decide)).trans g4
  have e3 : S1 26 3 = (P.W : Int) := by rw [g3 26 (by decide)]; exact hP.1.1
  cases out with
  | inl f =>
    obtain ⟨y1, y2⟩ := f2
    refine ⟨uS S2 0 12 f.2, fun f' hf => ?_, fun x hx => (by cases hx), fun o ho => ?_, (uS_ne _ _ (Or.inl (by decide))).trans e11, fun k q q2 => by rw [uS_ne _ _ (Or.inr q), e0]; exact g6 k q⟩
    · injection hf with hf
      subst hf
      refine ⟨?_, uS_self _ _ _ _, ?_, Fr_tr hF2 (Fr_u S2 (L := [0]) _ _ (by decide)) (fun _ z => z) (by decide)⟩
      · rw [show d + 40 = (d + 39) + 1 from rfl, go_X9_work, e_X9_work_0]
        refine cV_go (st := mkS w (hI S1) J) ?_ ?_
        · simp only [zl]
          exact g1 (d + 36)
        simp only [gI_mk, gJ_mk]
        rw [show 9999999 = 9999998 + 1 from rfl, e_X9_work_4]
        refine (if_pos ?_).trans ?_
        · simp (disch := omega) only [hk, hu, hI_n, hI_un, z_nat, em_d, zl, z_add, z_sub, z_mul, z_lt, z_eq, gI_mk, gJ_mk, cI_some, cV_some, cJ_some, cI_x, cV_x, cJ_x, uS_self, uS_ne, if_pos, if_neg, b01, b01n, ite_not, if_true, if_false, Bool.false_eq_true, hLL, e3]
          omega
        refine cI_go (r := zI 0) (st := mkS w (hI S2) J) (f1 (d + 14)) ?_
        refine (if_pos rfl).trans ?_
        refine cI_go (r := zI (f.1 - 10)) (st := mkS w (hI (uS S2 0 12 f.2)) J) ?_ ?_
        · simp only [gI_mk, gJ_mk]
          exact c_faulty (d := d + 38) y1 y2
        simp only [gI_mk, gJ_mk, rI_d]
      · rw [uS_ne _ _ (Or.inr (by decide)), e0]
        exact g6 13 (by decide)
    · simp only [List.mem_cons, List.not_mem_nil, or_false, not_or] at ho
      rw [uS_row _ _ _ ho.1]
      exact hF2 o (by simp only [List.mem_cons, List.not_mem_nil, or_false, not_or]; omega)
  | inr y =>
    obtain ⟨t1, t2, t3⟩ := f2
    obtain ⟨⟨v1, v2, v3, v4, v5⟩, -⟩ := hwf
    have hlen : y.1.length ≤ 150 := by omega
    rw [Nat.zero_add] at t3
    have hs2 : CS nR nC S2 8 s := CS_fr hs hF2 (fun i hi => by simp only [List.mem_cons, List.not_mem_nil, or_false]; omega)
    have hP2 : PC nR nC S2 P := PC_of hP (by rw [hF2 26 (by decide)]) (by rw [hF2 26 (by decide)]) (fun o o1 o2 => hF2 o (by simp only [List.mem_cons, List.not_mem_nil, or_false]; omega))
    obtain ⟨S3, q1, q2, q3, q4⟩ := c_keepWork (X := X) (d := d + 37) (w := w) (J := J) r2 r4 hs2 hP2 hW
    have hF3 : Fr [0, 1, 3, 4, 5, 6, 26, 28 + P.W] S S3 := Fr_tr hF2 q3 (by simp only [List.mem_cons, List.not_mem_nil, or_false]; omega) (by simp only [List.mem_cons, List.not_mem_nil, or_false]; omega)
    have h3i : ∀ o, o < 8 → S3 o = S2 o := fun o ho => q3 o (by simp only [List.mem_cons, List.not_mem_nil, or_false]; omega)
    obtain ⟨S4, z1, z2, z3⟩ := c_run (X := X) (d := d + 32) (w := w) (J := J) (bl := w.1) (bs := false) (bw := w.2.1) (S := S3) (s := s) (cd := cd) (n := k) (L := y.1) (CL_fr hL hF3 (fun i hi => by simp only [List.mem_cons, List.not_mem_nil, or_false]; omega)) (CS_fr hs hF3 (fun i hi => by show ¬ (8 + i) ∈ _; simp only [List.mem_cons, List.not_mem_nil, or_false]; omega)) hv (CW_fr hc hF3 (fun i hi => by simp only [List.mem_cons, List.not_mem_nil, or_false]; omega)) r2 ⟨r3, r4⟩ hrd (CSt_ext y.1 0 (fun j _ _ => by rw [h3i 4 (by decide), h3i 5 (by decide), h3i 6 (by decide)]; exact ⟨rfl, rfl, rfl⟩) t2) (by rw [h3i 3 (by decide)]; exact t3) hlen (hk9 y rfl)
    obtain ⟨-, -, b3, b4, b5, b6, -⟩ := z2
    have dsn : ∀ o, o ∈ 3 :: 7 :: dsL w.2.1 false → o ∈ [3, 7, 8, 9, 10, 11, 12, 13, 14, 15, iW w.2.1 + 3, iW w.2.1 + 4] := fun o ho => by
      have hi8 : iS false = 8 := rfl
      simp only [List.mem_cons, List.not_mem_nil, or_false, hi8] at ho ⊢
      omega
    have z3 := Fr_mono z3 dsn
    have k0 : S4 0 = S1 0 := by
      rw [z3 0 (by simp only [List.mem_cons, List.not_mem_nil, or_false]; omega), h3i 0 (by decide)]
      exact e0
    have hP4 : PC nR nC S4 (Pwork P s) := PC_of q2 (by rw [z3 26 (by simp only [List.mem_cons, List.not_mem_nil, or_false]; omega)]) (by rw [z3 26 (by simp only [List.mem_cons, List.not_mem_nil, or_false]; omega)]) (fun o o1 o2 => z3 o (by simp only [List.mem_cons, List.not_mem_nil, or_false]; omega))
    refine ⟨uS S4 0 13 ((goF cd rd nR nC k y.1 (s, 0, 0, 0)).2.2.2 : Int), fun f hf => (by cases hf), fun y' hy => ?_, fun o ho => ?_, ?_, fun x q q9 => ?_⟩
    · injection hy with hy
      subst hy
      refine ⟨?_, ?_, uS_self _ _ _ _, CS_fr b3 (Fr_u S4 (L := [0]) _ _ (by decide)) (fun i hi => by show ¬ (8 + i) ∈ _; simp only [List.mem_cons, List.not_mem_nil, or_false]; omega), b4, PC_of hP4 (uS_ne _ _ (Or.inl (by decide))) (uS_ne _ _ (Or.inl (by decide))) (fun o o1 o2 => uS_row _ _ _ (by omega))⟩
      · rw [show d + 40 = (d + 39) + 1 from rfl, go_X9_work, e_X9_work_0]
        refine cV_go (st := mkS w (hI S1) J) ?_ ?_
        · simp only [zl]
          exact g1 (d + 36)
        simp only [gI_mk, gJ_mk]
        rw [show 9999999 = 9999998 + 1 from rfl, e_X9_work_4]
        refine (if_pos ?_).trans ?_
        · simp (disch := omega) only [hk, hu, hI_n, hI_un, z_nat, em_d, zl, z_add, z_sub, z_mul, z_lt, z_eq, gI_mk, gJ_mk, cI_some, cV_some, cJ_some, cI_x, cV_x, cJ_x, uS_self, uS_ne, if_pos, if_neg, b01, b01n, ite_not, if_true, if_false, Bool.false_eq_true, hLL, e3]
          omega
        refine cI_go (r := zI 1) (st := mkS w (hI S2) J) (f1 (d + 14)) ?_
        refine (if_neg (by decide)).trans ?_
        refine cV_go (st := mkS w (hI S3) J) ?_ ?_
        · simp only [gI_mk, gJ_mk]
          exact q1
        refine cV_go (st := mkS w (hI S4) J) ?_ ?_
        · simp only [gI_mk, gJ_mk]
          exact z1
        have u13 : uI (hI S4) 0 13 (zI ((goF cd rd nR nC k y.1 (s, 0, 0, 0)).2.2.2 : Int)) = hI (uS S4 0 13 ((goF cd rd nR nC k y.1 (s, 0, 0, 0)).2.2.2 : Int)) := hI_un S4 0 (a := 13) _ (by decide)
        have v37 : hI S4 3 7 = zI ((goF cd rd nR nC k y.1 (s, 0, 0, 0)).2.2.2 : Int) := (hI_n S4 3 (a := 7) (by decide)).trans (by rw [b6])
        have v36 : hI (uS S4 0 13 ((goF cd rd nR nC k y.1 (s, 0, 0, 0)).2.2.2 : Int)) 3 6 = zI ((goF cd rd nR nC k y.1 (s, 0, 0, 0)).2.2.1 : Int) := (hI_n _ 3 (a := 6) (by decide)).trans (by rw [uS_ne _ _ (Or.inl (by decide)), b5])
        simp only [gI_mk, gJ_mk]
        rw [v37, u13, v36, rI_d]
      · rw [uS_ne _ _ (Or.inr (by decide)), k0]
        exact g5
    · simp only [List.mem_cons, List.not_mem_nil, or_false, not_or] at ho
      rw [uS_row _ _ _ ho.1, z3 o (by simp only [List.mem_cons, List.not_mem_nil, or_false, not_or]; omega)]
      exact hF3 o (by simp only [List.mem_cons, List.not_mem_nil, or_false, not_or]; omega)
    · rw [uS_ne _ _ (Or.inl (by decide)), z3 1 (by simp only [List.mem_cons, List.not_mem_nil, or_false]; omega), h3i 1 (by decide)]
      exact e11
    · rw [uS_ne _ _ (Or.inr q9), k0]
      exact g6 x q
end WKC
