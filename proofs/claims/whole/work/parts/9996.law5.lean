/-! THE LAW'S TEXT: a unit, all of it -/
section LW5
variable {X : Nat × (Nat → Int32)} {w : Bool × Bool × Bool} {J : Nat → Nat → Int64} {B : Nat → Int} {e r : Nat} {bw : Bool} {F : Nat → LOut}
theorem Psh_1 {k v : Int} (h : k = 0 ∨ (k = 1 ∧ 0 ≤ v ∧ v < 8)) : Psh [(k, v)] := fun rest t ht => by
  rcases h with h | h
  · exact Or.inl ⟨h, ht⟩
  · exact Or.inr (Or.inl ⟨h.1, h.2.1, h.2.2, ht⟩)
abbrev PUq (X : Nat × (Nat → Int32)) (B : Nat → Int) (e : Nat) (bw : Bool) (r q : Nat) : Prop := ∃ out, WfU q B e out ∧ LcC X B e bw 33 (4 * r + 6) r q out ∧ LmC X B e 186 (4 * r + 6) r q out
theorem not_dig {q : Nat} (h : 97 ≤ B q ∧ B q ≤ 122) : ¬ (q < e ∧ isD (B q) = true) := fun z => by
  have := isD_r z.2
  omega
/-- a number -/
theorem unit_D (he : e ≤ 150) {q : Nat} (hqe : q ≤ e) (hqs : sk B e q = q) (k : q < e ∧ isD (B q) = true) : PUq X B e bw r q := by
  have hd := isD_r k.2
  have hpos := dg_pos k
  have n40 : ¬ bt0 B e q = 40 := fun z => by
    have := (bt0_c (by decide)).mp z
    omega
  -- what the reference does up to the number
  have mhead : ∀ (w : Bool × Bool × Bool) (J : Nat → Nat → Int64) (S S1 : Hp) (p d : Nat) (R : aRes), Mp S B e p → sk B e p = q → Mp S1 B e q → (∀ d, am_call X aP (d + 1) 159 [.ref 132] (mkS w (hI S) J) = some (.inl (some (.int (zI (bt0 B e q)))), (mkS w (hI S1) J))) → (cI (am_call X aP (d + (4 * r + 5)) 165 [.ref 132, .int (zI 0), .int (zI 999)] (mkS w (hI S1) J)) (fun r26 s25 => cV (am_call X aP (d + (4 * r + 5)) 180 [.ref 132, .int (nI 0), .int r26] (mkS w (gI s25) (gJ s25))) (fun s27 => rV (mkS w (gI s27) (gJ s27))) (fun e9 s27 => rX e9 (mkS w (gI s27) (gJ s27)))) (fun e9 s25 => rX e9 (mkS w (gI s25) (gJ s25))) = R) → am_call X aP (d + (4 * r + 6)) 186 [.ref 132] (mkS w (hI S) J) = R := fun w J S S1 p d R hM hs hM1 hh hR => by
    have hr := bt0_r (q := q) hM1.1 hM1.2.2.1
    rw [show d + (4 * r + 6) = (d + (4 * r + 5)) + 1 from rfl, go_X10_readUnit, e_X10_readUnit_0]
    refine cI_go (r := zI 1) (st := mkS w (hI S) J) (M_fine1 hM) ?_
    refine (if_neg (by decide)).trans ?_
    refine cI_go (r := zI (bt0 B e q)) (st := mkS w (hI S1) J) (hh _) ?_
    refine (if_neg (by simp only [zl]; rw [z_eq (by omega) (by omega) (by decide) (by decide)]; exact n40)).trans ?_
    refine cI_go (r := zI (bt0 B e q)) (st := mkS w (hI S1) J) (M_hereN hM1 hqs) ?_
    refine cI_go (r := zI 1) (st := mkS w (hI S1) J) ?_ ?_
    · have := m_isDigit (X := X) (d := d + (4 * r + 4)) (w := w) (J := J) hr (hI S1)
      rw [if_pos (bt0_d.mpr k)] at this
      exact this
    refine (if_neg (by decide)).trans ?_
    exact hR
  by_cases k0 : numK B e q 0 999 = 0
  · obtain ⟨-, n1, n2⟩ := numK_0 k0
    refine ⟨.inr ([(0, numV B e q)], sk B e (numE B e q)), ⟨⟨?_, ?_, sk_sk, sk_le (dg_len B e q hqe)⟩, List.cons_ne_nil _ _, Psh_1 (Or.inl rfl)⟩, fun w J S cd hT hK hl => ?_, fun w J S p cd hM hs h7 hK hl => ?_⟩
    · show q < sk B e (numE B e q)
      have := sk_ge (B := B) (e := e) (p := numE B e q)
      omega
    · show 1 + q ≤ sk B e (numE B e q)
      have := sk_ge (B := B) (e := e) (p := numE B e q)
      omega
    · have hb := iW_c bw
      obtain ⟨S1, g1, g2, g3, g4, g5⟩ := T_num1 (X := X) w J hT (lo := 0) (hi := 999) (by decide) (by decide) k0
      obtain ⟨S2, f1, f2, f3, f4, f5⟩ := c_put (X := X) w J (CKl_ft (by omega) hK g5) (by omega) (0, numV B e q)
      refine ⟨S2, fun d => ?_, ⟨Tp_o g2 f3 f4, f2⟩, FW_tr (FW_t g5) f5⟩
      rw [show d + (4 * r + 6) = (d + (4 * r + 5)) + 1 from rfl, go_X3_readUnit, e_X3_readUnit_0]
      refine cI_go (r := zI 1) (st := mkS w (hI S) J) ?_ ?_
      · have := T_digit (X := X) (d := d + (4 * r + 3)) (w := w) (J := J) hT
        rw [if_pos k] at this
        exact this
      refine (if_neg (by decide)).trans ?_
      refine cI_go (r := zI 1) (st := mkS w (hI S1) J) (g1 _) ?_
      refine (if_neg (by decide)).trans ?_
      refine cI_go (r := zI 1) (st := mkS w (hI S2) J) ?_ ?_
      · simp only [gI_mk, gJ_mk, hk, g4]
        exact f1 _
      refine (if_neg (by decide)).trans ?_
      simp (disch := omega) only [hk, hu, hI_n, hI_un, z_nat, em_d, zl, z_add, z_sub, z_mul, z_lt, z_eq, gI_mk, gJ_mk, cI_some, cV_some, cJ_some, cI_x, cV_x, cJ_x, uS_self, uS_ne, if_pos, if_neg, b01, b01n, ite_not, if_true, if_false, Bool.false_eq_true, hLL, rI_d]
      rfl
    · obtain ⟨S1, g1, g2, g3⟩ := M_here (X := X) w J hM
      rw [hs] at g1 g2
      obtain ⟨S2, f1, f2, f3⟩ := M_num1 (X := X) w J g2 hqs (lo := 0) (hi := 999) (by decide) (by decide) k0
      obtain ⟨S3, y1, y2, y3, y4, y5⟩ := m_emit (X := X) w J f2 (MKl_m (MKl_m hK g3) f3) (by omega) (0, numV B e q)
      refine ⟨S3, fun d => mhead w J S S1 p d _ hM hs g2 g1 ?_, ⟨⟨_, y3, rfl⟩, y2, ?_⟩, FZ_tr (FZ_m g3) (FZ_tr (FZ_m f3) y5)⟩
      · refine cI_go (r := zI (numV B e q)) (st := mkS w (hI S2) J) ?_ ?_
        · rw [show d + (4 * r + 5) = (d + (4 * r + 3)) + 2 from rfl]
          exact f1 _
        refine cV_go (st := mkS w (hI S3) J) ?_ ?_
        · simp only [gI_mk, gJ_mk, zl]
          exact y1 (d + (4 * r + 3))
        simp (disch := omega) only [hk, hu, hI_n, hI_un, z_nat, em_d, zl, z_add, z_sub, z_mul, z_lt, z_eq, gI_mk, gJ_mk, cI_some, cV_some, cJ_some, cI_x, cV_x, cJ_x, uS_self, uS_ne, if_pos, if_neg, b01, b01n, ite_not, if_true, if_false, Bool.false_eq_true, rV_d]
      · rw [y4, f3.2 7 (by decide), g3.2 7 (by decide)]
        exact h7
  · refine ⟨.inl (numK B e q 0 999, (q : Int)), trivial, fun w J S cd hT hK hl => ?_, fun w J S p cd hM hs h7 hK hl => ?_⟩
    · have hb := iW_c bw
      obtain ⟨S1, g1, g2, g3⟩ := T_num0 (X := X) w J hT (lo := 0) (hi := 999) (by decide) (by decide) k0
      refine ⟨S1, fun d => ?_, g2, FW_t g3⟩
      rw [show d + (4 * r + 6) = (d + (4 * r + 5)) + 1 from rfl, go_X3_readUnit, e_X3_readUnit_0]
      refine cI_go (r := zI 1) (st := mkS w (hI S) J) ?_ ?_
      · have := T_digit (X := X) (d := d + (4 * r + 3)) (w := w) (J := J) hT
        rw [if_pos k] at this
        exact this
      refine (if_neg (by decide)).trans ?_
      refine cI_go (r := zI 0) (st := mkS w (hI S1) J) (g1 _) ?_
      refine (if_pos rfl).trans ?_
      simp (disch := omega) only [hk, hu, hI_n, hI_un, z_nat, em_d, zl, z_add, z_sub, z_mul, z_lt, z_eq, gI_mk, gJ_mk, cI_some, cV_some, cJ_some, cI_x, cV_x, cJ_x, uS_self, uS_ne, if_pos, if_neg, b01, b01n, ite_not, if_true, if_false, Bool.false_eq_true, hLL, rI_d]
      rfl
    · obtain ⟨S1, g1, g2, g3⟩ := M_here (X := X) w J hM
      rw [hs] at g1 g2
      obtain ⟨S2, f1, f2, f3⟩ := M_num0 (X := X) w J g2 hqs (lo := 0) (hi := 999) (by decide) (by decide) k0
      refine ⟨S2, fun d => mhead w J S S1 p d _ hM hs g2 g1 ?_, f2, FZ_tr (FZ_m g3) (FZ_m f3)⟩
      refine cI_go (r := zI 0) (st := mkS w (hI S2) J) ?_ ?_
      · rw [show d + (4 * r + 5) = (d + (4 * r + 3)) + 2 from rfl]
        exact f1 _
      refine cV_go (st := mkS w (hI S2) J) ?_ ?_
      · simp only [gI_mk, gJ_mk, zl]
        rw [show d + (4 * r + 5) = (d + (4 * r + 3)) + 2 from rfl]
        exact m_emitB f2
      simp (disch := omega) only [hk, hu, hI_n, hI_un, z_nat, em_d, zl, z_add, z_sub, z_mul, z_lt, z_eq, gI_mk, gJ_mk, cI_some, cV_some, cJ_some, cI_x, cV_x, cJ_x, uS_self, uS_ne, if_pos, if_neg, b01, b01n, ite_not, if_true, if_false, Bool.false_eq_true, rV_d]
/-- nothing of the other kinds: a given thing or a fault -/
theorem c_opens1 {S : Hp} (w : Bool × Bool × Bool) (J : Nat → Nat → Int64) {d : Nat} {o : Int} (ho : 0 ≤ o ∧ o < 6) : am_call X aP (d + 2) 34 [.ref (iW bw), .ref 1, .int (zI o)] (mkS w (hI S) J) = some (.inl (some (.int (zI 1))), (mkS w (hI S) J)) := by
  rw [go_X3_opens, e_X3_opens_0]
  simp (disch := omega) only [hk, hu, hI_n, hI_un, z_nat, em_d, zl, z_add, z_sub, z_mul, z_lt, z_eq, gI_mk, gJ_mk, cI_some, cV_some, cJ_some, cI_x, cV_x, cJ_x, uS_self, uS_ne, if_pos, if_neg, b01, b01n, ite_not, if_true, if_false, Bool.false_eq_true, hLL, rI_d]
theorem c_opens0 {S : Hp} (w : Bool × Bool × Bool) (J : Nat → Nat → Int64) {q t : Nat} (h : Tp S B e q) (h4 : S 1 4 = (t : Int)) : ∃ S', (∀ d, am_call X aP (d + 2) 34 [.ref (iW bw), .ref 1, .int (zI 6)] (mkS w (hI S) J) = some (.inl (some (.int (zI 0))), (mkS w (hI S') J))) ∧ (S' 1 6 = 3 ∧ S' 1 7 = (t : Int)) ∧ FT S S' := by
  obtain ⟨S1, g1, g2, g3⟩ := T_failTok (X := X) w J h 3 h4
  refine ⟨S1, fun d => ?_, g2, g3⟩
  rw [go_X3_opens, e_X3_opens_0]
  simp (disch := omega) only [hk, hu, hI_n, hI_un, z_nat, em_d, zl, z_add, z_sub, z_mul, z_lt, z_eq, gI_mk, gJ_mk, cI_some, cV_some, cJ_some, cI_x, cV_x, cJ_x, uS_self, uS_ne, if_pos, if_neg, b01, b01n, ite_not, if_true, if_false, Bool.false_eq_true, hLL]
  rw [g1]
  simp (disch := omega) only [hk, hu, hI_n, hI_un, z_nat, em_d, zl, z_add, z_sub, z_mul, z_lt, z_eq, gI_mk, gJ_mk, cI_some, cV_some, cJ_some, cI_x, cV_x, cJ_x, uS_self, uS_ne, if_pos, if_neg, b01, b01n, ite_not, if_true, if_false, Bool.false_eq_true, hLL, rI_d]
end LW5
