/-! THE WORK'S TEXT: each kind of step -/
abbrev PG (X : Nat × (Nat → Int32)) (B : Nat → Int) (e : Nat) (bl : Bool) (nc nr : Int) (r q : Nat) : Prop := ∃ out, WfW nc nr r q B e out ∧ CcS X B e bl nc nr 70 (3 * r + 5) r q out ∧ MrS X B e nc nr r q out
theorem bk_sgW : ∀ out : WOut, bok (zI (sgW out)) = true
  | .inl _ => z_bok0
  | .inr _ => z_bok1
theorem iL_n1 (bl : Bool) : iL bl ∉ [1, 3, 4, 5, 6] := by cases bl <;> decide
section WK2
variable {X : Nat × (Nat → Int32)} {d : Nat} {w : Bool × Bool × Bool} {S : Hp} {J : Nat → Nat → Int64} {B : Nat → Int} {e p q i j r : Nat} {nc nr : Int} {bl : Bool}
theorem FT_iL {S S' : Hp} (h : FT S S') (bl : Bool) : S' (iL bl) = S (iL bl) := h.1 _ (fun z => iL_n1 bl (by rw [List.mem_singleton.mp z]; decide))
theorem FC_iL {S S' : Hp} (h : FC i S S') (bl : Bool) : S' (iL bl) = S (iL bl) := h.1 _ (iL_n1 bl)
theorem stp_set (he : e ≤ 150) (hnc : 0 ≤ nc ∧ nc ≤ 100) (hnr : 0 ≤ nr ∧ nr ≤ 100) {q : Nat} (hqe : q ≤ e) (hqs : sk B e q = q) (kw : wd B e q = sx 12) : PG X B e bl nc nr r q := by
  have hwl := wd_len B e q hqe
  have hlen : (wd B e q).length = 3 := by
    rw [kw]
    decide
  have s1 := sk_ge (B := B) (e := e) (p := q + (wd B e q).length)
  refine ⟨oTwo B e 0 (nc - 1) (nr - 1) (sk B e (q + (wd B e q).length)), rTwo_wf _ _ _ (by decide) (by omega) (sk_le hwl) (fun a b a1 a2 b1 b2 => by unfold okst; omega), fun w J S i hT h4 hi h7 h8 => ?_, fun w J S p j hM hs h7 h30 hj h18 h19 => ?_⟩
  · obtain ⟨S1, g1, g2, -, g3⟩ := T_word1 (X := X) w J hT (k := 12) (by decide) kw
    have a4 : S1 3 4 = (i : Int) := by
      rw [g3.1 3 (by decide)]
      exact h4
    have a7 : S1 (iL bl) 7 = nr := by
      rw [FT_iL g3]
      exact h7
    have a8 : S1 (iL bl) 8 = nc := by
      rw [FT_iL g3]
      exact h8
    have nw : ∀ k, sx 12 ≠ sx k → ¬ wd B e q = sx k := fun k z1 z2 => z1 (kw.symm.trans z2)
    obtain ⟨S2, f1, f2, f3⟩ := c_rTwo (X := X) w J g2 a4 (by omega) (k := 0) (h1 := nc - 1) (h2 := nr - 1) (by decide) (by omega) (by omega)
    refine ⟨S2, fun d => ?_, f2, FC_tr (FC_t g3) f3 (Nat.le_refl _)⟩
    rw [show d + (3 * r + 5) = (d + (3 * r + 4)) + 1 from rfl, go_X6_readStep, e_X6_readStep_0]
    refine cI_go (r := zI 1) (st := mkS w (hI S1) J) (g1 (d + (3 * r + 2))) ?_
    refine (if_neg (by decide)).trans ?_
    refine cI_go (r := zI (sgW (oTwo B e 0 (nc - 1) (nr - 1) (sk B e (q + (wd B e q).length))))) (st := mkS w (hI S2) J) ?_ ?_
    · simp (disch := omega) only [hk, hu, hI_n, hI_un, z_nat, em_d, zl, z_add, z_sub, z_mul, z_lt, z_eq, gI_mk, gJ_mk, cI_some, cV_some, cJ_some, cI_x, cV_x, cJ_x, uS_self, uS_ne, if_pos, if_neg, b01, b01n, ite_not, if_true, if_false, Bool.false_eq_true, hLL, a8, a7]
      exact f1 (d + 3 * r)
    simp (disch := omega) only [hk, hu, hI_n, hI_un, z_nat, em_d, zl, z_add, z_sub, z_mul, z_lt, z_eq, gI_mk, gJ_mk, cI_some, cV_some, cJ_some, cI_x, cV_x, cJ_x, uS_self, uS_ne, if_pos, if_neg, b01, b01n, ite_not, if_true, if_false, Bool.false_eq_true, hLL, bk_sgW, rI_d]
  · obtain ⟨S1, g1, g2, g3⟩ := M_word (X := X) w J hM hs
    obtain ⟨S2, f1, f2, f3⟩ := M_pass (X := X) w J g2
    have a30 : S2 132 30 = ((3 * j : Nat) : Int) := by
      rw [f3.2 30 (by decide), g3.2 30 (by decide)]
      exact h30
    have a7 : S2 132 7 = 6 - (r : Int) := by
      rw [f3.2 7 (by decide), g3.2 7 (by decide)]
      exact h7
    have a18 : S2 132 18 = nr := by
      rw [f3.2 18 (by decide), g3.2 18 (by decide)]
      exact h18
    have a19 : S2 132 19 = nc := by
      rw [f3.2 19 (by decide), g3.2 19 (by decide)]
      exact h19
    obtain ⟨a, b, S3, S4, S5, y1, y2, y3, y4, y5, y6⟩ := m_rTwo (X := X) w J f2 rfl a30 (by omega) a7 (k := 0) (h1 := nc - 1) (h2 := nr - 1) (by decide) (by omega) (by omega)
    have b18 : S3 132 18 = nr := by
      rw [y6.2 18 (by decide)]
      exact a18
    have kv : kStp B e q = 0 := by
      unfold kStp
      rw [kw]
      decide
    refine ⟨S5, fun d n => ?_, y4, FR_tr (FR_m g3) (FR_tr (FR_m f3) y5 (Nat.le_refl _)) (Nat.le_refl _)⟩
    rw [e_X10_readStep_0]
    refine cI_go (r := zI (wV B e q : Nat)) (st := mkS w (hI S1) J) (g1 (d + (2 * r + 4))) ?_
    refine cI_go (r := zI (0)) (st := mkS w (hI S1) J) ?_ ?_
    · rw [show (zI (0)) = zI (kStp B e q) by rw [kv]]
      exact m_stepOf (d := d + (2 * r + 3))
    refine (if_neg (by decide)).trans ?_
    refine (if_neg (by decide)).trans ?_
    refine cV_go (st := mkS w (hI S2) J) (f1 (d + (2 * r + 4))) ?_
    refine (if_neg (by decide)).trans ?_
    refine (if_neg (by decide)).trans ?_
    refine cI_go (r := zI a) (st := mkS w (hI S3) J) ?_ ?_
    · simp (disch := omega) only [hk, hu, hI_n, hI_un, z_nat, em_d, zl, z_add, z_sub, z_mul, z_lt, z_eq, gI_mk, gJ_mk, cI_some, cV_some, cJ_some, cI_x, cV_x, cJ_x, uS_self, uS_ne, if_pos, if_neg, b01, b01n, ite_not, if_true, if_false, Bool.false_eq_true, a18, a19]
      exact y1 (d + (2 * r + 4))
    refine (if_pos (by decide)).trans ?_
    refine cI_go (r := zI b) (st := mkS w (hI S4) J) ?_ ?_
    · simp (disch := omega) only [hk, hu, hI_n, hI_un, z_nat, em_d, zl, z_add, z_sub, z_mul, z_lt, z_eq, gI_mk, gJ_mk, cI_some, cV_some, cJ_some, cI_x, cV_x, cJ_x, uS_self, uS_ne, if_pos, if_neg, b01, b01n, ite_not, if_true, if_false, Bool.false_eq_true, b18]
      exact y2 (d + (2 * r + 4))
    refine cV_go (st := mkS w (hI S5) J) ?_ ?_
    · simp only [gI_mk, gJ_mk, zl]
      exact y3 (d + (2 * r + 4))
    rfl
theorem stp_load (he : e ≤ 150) (hnc : 0 ≤ nc ∧ nc ≤ 100) (hnr : 0 ≤ nr ∧ nr ≤ 100) {q : Nat} (hqe : q ≤ e) (hqs : sk B e q = q) (kw : wd B e q = sx 7) : PG X B e bl nc nr r q := by
  have hwl := wd_len B e q hqe
  have hlen : (wd B e q).length = 4 := by
    rw [kw]
    decide
  have s1 := sk_ge (B := B) (e := e) (p := q + (wd B e q).length)
  refine ⟨oTwo B e 2 (nc - 1) (99) (sk B e (q + (wd B e q).length)), rTwo_wf _ _ _ (by decide) (by omega) (sk_le hwl) (fun a b a1 a2 b1 b2 => by unfold okst; omega), fun w J S i hT h4 hi h7 h8 => ?_, fun w J S p j hM hs h7 h30 hj h18 h19 => ?_⟩
  · obtain ⟨S1, g1, g2, -, g3⟩ := T_word1 (X := X) w J hT (k := 7) (by decide) kw
    have a4 : S1 3 4 = (i : Int) := by
      rw [g3.1 3 (by decide)]
      exact h4
    have a7 : S1 (iL bl) 7 = nr := by
      rw [FT_iL g3]
      exact h7
    have a8 : S1 (iL bl) 8 = nc := by
      rw [FT_iL g3]
      exact h8
    have nw : ∀ k, sx 7 ≠ sx k → ¬ wd B e q = sx k := fun k z1 z2 => z1 (kw.symm.trans z2)
    obtain ⟨S2, f1, f2, f3⟩ := c_rTwo (X := X) w J g2 a4 (by omega) (k := 2) (h1 := nc - 1) (h2 := 99) (by decide) (by omega) (by omega)
    refine ⟨S2, fun d => ?_, f2, FC_tr (FC_t g3) f3 (Nat.le_refl _)⟩
    rw [show d + (3 * r + 5) = (d + (3 * r + 4)) + 1 from rfl, go_X6_readStep, e_X6_readStep_0]
    refine cI_go (r := zI 0) (st := mkS w (hI S) J) (T_word0 (d := d + (3 * r + 2)) hT (k := 12) (by decide) (nw 12 (by decide))) ?_
    refine (if_pos (by decide)).trans ?_
    refine cI_go (r := zI 0) (st := mkS w (hI S) J) (T_word0 (d := d + (3 * r + 2)) hT (k := 13) (by decide) (nw 13 (by decide))) ?_
    refine (if_pos (by decide)).trans ?_
    refine cI_go (r := zI 1) (st := mkS w (hI S1) J) (g1 (d + (3 * r + 2))) ?_
    refine (if_neg (by decide)).trans ?_
    refine cI_go (r := zI (sgW (oTwo B e 2 (nc - 1) (99) (sk B e (q + (wd B e q).length))))) (st := mkS w (hI S2) J) ?_ ?_
    · simp (disch := omega) only [hk, hu, hI_n, hI_un, z_nat, em_d, zl, z_add, z_sub, z_mul, z_lt, z_eq, gI_mk, gJ_mk, cI_some, cV_some, cJ_some, cI_x, cV_x, cJ_x, uS_self, uS_ne, if_pos, if_neg, b01, b01n, ite_not, if_true, if_false, Bool.false_eq_true, hLL, a8]
      exact f1 (d + 3 * r)
    simp (disch := omega) only [hk, hu, hI_n, hI_un, z_nat, em_d, zl, z_add, z_sub, z_mul, z_lt, z_eq, gI_mk, gJ_mk, cI_some, cV_some, cJ_some, cI_x, cV_x, cJ_x, uS_self, uS_ne, if_pos, if_neg, b01, b01n, ite_not, if_true, if_false, Bool.false_eq_true, hLL, bk_sgW, rI_d]
  · obtain ⟨S1, g1, g2, g3⟩ := M_word (X := X) w J hM hs
    obtain ⟨S2, f1, f2, f3⟩ := M_pass (X := X) w J g2
    have a30 : S2 132 30 = ((3 * j : Nat) : Int) := by
      rw [f3.2 30 (by decide), g3.2 30 (by decide)]
      exact h30
    have a7 : S2 132 7 = 6 - (r : Int) := by
      rw [f3.2 7 (by decide), g3.2 7 (by decide)]
      exact h7
    have a18 : S2 132 18 = nr := by
      rw [f3.2 18 (by decide), g3.2 18 (by decide)]
      exact h18
    have a19 : S2 132 19 = nc := by
      rw [f3.2 19 (by decide), g3.2 19 (by decide)]
      exact h19
    obtain ⟨a, b, S3, S4, S5, y1, y2, y3, y4, y5, y6⟩ := m_rTwo (X := X) w J f2 rfl a30 (by omega) a7 (k := 2) (h1 := nc - 1) (h2 := 99) (by decide) (by omega) (by omega)
    have b18 : S3 132 18 = nr := by
      rw [y6.2 18 (by decide)]
      exact a18
    have kv : kStp B e q = 2 := by
      unfold kStp
      rw [kw]
      decide
    refine ⟨S5, fun d n => ?_, y4, FR_tr (FR_m g3) (FR_tr (FR_m f3) y5 (Nat.le_refl _)) (Nat.le_refl _)⟩
    rw [e_X10_readStep_0]
    refine cI_go (r := zI (wV B e q : Nat)) (st := mkS w (hI S1) J) (g1 (d + (2 * r + 4))) ?_
    refine cI_go (r := zI (2)) (st := mkS w (hI S1) J) ?_ ?_
    · rw [show (zI (2)) = zI (kStp B e q) by rw [kv]]
      exact m_stepOf (d := d + (2 * r + 3))
    refine (if_neg (by decide)).trans ?_
    refine (if_neg (by decide)).trans ?_
    refine cV_go (st := mkS w (hI S2) J) (f1 (d + (2 * r + 4))) ?_
    refine (if_neg (by decide)).trans ?_
    refine (if_neg (by decide)).trans ?_
    refine cI_go (r := zI a) (st := mkS w (hI S3) J) ?_ ?_
    · simp (disch := omega) only [hk, hu, hI_n, hI_un, z_nat, em_d, zl, z_add, z_sub, z_mul, z_lt, z_eq, gI_mk, gJ_mk, cI_some, cV_some, cJ_some, cI_x, cV_x, cJ_x, uS_self, uS_ne, if_pos, if_neg, b01, b01n, ite_not, if_true, if_false, Bool.false_eq_true, a18, a19]
      exact y1 (d + (2 * r + 4))
    refine (if_neg (by decide)).trans ?_
    refine (if_pos (by decide)).trans ?_
    refine cI_go (r := zI b) (st := mkS w (hI S4) J) ?_ ?_
    · simp (disch := omega) only [hk, hu, hI_n, hI_un, z_nat, em_d, zl, z_add, z_sub, z_mul, z_lt, z_eq, gI_mk, gJ_mk, cI_some, cV_some, cJ_some, cI_x, cV_x, cJ_x, uS_self, uS_ne, if_pos, if_neg, b01, b01n, ite_not, if_true, if_false, Bool.false_eq_true, b18]
      exact y2 (d + (2 * r + 4))
    refine cV_go (st := mkS w (hI S5) J) ?_ ?_
    · simp only [gI_mk, gJ_mk, zl]
      exact y3 (d + (2 * r + 4))
    rfl
theorem stp_off (he : e ≤ 150) (hnc : 0 ≤ nc ∧ nc ≤ 100) (hnr : 0 ≤ nr ∧ nr ≤ 100) {q : Nat} (hqe : q ≤ e) (hqs : sk B e q = q) (kw : wd B e q = sx 14) : PG X B e bl nc nr r q := by
  have hwl := wd_len B e q hqe
  have hlen : (wd B e q).length = 3 := by
    rw [kw]
    decide
  have s1 := sk_ge (B := B) (e := e) (p := q + (wd B e q).length)
  refine ⟨oTwo B e 3 (nr - 1) (6) (sk B e (q + (wd B e q).length)), rTwo_wf _ _ _ (by decide) (by omega) (sk_le hwl) (fun a b a1 a2 b1 b2 => by unfold okst; omega), fun w J S i hT h4 hi h7 h8 => ?_, fun w J S p j hM hs h7 h30 hj h18 h19 => ?_⟩
  · obtain ⟨S1, g1, g2, -, g3⟩ := T_word1 (X := X) w J hT (k := 14) (by decide) kw
    have a4 : S1 3 4 = (i : Int) := by
      rw [g3.1 3 (by decide)]
      exact h4
    have a7 : S1 (iL bl) 7 = nr := by
      rw [FT_iL g3]
      exact h7
    have a8 : S1 (iL bl) 8 = nc := by
      rw [FT_iL g3]
      exact h8
    have nw : ∀ k, sx 14 ≠ sx k → ¬ wd B e q = sx k := fun k z1 z2 => z1 (kw.symm.trans z2)
    obtain ⟨S2, f1, f2, f3⟩ := c_rTwo (X := X) w J g2 a4 (by omega) (k := 3) (h1 := nr - 1) (h2 := 6) (by decide) (by omega) (by omega)
    refine ⟨S2, fun d => ?_, f2, FC_tr (FC_t g3) f3 (Nat.le_refl _)⟩
    rw [show d + (3 * r + 5) = (d + (3 * r + 4)) + 1 from rfl, go_X6_readStep, e_X6_readStep_0]
    refine cI_go (r := zI 0) (st := mkS w (hI S) J) (T_word0 (d := d + (3 * r + 2)) hT (k := 12) (by decide) (nw 12 (by decide))) ?_
    refine (if_pos (by decide)).trans ?_
    refine cI_go (r := zI 0) (st := mkS w (hI S) J) (T_word0 (d := d + (3 * r + 2)) hT (k := 13) (by decide) (nw 13 (by decide))) ?_
    refine (if_pos (by decide)).trans ?_
    refine cI_go (r := zI 0) (st := mkS w (hI S) J) (T_word0 (d := d + (3 * r + 2)) hT (k := 7) (by decide) (nw 7 (by decide))) ?_
    refine (if_pos (by decide)).trans ?_
    refine cI_go (r := zI 1) (st := mkS w (hI S1) J) (g1 (d + (3 * r + 2))) ?_
    refine (if_neg (by decide)).trans ?_
    refine cI_go (r := zI (sgW (oTwo B e 3 (nr - 1) (6) (sk B e (q + (wd B e q).length))))) (st := mkS w (hI S2) J) ?_ ?_
    · simp (disch := omega) only [hk, hu, hI_n, hI_un, z_nat, em_d, zl, z_add, z_sub, z_mul, z_lt, z_eq, gI_mk, gJ_mk, cI_some, cV_some, cJ_some, cI_x, cV_x, cJ_x, uS_self, uS_ne, if_pos, if_neg, b01, b01n, ite_not, if_true, if_false, Bool.false_eq_true, hLL, a7]
      exact f1 (d + 3 * r)
    simp (disch := omega) only [hk, hu, hI_n, hI_un, z_nat, em_d, zl, z_add, z_sub, z_mul, z_lt, z_eq, gI_mk, gJ_mk, cI_some, cV_some, cJ_some, cI_x, cV_x, cJ_x, uS_self, uS_ne, if_pos, if_neg, b01, b01n, ite_not, if_true, if_false, Bool.false_eq_true, hLL, bk_sgW, rI_d]
  · obtain ⟨S1, g1, g2, g3⟩ := M_word (X := X) w J hM hs
    obtain ⟨S2, f1, f2, f3⟩ := M_pass (X := X) w J g2
    have a30 : S2 132 30 = ((3 * j : Nat) : Int) := by
      rw [f3.2 30 (by decide), g3.2 30 (by decide)]
      exact h30
    have a7 : S2 132 7 = 6 - (r : Int) := by
      rw [f3.2 7 (by decide), g3.2 7 (by decide)]
      exact h7
    have a18 : S2 132 18 = nr := by
      rw [f3.2 18 (by decide), g3.2 18 (by decide)]
      exact h18
    have a19 : S2 132 19 = nc := by
      rw [f3.2 19 (by decide), g3.2 19 (by decide)]
      exact h19
    obtain ⟨a, b, S3, S4, S5, y1, y2, y3, y4, y5, y6⟩ := m_rTwo (X := X) w J f2 rfl a30 (by omega) a7 (k := 3) (h1 := nr - 1) (h2 := 6) (by decide) (by omega) (by omega)
    have b18 : S3 132 18 = nr := by
      rw [y6.2 18 (by decide)]
      exact a18
    have kv : kStp B e q = 3 := by
      unfold kStp
      rw [kw]
      decide
    refine ⟨S5, fun d n => ?_, y4, FR_tr (FR_m g3) (FR_tr (FR_m f3) y5 (Nat.le_refl _)) (Nat.le_refl _)⟩
    rw [e_X10_readStep_0]
    refine cI_go (r := zI (wV B e q : Nat)) (st := mkS w (hI S1) J) (g1 (d + (2 * r + 4))) ?_
    refine cI_go (r := zI (3)) (st := mkS w (hI S1) J) ?_ ?_
    · rw [show (zI (3)) = zI (kStp B e q) by rw [kv]]
      exact m_stepOf (d := d + (2 * r + 3))
    refine (if_neg (by decide)).trans ?_
    refine (if_neg (by decide)).trans ?_
    refine cV_go (st := mkS w (hI S2) J) (f1 (d + (2 * r + 4))) ?_
    refine (if_neg (by decide)).trans ?_
    refine (if_pos (by decide)).trans ?_
    refine cI_go (r := zI a) (st := mkS w (hI S3) J) ?_ ?_
    · simp (disch := omega) only [hk, hu, hI_n, hI_un, z_nat, em_d, zl, z_add, z_sub, z_mul, z_lt, z_eq, gI_mk, gJ_mk, cI_some, cV_some, cJ_some, cI_x, cV_x, cJ_x, uS_self, uS_ne, if_pos, if_neg, b01, b01n, ite_not, if_true, if_false, Bool.false_eq_true, a18, a19]
      exact y1 (d + (2 * r + 4))
    refine (if_neg (by decide)).trans ?_
    refine (if_neg (by decide)).trans ?_
    refine (if_pos (by decide)).trans ?_
    refine cI_go (r := zI b) (st := mkS w (hI S4) J) ?_ ?_
    · simp (disch := omega) only [hk, hu, hI_n, hI_un, z_nat, em_d, zl, z_add, z_sub, z_mul, z_lt, z_eq, gI_mk, gJ_mk, cI_some, cV_some, cJ_some, cI_x, cV_x, cJ_x, uS_self, uS_ne, if_pos, if_neg, b01, b01n, ite_not, if_true, if_false, Bool.false_eq_true, b18]
      exact y2 (d + (2 * r + 4))
    refine cV_go (st := mkS w (hI S5) J) ?_ ?_
    · simp only [gI_mk, gJ_mk, zl]
      exact y3 (d + (2 * r + 4))
    rfl
theorem stp_turn (he : e ≤ 150) (hnc : 0 ≤ nc ∧ nc ≤ 100) (hnr : 0 ≤ nr ∧ nr ≤ 100) {q : Nat} (hqe : q ≤ e) (hqs : sk B e q = q) (kw : wd B e q = sx 13) : PG X B e bl nc nr r q := by
  have hwl := wd_len B e q hqe
  have hlen : (wd B e q).length = 4 := by
    rw [kw]
    decide
  have s1 := sk_ge (B := B) (e := e) (p := q + (wd B e q).length)
  by_cases n1 : numK B e (sk B e (q + (wd B e q).length)) 0 (nc - 1) = 0
  · obtain ⟨d1, d2, d3⟩ := numK_0 n1
    have gp := dg_pos d1
    have s2 := sk_ge (B := B) (e := e) (p := numE B e (sk B e (q + (wd B e q).length)))
    refine ⟨.inr ([(1, numV B e (sk B e (q + (wd B e q).length)), 0, 0)], sk B e (numE B e (sk B e (q + (wd B e q).length)))), ⟨⟨?_, ?_, ?_, sk_sk, sk_le (numE_le B e _ (sk_le hwl))⟩, OkS_1 (by unfold okst; omega)⟩, fun w J S i hT h4 hi h7 h8 => ?_, fun w J S p j hM hs h7 h30 hj h18 h19 => ?_⟩
    · show q ≤ sk B e (numE B e (sk B e (q + (wd B e q).length)))
      omega
    · show 1 + q ≤ sk B e (numE B e (sk B e (q + (wd B e q).length)))
      omega
    · show 3 * 1 + q ≤ sk B e (numE B e (sk B e (q + (wd B e q).length)))
      omega
    · obtain ⟨S1, g1, g2, -, g3⟩ := T_word1 (X := X) w J hT (k := 13) (by decide) kw
      have a4 : S1 3 4 = (i : Int) := by
        rw [g3.1 3 (by decide)]
        exact h4
      have a7 : S1 (iL bl) 7 = nr := by
        rw [FT_iL g3]
        exact h7
      have a8 : S1 (iL bl) 8 = nc := by
        rw [FT_iL g3]
        exact h8
      have nw : ∀ k, sx 13 ≠ sx k → ¬ wd B e q = sx k := fun k z1 z2 => z1 (kw.symm.trans z2)
      obtain ⟨S2, f1, f2, -, f5, f3⟩ := T_num1 (X := X) w J g2 (lo := 0) (hi := nc - 1) (by decide) (by omega) n1
      have b4 : S2 3 4 = (i : Int) := by
        rw [f3.1 3 (by decide)]
        exact a4
      obtain ⟨S3, y1, y2, y3, y4, y5⟩ := c_sput (X := X) w J b4 (by omega) 1 (numV B e (sk B e (q + (wd B e q).length))) 0
      refine ⟨S3, fun d => ?_, ⟨Tp_o f2 y4.1 y4.2, CSt_1 (by decide) y2, y3⟩, FC_tr (FC_t g3) (FC_tr (FC_t f3) y5 (Nat.le_refl _)) (Nat.le_refl _)⟩
      rw [show d + (3 * r + 5) = (d + (3 * r + 4)) + 1 from rfl, go_X6_readStep, e_X6_readStep_0]
      refine cI_go (r := zI 0) (st := mkS w (hI S) J) (T_word0 (d := d + (3 * r + 2)) hT (k := 12) (by decide) (nw 12 (by decide))) ?_
      refine (if_pos (by decide)).trans ?_
      refine cI_go (r := zI 1) (st := mkS w (hI S1) J) (g1 (d + (3 * r + 2))) ?_
      refine (if_neg (by decide)).trans ?_
      refine cI_go (r := zI 1) (st := mkS w (hI S2) J) ?_ ?_
      · simp (disch := omega) only [hk, hu, hI_n, hI_un, z_nat, em_d, zl, z_add, z_sub, z_mul, z_lt, z_eq, gI_mk, gJ_mk, cI_some, cV_some, cJ_some, cI_x, cV_x, cJ_x, uS_self, uS_ne, if_pos, if_neg, b01, b01n, ite_not, if_true, if_false, Bool.false_eq_true, hLL, a8]
        exact f1 (d + (3 * r + 1))
      refine (if_neg (by decide)).trans ?_
      refine cI_go (r := zI 1) (st := mkS w (hI S3) J) ?_ ?_
      · simp (disch := omega) only [hk, hu, hI_n, hI_un, z_nat, em_d, zl, z_add, z_sub, z_mul, z_lt, z_eq, gI_mk, gJ_mk, cI_some, cV_some, cJ_some, cI_x, cV_x, cJ_x, uS_self, uS_ne, if_pos, if_neg, b01, b01n, ite_not, if_true, if_false, Bool.false_eq_true, hLL, f5]
        exact y1 (d + (3 * r + 3))
      refine (if_neg (by decide)).trans ?_
      simp (disch := omega) only [hk, hu, hI_n, hI_un, z_nat, em_d, zl, z_add, z_sub, z_mul, z_lt, z_eq, gI_mk, gJ_mk, cI_some, cV_some, cJ_some, cI_x, cV_x, cJ_x, uS_self, uS_ne, if_pos, if_neg, b01, b01n, ite_not, if_true, if_false, Bool.false_eq_true, hLL, rI_d]
      rfl
    · obtain ⟨S1, g1, g2, g3⟩ := M_word (X := X) w J hM hs
      obtain ⟨S2, f1, f2, f3⟩ := M_pass (X := X) w J g2
      have a30 : S2 132 30 = ((3 * j : Nat) : Int) := by
        rw [f3.2 30 (by decide), g3.2 30 (by decide)]
        exact h30
      have a7 : S2 132 7 = 6 - (r : Int) := by
        rw [f3.2 7 (by decide), g3.2 7 (by decide)]
        exact h7
      have a18 : S2 132 18 = nr := by
        rw [f3.2 18 (by decide), g3.2 18 (by decide)]
        exact h18
      have a19 : S2 132 19 = nc := by
        rw [f3.2 19 (by decide), g3.2 19 (by decide)]
        exact h19
      obtain ⟨S3, y1, y2, y4⟩ := M_num1 (X := X) w J f2 rfl (lo := 0) (hi := nc - 1) (by decide) (by omega) n1
      have b30 : S3 132 30 = ((3 * j : Nat) : Int) := by
        rw [y4.2 30 (by decide)]
        exact a30
      have b7 : S3 132 7 = 6 - (r : Int) := by
        rw [y4.2 7 (by decide)]
        exact a7
      obtain ⟨S4, z1, z2, z3, z4, z5, z6⟩ := m_tells (X := X) w J y2 b30 (by omega) 1 (numV B e (sk B e (q + (wd B e q).length))) 0
      have kv : kStp B e q = 1 := by
        unfold kStp
        rw [kw]
        decide
      refine ⟨S4, fun d n => ?_, ⟨⟨_, z5, rfl⟩, MSt_1 (by decide) z2, z3, z4.trans b7⟩, FR_tr (FR_m g3) (FR_tr (FR_m f3) (FR_tr (FR_m y4) z6 (Nat.le_refl _)) (Nat.le_refl _)) (Nat.le_refl _)⟩
      rw [e_X10_readStep_0]
      refine cI_go (r := zI (wV B e q : Nat)) (st := mkS w (hI S1) J) (g1 (d + (2 * r + 4))) ?_
      refine cI_go (r := zI (1)) (st := mkS w (hI S1) J) ?_ ?_
      · rw [show (zI (1)) = zI (kStp B e q) by rw [kv]]
        exact m_stepOf (d := d + (2 * r + 3))
      refine (if_neg (by decide)).trans ?_
      refine (if_neg (by decide)).trans ?_
      refine cV_go (st := mkS w (hI S2) J) (f1 (d + (2 * r + 4))) ?_
      refine (if_neg (by decide)).trans ?_
      refine (if_neg (by decide)).trans ?_
      refine cI_go (r := zI (numV B e (sk B e (q + (wd B e q).length)))) (st := mkS w (hI S3) J) ?_ ?_
      · simp (disch := omega) only [hk, hu, hI_n, hI_un, z_nat, em_d, zl, z_add, z_sub, z_mul, z_lt, z_eq, gI_mk, gJ_mk, cI_some, cV_some, cJ_some, cI_x, cV_x, cJ_x, uS_self, uS_ne, if_pos, if_neg, b01, b01n, ite_not, if_true, if_false, Bool.false_eq_true, a18, a19]
        exact y1 (d + (2 * r + 4))
      refine (if_neg (by decide)).trans ?_
      refine (if_neg (by decide)).trans ?_
      refine (if_neg (by decide)).trans ?_
      refine cV_go (st := mkS w (hI S4) J) ?_ ?_
      · simp only [gI_mk, gJ_mk, zl]
        exact z1 (d + (2 * r + 4))
      rfl
  · refine ⟨.inl (numK B e (sk B e (q + (wd B e q).length)) 0 (nc - 1), (sk B e (q + (wd B e q).length) : Nat)), trivial, fun w J S i hT h4 hi h7 h8 => ?_, fun w J S p j hM hs h7 h30 hj h18 h19 => ?_⟩
    · obtain ⟨S1, g1, g2, -, g3⟩ := T_word1 (X := X) w J hT (k := 13) (by decide) kw
      have a4 : S1 3 4 = (i : Int) := by
        rw [g3.1 3 (by decide)]
        exact h4
      have a7 : S1 (iL bl) 7 = nr := by
        rw [FT_iL g3]
        exact h7
      have a8 : S1 (iL bl) 8 = nc := by
        rw [FT_iL g3]
        exact h8
      have nw : ∀ k, sx 13 ≠ sx k → ¬ wd B e q = sx k := fun k z1 z2 => z1 (kw.symm.trans z2)
      obtain ⟨S2, f1, f2, f3⟩ := T_num0 (X := X) w J g2 (lo := 0) (hi := nc - 1) (by decide) (by omega) n1
      refine ⟨S2, fun d => ?_, f2, FC_tr (FC_t g3) (FC_t f3) (Nat.le_refl _)⟩
      rw [show d + (3 * r + 5) = (d + (3 * r + 4)) + 1 from rfl, go_X6_readStep, e_X6_readStep_0]
      refine cI_go (r := zI 0) (st := mkS w (hI S) J) (T_word0 (d := d + (3 * r + 2)) hT (k := 12) (by decide) (nw 12 (by decide))) ?_
      refine (if_pos (by decide)).trans ?_
      refine cI_go (r := zI 1) (st := mkS w (hI S1) J) (g1 (d + (3 * r + 2))) ?_
      refine (if_neg (by decide)).trans ?_
      refine cI_go (r := zI 0) (st := mkS w (hI S2) J) ?_ ?_
      · simp (disch := omega) only [hk, hu, hI_n, hI_un, z_nat, em_d, zl, z_add, z_sub, z_mul, z_lt, z_eq, gI_mk, gJ_mk, cI_some, cV_some, cJ_some, cI_x, cV_x, cJ_x, uS_self, uS_ne, if_pos, if_neg, b01, b01n, ite_not, if_true, if_false, Bool.false_eq_true, hLL, a8]
        exact f1 (d + (3 * r + 1))
      refine (if_pos (by decide)).trans ?_
      simp (disch := omega) only [hk, hu, hI_n, hI_un, z_nat, em_d, zl, z_add, z_sub, z_mul, z_lt, z_eq, gI_mk, gJ_mk, cI_some, cV_some, cJ_some, cI_x, cV_x, cJ_x, uS_self, uS_ne, if_pos, if_neg, b01, b01n, ite_not, if_true, if_false, Bool.false_eq_true, hLL, rI_d]
      rfl
    · obtain ⟨S1, g1, g2, g3⟩ := M_word (X := X) w J hM hs
      obtain ⟨S2, f1, f2, f3⟩ := M_pass (X := X) w J g2
      have a30 : S2 132 30 = ((3 * j : Nat) : Int) := by
        rw [f3.2 30 (by decide), g3.2 30 (by decide)]
        exact h30
      have a7 : S2 132 7 = 6 - (r : Int) := by
        rw [f3.2 7 (by decide), g3.2 7 (by decide)]
        exact h7
      have a18 : S2 132 18 = nr := by
        rw [f3.2 18 (by decide), g3.2 18 (by decide)]
        exact h18
      have a19 : S2 132 19 = nc := by
        rw [f3.2 19 (by decide), g3.2 19 (by decide)]
        exact h19
      obtain ⟨S3, y1, y2, y4⟩ := M_num0 (X := X) w J f2 rfl (lo := 0) (hi := nc - 1) (by decide) (by omega) n1
      have kv : kStp B e q = 1 := by
        unfold kStp
        rw [kw]
        decide
      refine ⟨S3, fun d n => ?_, y2, FR_tr (FR_m g3) (FR_tr (FR_m f3) (FR_m y4) (Nat.le_refl _)) (Nat.le_refl _)⟩
      rw [e_X10_readStep_0]
      refine cI_go (r := zI (wV B e q : Nat)) (st := mkS w (hI S1) J) (g1 (d + (2 * r + 4))) ?_
      refine cI_go (r := zI (1)) (st := mkS w (hI S1) J) ?_ ?_
      · rw [show (zI (1)) = zI (kStp B e q) by rw [kv]]
        exact m_stepOf (d := d + (2 * r + 3))
      refine (if_neg (by decide)).trans ?_
      refine (if_neg (by decide)).trans ?_
      refine cV_go (st := mkS w (hI S2) J) (f1 (d + (2 * r + 4))) ?_
      refine (if_neg (by decide)).trans ?_
      refine (if_neg (by decide)).trans ?_
      refine cI_go (r := zI 0) (st := mkS w (hI S3) J) ?_ ?_
      · simp (disch := omega) only [hk, hu, hI_n, hI_un, z_nat, em_d, zl, z_add, z_sub, z_mul, z_lt, z_eq, gI_mk, gJ_mk, cI_some, cV_some, cJ_some, cI_x, cV_x, cJ_x, uS_self, uS_ne, if_pos, if_neg, b01, b01n, ite_not, if_true, if_false, Bool.false_eq_true, a18, a19]
        exact y1 (d + (2 * r + 4))
      refine (if_neg (by decide)).trans ?_
      refine (if_neg (by decide)).trans ?_
      refine (if_neg (by decide)).trans ?_
      refine cV_go (st := mkS w (hI S3) J) ?_ ?_
      · simp only [gI_mk, gJ_mk, zl]
        exact m_tellsB (d := d + (2 * r + 4)) (x := 1) (a := 0) (b := 0) y2
      rfl
theorem stp_hour (he : e ≤ 150) (hnc : 0 ≤ nc ∧ nc ≤ 100) (hnr : 0 ≤ nr ∧ nr ≤ 100) {q : Nat} (hqe : q ≤ e) (hqs : sk B e q = q) (kw : wd B e q = sx 9) : PG X B e bl nc nr r q := by
  have hwl := wd_len B e q hqe
  have hlen : (wd B e q).length = 4 := by
    rw [kw]
    decide
  have s1 := sk_ge (B := B) (e := e) (p := q + (wd B e q).length)
  refine ⟨.inr ([(4, 0, 0, 0)], sk B e (q + (wd B e q).length)), ⟨⟨?_, ?_, ?_, sk_sk, sk_le hwl⟩, OkS_1 (by unfold okst; omega)⟩, fun w J S i hT h4 hi h7 h8 => ?_, fun w J S p j hM hs h7 h30 hj h18 h19 => ?_⟩
  · show q ≤ sk B e (q + (wd B e q).length)
    omega
  · show 1 + q ≤ sk B e (q + (wd B e q).length)
    omega
  · show 3 * 1 + q ≤ sk B e (q + (wd B e q).length)
    omega
  · obtain ⟨S1, g1, g2, -, g3⟩ := T_word1 (X := X) w J hT (k := 9) (by decide) kw
    have a4 : S1 3 4 = (i : Int) := by
      rw [g3.1 3 (by decide)]
      exact h4
    have a7 : S1 (iL bl) 7 = nr := by
      rw [FT_iL g3]
      exact h7
    have a8 : S1 (iL bl) 8 = nc := by
      rw [FT_iL g3]
      exact h8
    have nw : ∀ k, sx 9 ≠ sx k → ¬ wd B e q = sx k := fun k z1 z2 => z1 (kw.symm.trans z2)
    obtain ⟨S2, y1, y2, y3, y4, y5⟩ := c_sput (X := X) w J a4 (by omega) 4 0 0
    refine ⟨S2, fun d => ?_, ⟨Tp_o g2 y4.1 y4.2, CSt_1 (by decide) y2, y3⟩, FC_tr (FC_t g3) y5 (Nat.le_refl _)⟩
    rw [show d + (3 * r + 5) = (d + (3 * r + 4)) + 1 from rfl, go_X6_readStep, e_X6_readStep_0]
    refine cI_go (r := zI 0) (st := mkS w (hI S) J) (T_word0 (d := d + (3 * r + 2)) hT (k := 12) (by decide) (nw 12 (by decide))) ?_
    refine (if_pos (by decide)).trans ?_
    refine cI_go (r := zI 0) (st := mkS w (hI S) J) (T_word0 (d := d + (3 * r + 2)) hT (k := 13) (by decide) (nw 13 (by decide))) ?_
    refine (if_pos (by decide)).trans ?_
    refine cI_go (r := zI 0) (st := mkS w (hI S) J) (T_word0 (d := d + (3 * r + 2)) hT (k := 7) (by decide) (nw 7 (by decide))) ?_
    refine (if_pos (by decide)).trans ?_
    refine cI_go (r := zI 0) (st := mkS w (hI S) J) (T_word0 (d := d + (3 * r + 2)) hT (k := 14) (by decide) (nw 14 (by decide))) ?_
    refine (if_pos (by decide)).trans ?_
    refine cI_go (r := zI 1) (st := mkS w (hI S1) J) (g1 (d + (3 * r + 2))) ?_
    refine (if_neg (by decide)).trans ?_
    refine cI_go (r := zI 1) (st := mkS w (hI S2) J) ?_ ?_
    · simp only [gI_mk, gJ_mk, zl]
      exact y1 (d + (3 * r + 3))
    simp (disch := omega) only [hk, hu, hI_n, hI_un, z_nat, em_d, zl, z_add, z_sub, z_mul, z_lt, z_eq, gI_mk, gJ_mk, cI_some, cV_some, cJ_some, cI_x, cV_x, cJ_x, uS_self, uS_ne, if_pos, if_neg, b01, b01n, ite_not, if_true, if_false, Bool.false_eq_true, hLL, z_bok1, rI_d]
    rfl
  · obtain ⟨S1, g1, g2, g3⟩ := M_word (X := X) w J hM hs
    obtain ⟨S2, f1, f2, f3⟩ := M_pass (X := X) w J g2
    have a30 : S2 132 30 = ((3 * j : Nat) : Int) := by
      rw [f3.2 30 (by decide), g3.2 30 (by decide)]
      exact h30
    have a7 : S2 132 7 = 6 - (r : Int) := by
      rw [f3.2 7 (by decide), g3.2 7 (by decide)]
      exact h7
    have a18 : S2 132 18 = nr := by
      rw [f3.2 18 (by decide), g3.2 18 (by decide)]
      exact h18
    have a19 : S2 132 19 = nc := by
      rw [f3.2 19 (by decide), g3.2 19 (by decide)]
      exact h19
    obtain ⟨S4, z1, z2, z3, z4, z5, z6⟩ := m_tells (X := X) w J f2 a30 (by omega) 4 0 0
    have kv : kStp B e q = 4 := by
      unfold kStp
      rw [kw]
      decide
    refine ⟨S4, fun d n => ?_, ⟨⟨_, z5, rfl⟩, MSt_1 (by decide) z2, z3, z4.trans a7⟩, FR_tr (FR_m g3) (FR_tr (FR_m f3) z6 (Nat.le_refl _)) (Nat.le_refl _)⟩
    rw [e_X10_readStep_0]
    refine cI_go (r := zI (wV B e q : Nat)) (st := mkS w (hI S1) J) (g1 (d + (2 * r + 4))) ?_
    refine cI_go (r := zI (4)) (st := mkS w (hI S1) J) ?_ ?_
    · rw [show (zI (4)) = zI (kStp B e q) by rw [kv]]
      exact m_stepOf (d := d + (2 * r + 3))
    refine (if_neg (by decide)).trans ?_
    refine (if_neg (by decide)).trans ?_
    refine cV_go (st := mkS w (hI S2) J) (f1 (d + (2 * r + 4))) ?_
    refine (if_pos (by decide)).trans ?_
    refine (if_neg (by decide)).trans ?_
    refine (if_neg (by decide)).trans ?_
    refine (if_neg (by decide)).trans ?_
    refine cV_go (st := mkS w (hI S4) J) ?_ ?_
    · simp only [gI_mk, gJ_mk, zl]
      exact z1 (d + (2 * r + 4))
    rfl
theorem m_none {q : Nat} (hqe : q ≤ e) (hqs : sk B e q = q) (nw : ∀ k, k ∈ [12, 13, 7, 14, 9, 15] → ¬ wd B e q = sx k) : MrS X B e nc nr r q (.inl (1, (q : Int))) := fun w J S p j hM hs h7 h30 hj h18 h19 => by
  obtain ⟨S1, g1, g2, g3⟩ := M_word (X := X) w J hM hs
  have a4 := g2.2.2.2.2.1
  have he6 := g2.2.2.1
  obtain ⟨S2, f1, f2, -, f3⟩ := M_wrong1 (X := X) w J g2 1 (q : Int) (by omega)
  have kv : kStp B e q = -1 := by
    unfold kStp
    rw [if_neg (nw 12 (by decide)), if_neg (nw 13 (by decide)), if_neg (nw 7 (by decide)), if_neg (nw 14 (by decide)), if_neg (nw 9 (by decide)), if_neg (nw 15 (by decide))]
  refine ⟨S2, fun d n => ?_, f2, FR_tr (FR_m g3) (FR_m f3) (Nat.le_refl _)⟩
  rw [e_X10_readStep_0]
  refine cI_go (r := zI (wV B e q : Nat)) (st := mkS w (hI S1) J) (g1 (d + (2 * r + 4))) ?_
  refine cI_go (r := zI (-1)) (st := mkS w (hI S1) J) ?_ ?_
  · rw [show (zI (-1)) = zI (kStp B e q) by rw [kv]]
    exact m_stepOf (d := d + (2 * r + 3))
  refine (if_pos (by decide)).trans ?_
  refine cV_go (st := mkS w (hI S2) J) ?_ ?_
  · simp (disch := omega) only [hk, hu, hI_n, hI_un, z_nat, em_d, zl, z_add, z_sub, z_mul, z_lt, z_eq, gI_mk, gJ_mk, cI_some, cV_some, cJ_some, cI_x, cV_x, cJ_x, uS_self, uS_ne, if_pos, if_neg, b01, b01n, ite_not, if_true, if_false, Bool.false_eq_true, a4]
    exact f1 (d + (2 * r + 5))
  rfl
theorem stp_none {q : Nat} (hqe : q ≤ e) (hqs : sk B e q = q) (nw : ∀ k, k ∈ [12, 13, 7, 14, 9, 15] → ¬ wd B e q = sx k) : PG X B e bl nc nr r q := by
  refine ⟨.inl (1, (q : Int)), trivial, fun w J S i hT h4 hi h7 h8 => ?_, m_none hqe hqs nw⟩
  obtain ⟨S1, g1, g2, g3⟩ := T_failHere (X := X) w J hT 1
  refine ⟨S1, fun d => ?_, g2, FC_t g3⟩
  rw [show d + (3 * r + 5) = (d + (3 * r + 4)) + 1 from rfl, go_X6_readStep, e_X6_readStep_0]
  refine cI_go (r := zI 0) (st := mkS w (hI S) J) (T_word0 (d := d + (3 * r + 2)) hT (k := 12) (by decide) (nw 12 (by decide))) ?_
  refine (if_pos (by decide)).trans ?_
  refine cI_go (r := zI 0) (st := mkS w (hI S) J) (T_word0 (d := d + (3 * r + 2)) hT (k := 13) (by decide) (nw 13 (by decide))) ?_
  refine (if_pos (by decide)).trans ?_
  refine cI_go (r := zI 0) (st := mkS w (hI S) J) (T_word0 (d := d + (3 * r + 2)) hT (k := 7) (by decide) (nw 7 (by decide))) ?_
  refine (if_pos (by decide)).trans ?_
  refine cI_go (r := zI 0) (st := mkS w (hI S) J) (T_word0 (d := d + (3 * r + 2)) hT (k := 14) (by decide) (nw 14 (by decide))) ?_
  refine (if_pos (by decide)).trans ?_
  refine cI_go (r := zI 0) (st := mkS w (hI S) J) (T_word0 (d := d + (3 * r + 2)) hT (k := 9) (by decide) (nw 9 (by decide))) ?_
  refine (if_pos (by decide)).trans ?_
  refine cI_go (r := zI 0) (st := mkS w (hI S) J) (T_word0 (d := d + (3 * r + 2)) hT (k := 15) (by decide) (nw 15 (by decide))) ?_
  refine (if_pos (by decide)).trans ?_
  refine cI_go (r := zI 0) (st := mkS w (hI S1) J) ?_ ?_
  · simp only [gI_mk, gJ_mk, zl]
    exact g1 (d + (3 * r + 3))
  simp (disch := omega) only [hk, hu, hI_n, hI_un, z_nat, em_d, zl, z_add, z_sub, z_mul, z_lt, z_eq, gI_mk, gJ_mk, cI_some, cV_some, cJ_some, cI_x, cV_x, cJ_x, uS_self, uS_ne, if_pos, if_neg, b01, b01n, ite_not, if_true, if_false, Bool.false_eq_true, hLL, z_bok0, rI_d]
  rfl
end WK2
