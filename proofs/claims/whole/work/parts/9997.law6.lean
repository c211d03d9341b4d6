/-! THE LAW'S TEXT: what opens -/
section LW6
variable {X : Nat × (Nat → Int32)} {w : Bool × Bool × Bool} {J : Nat → Nat → Int64} {B : Nat → Int} {e r : Nat} {bw : Bool} {F : Nat → LOut}
def outPar (B : Nat → Int) (e : Nat) (F : Nat → LOut) (q : Nat) : LOut := match F q with
  | .inl g => .inl g
  | .inr y => if y.2 < e ∧ B y.2 = 41 then .inr (y.1, sk B e (y.2 + 1)) else .inl (1, (y.2 : Int))
def outW (code : Int) : LOut → LOut
  | .inl g => .inl g
  | .inr z => .inr (z.1 ++ [(code, 0)], z.2)
theorem nd40 {q : Nat} (h : B q = 40) : ¬ (q < e ∧ isD (B q) = true) := fun z => by
  have := isD_r z.2
  omega
/-- the number of opened ones goes down -/
theorem dec7_l {S : Hp} {v : Int} {o : Int} {cd : List (Int × Int)} {out : LOut} (h : LmFin S B e cd o out) (hv : ∀ y, out = .inr y → v = o - 1) : LmFin (uS S 132 7 v) B e cd (o - 1) out := by
  cases out with
  | inl g => exact Bd_o h (uS_ne _ _ (Or.inr (by decide))) (uS_ne _ _ (Or.inr (by decide)))
  | inr y =>
    obtain ⟨⟨p', h1, h2⟩, h3, h4⟩ := h
    refine ⟨⟨p', Mp_o h1 (fun k k1 k2 => uS_ne _ _ (Or.inr (by omega))) (uS_row _ _ _ (by decide)), h2⟩, CKp_o h3 (uS_ne _ _ (Or.inr (by decide))) (uS_row _ _ _ (by decide)) (uS_row _ _ _ (by decide)), ?_⟩
    rw [uS_self]
    exact hv y rfl
/-- in round brackets: too many -/
theorem unit_P0 (he : e ≤ 150) {q : Nat} (hqe : q ≤ e) (hqs : sk B e q = q) (k : q < e ∧ B q = 40) : PUq X B e bw 0 q := by
  have e40 : bt0 B e q = 40 := (bt0_c (by decide)).mpr k
  refine ⟨.inl (3, (q : Int)), trivial, fun w J S cd hT hK hl => ?_, fun w J S p cd hM hs h7 hK hl => ?_⟩
  · obtain ⟨S1, g1, g2, g3, g4⟩ := T_takes1 (X := X) w J hT (c := 40) (by decide) k
    obtain ⟨S2, f1, f2, f3⟩ := c_opens0 (X := X) w J (bw := bw) g2 g3
    refine ⟨S2, fun d => ?_, f2, FW_tr (FW_t g4) (FW_t f3)⟩
    rw [show d + (4 * 0 + 6) = (d + 5) + 1 from rfl, go_X3_readUnit, e_X3_readUnit_0]
    refine cI_go (r := zI 0) (st := mkS w (hI S) J) ?_ ?_
    · have := T_digit (X := X) (d := d + 3) (w := w) (J := J) hT
      rw [if_neg (nd40 k.2)] at this
      exact this
    refine (if_pos rfl).trans ?_
    refine cI_go (r := zI 1) (st := mkS w (hI S1) J) ?_ ?_
    · simp only [gI_mk, gJ_mk, zl]
      exact g1 (d + 3)
    refine (if_neg (by decide)).trans ?_
    refine cI_go (r := zI 0) (st := mkS w (hI S2) J) ?_ ?_
    · simp only [gI_mk, gJ_mk]
      exact f1 (d + 3)
    refine (if_pos rfl).trans ?_
    simp (disch := omega) only [hk, hu, hI_n, hI_un, z_nat, em_d, zl, z_add, z_sub, z_mul, z_lt, z_eq, gI_mk, gJ_mk, cI_some, cV_some, cJ_some, cI_x, cV_x, cJ_x, uS_self, uS_ne, if_pos, if_neg, b01, b01n, ite_not, if_true, if_false, Bool.false_eq_true, hLL, rI_d]
    rfl
  · obtain ⟨S1, g1, g2, g3⟩ := M_here (X := X) w J hM
    rw [hs] at g1 g2
    obtain ⟨S2, f1, f2, f3⟩ := m_opensOne0 (X := X) (x := 1) w J g2 ((g3.2 7 (by decide)).trans h7)
    refine ⟨uS S2 132 7 (S2 132 7 - 1), fun d => ?_, Bd_o f2 (uS_ne _ _ (Or.inr (by decide))) (uS_ne _ _ (Or.inr (by decide))), FZ_tr (FZ_m g3) (FZ_tr f3 (FZ_7 _ _ (Or.inr rfl)))⟩
    rw [show d + (4 * 0 + 6) = (d + 5) + 1 from rfl, go_X10_readUnit, e_X10_readUnit_0]
    refine cI_go (r := zI 1) (st := mkS w (hI S) J) (M_fine1 hM) ?_
    refine (if_neg (by decide)).trans ?_
    refine cI_go (r := zI (bt0 B e q)) (st := mkS w (hI S1) J) (g1 _) ?_
    refine (if_pos (by rw [e40]; rfl)).trans ?_
    refine cV_go (st := mkS w (hI S2) J) ?_ ?_
    · simp only [gI_mk, gJ_mk, zl]
      exact f1 (d + 3)
    refine cV_go (st := mkS w (hI S2) J) ?_ ?_
    · exact m_sumB (d := d + 1) f2
    refine cV_go (st := mkS w (hI S2) J) ?_ ?_
    · simp only [gI_mk, gJ_mk, zl]
      exact M_signB (d := d + 3) f2
    simp (disch := omega) only [hk, hu, hI_n, hI_un, z_nat, em_d, zl, z_add, z_sub, z_mul, z_lt, z_eq, gI_mk, gJ_mk, cI_some, cV_some, cJ_some, cI_x, cV_x, cJ_x, uS_self, uS_ne, if_pos, if_neg, b01, b01n, ite_not, if_true, if_false, Bool.false_eq_true, rV_d]
theorem unit_PS (he : e ≤ 150) (hr : r < 6) (hF : Fok X B e bw r F) {q : Nat} (hqe : q ≤ e) (hqs : sk B e q = q) (k : q < e ∧ B q = 40) : PUq X B e bw (r + 1) q := by
  have e40 : bt0 B e q = 40 := (bt0_c (by decide)).mpr k
  have s1 := sk_ge (B := B) (e := e) (p := q + 1)
  have hb := iW_c bw
  have eo : 6 - ((r + 1 : Nat) : Int) + 1 = 6 - (r : Int) := by omega
  obtain ⟨w1, u1, u2⟩ := hF (sk B e (q + 1)) (sk_le (by omega)) sk_sk
  refine ⟨outPar B e F (sk B e (q + 1)), ?_, fun w J S cd hT hK hl => ?_, fun w J S p cd hM hs h7 hK hl => ?_⟩
  · unfold outPar
    cases e1 : F (sk B e (q + 1)) with
    | inl g => trivial
    | inr y =>
      rw [e1] at w1
      obtain ⟨⟨a1, a2, a3, a4⟩, a6, a5⟩ := w1
      dsimp only
      by_cases k2 : y.2 < e ∧ B y.2 = 41
      · rw [if_pos k2]
        have s2 := sk_ge (B := B) (e := e) (p := y.2 + 1)
        refine ⟨⟨?_, ?_, sk_sk, sk_le (by omega)⟩, a6, a5⟩
        · show q < sk B e (y.2 + 1)
          omega
        · show y.1.length + q ≤ sk B e (y.2 + 1)
          omega
      · rw [if_neg k2]
        trivial
  · obtain ⟨S1, g1, g2, g3, g4⟩ := T_takes1 (X := X) w J hT (c := 40) (by decide) k
    obtain ⟨S2, f1, f2, f3⟩ := u1 w J S1 cd g2 (CKl_ft (by omega) hK g4) (by omega)
    have head : ∀ (d : Nat) (R : aRes), (cI (some (.inl (some (.int (zI (sg (F (sk B e (q + 1))))))), (mkS w (hI S2) J))) (fun r30 s29 => if r30 = nI 0 then rI (nI 0) (mkS w (gI s29) (gJ s29)) else cI (am_call X aP (d + (4 * (r + 1) + 5)) 88 [.ref 1, .int (nI 41)] (mkS w (gI s29) (gJ s29))) (fun r32 s31 => if r32 = nI 0 then rI (nI 0) (mkS w (gI s31) (gJ s31)) else rI (nI 1) (mkS w (gI s31) (gJ s31))) (fun e9 s29 => rX e9 (mkS w (gI s29) (gJ s29)))) (fun e9 s27 => rX e9 (mkS w (gI s27) (gJ s27))) = R) → am_call X aP (d + (4 * (r + 1) + 6)) 33 [.ref (iW bw), .ref 1, .int (zI (6 - ((r + 1 : Nat) : Int)))] (mkS w (hI S) J) = R := fun d R hR => by
      rw [show d + (4 * (r + 1) + 6) = (d + (4 * (r + 1) + 5)) + 1 from rfl, go_X3_readUnit, e_X3_readUnit_0]
      refine cI_go (r := zI 0) (st := mkS w (hI S) J) ?_ ?_
      · have := T_digit (X := X) (d := d + (4 * (r + 1) + 3)) (w := w) (J := J) hT
        rw [if_neg (nd40 k.2)] at this
        exact this
      refine (if_pos rfl).trans ?_
      refine cI_go (r := zI 1) (st := mkS w (hI S1) J) ?_ ?_
      · simp only [gI_mk, gJ_mk, zl]
        exact g1 (d + (4 * (r + 1) + 3))
      refine (if_neg (by decide)).trans ?_
      refine cI_go (r := zI 1) (st := mkS w (hI S1) J) ?_ ?_
      · simp only [gI_mk, gJ_mk]
        exact c_opens1 (d := d + (4 * (r + 1) + 3)) w J ⟨by omega, by omega⟩
      refine (if_neg (by decide)).trans ?_
      simp only [gI_mk, gJ_mk, zl, z_add, eo]
      have f1 := f1 (d + 1)
      rw [show d + 1 + (4 * r + 8) = d + (4 * (r + 1) + 5) by omega] at f1
      rw [f1]
      simp only [zl] at hR
      exact hR
    unfold outPar
    cases e1 : F (sk B e (q + 1)) with
    | inl g =>
      rw [e1] at f2 head
      refine ⟨S2, fun d => head d _ ?_, f2, FW_tr (FW_t g4) f3⟩
      simp (disch := omega) only [hk, hu, hI_n, hI_un, z_nat, em_d, zl, z_add, z_sub, z_mul, z_lt, z_eq, gI_mk, gJ_mk, cI_some, cV_some, cJ_some, cI_x, cV_x, cJ_x, uS_self, uS_ne, if_pos, if_neg, b01, b01n, ite_not, if_true, if_false, Bool.false_eq_true, hLL, sg_l, rI_d]
    | inr y =>
      rw [e1] at f2 head
      obtain ⟨hT2, hK2⟩ := f2
      dsimp only
      by_cases k2 : y.2 < e ∧ B y.2 = 41
      · rw [if_pos k2]
        obtain ⟨S3, y1, y2, y3⟩ := T_needs1 (X := X) w J hT2 (c := 41) (by decide) k2
        refine ⟨S3, fun d => head d _ ?_, ⟨y2, CKl_ft (by omega) hK2 y3⟩, FW_tr (FW_t g4) (FW_tr f3 (FW_t y3))⟩
        rw [cI_some, sg_r]
        refine (if_neg (by decide)).trans ?_
        refine cI_go (r := zI 1) (st := mkS w (hI S3) J) ?_ ?_
        · simp only [gI_mk, gJ_mk, zl]
          exact y1 (d + (4 * (r + 1) + 2))
        simp (disch := omega) only [hk, hu, hI_n, hI_un, z_nat, em_d, zl, z_add, z_sub, z_mul, z_lt, z_eq, gI_mk, gJ_mk, cI_some, cV_some, cJ_some, cI_x, cV_x, cJ_x, uS_self, uS_ne, if_pos, if_neg, b01, b01n, ite_not, if_true, if_false, Bool.false_eq_true, hLL, rI_d]
        rfl
      · rw [if_neg k2]
        obtain ⟨S3, y1, y2, y3⟩ := T_needs0 (X := X) w J hT2 (c := 41) (by decide) k2
        refine ⟨S3, fun d => head d _ ?_, y2, FW_tr (FW_t g4) (FW_tr f3 (FW_t y3))⟩
        rw [cI_some, sg_r]
        refine (if_neg (by decide)).trans ?_
        refine cI_go (r := zI 0) (st := mkS w (hI S3) J) ?_ ?_
        · simp only [gI_mk, gJ_mk, zl]
          exact y1 (d + (4 * (r + 1) + 2))
        simp (disch := omega) only [hk, hu, hI_n, hI_un, z_nat, em_d, zl, z_add, z_sub, z_mul, z_lt, z_eq, gI_mk, gJ_mk, cI_some, cV_some, cJ_some, cI_x, cV_x, cJ_x, uS_self, uS_ne, if_pos, if_neg, b01, b01n, ite_not, if_true, if_false, Bool.false_eq_true, hLL, rI_d]
        rfl
  · obtain ⟨S1, g1, g2, g3⟩ := M_here (X := X) w J hM
    rw [hs] at g1 g2
    obtain ⟨S2, f1, f2, f3, f4, f5, f6⟩ := m_opensOne1 (X := X) (x := 1) w J g2 (by omega) ((g3.2 7 (by decide)).trans h7) ⟨by omega, by omega⟩
    obtain ⟨S3, y1, y2, y3⟩ := u2 w J S2 (q + 1) cd f2 rfl (by rw [f3, eo]) (CKp_o (MKl_m hK g3) f4 (f6 139 (by decide)) (f6 140 (by decide))) (by omega)
    have fin : ∃ S4, (∀ d, am_call X aP (d + 2) 166 [.ref 132, .int (zI 41)] (mkS w (hI S3) J) = some (.inl none, (mkS w (hI S4) J))) ∧ LmFin S4 B e cd (6 - (r : Int)) (outPar B e F (sk B e (q + 1))) ∧ FZ S3 S4 := by
      unfold outPar
      cases e1 : F (sk B e (q + 1)) with
      | inl g =>
        rw [e1] at y2
        exact ⟨S3, fun d => M_signB y2, y2, FZ_rf _⟩
      | inr y =>
        rw [e1] at y2
        obtain ⟨⟨p2, hM2, hs2⟩, hK2, h72⟩ := y2
        dsimp only
        by_cases k2 : y.2 < e ∧ B y.2 = 41
        · rw [if_pos k2]
          obtain ⟨S4, z1, z2, z3⟩ := M_sign1 (X := X) w J hM2 (c := 41) (by decide) (by rw [hs2]; exact k2)
          rw [hs2] at z2
          exact ⟨S4, z1, ⟨⟨_, z2, rfl⟩, MKl_m hK2 z3, (z3.2 7 (by decide)).trans h72⟩, FZ_m z3⟩
        · rw [if_neg k2]
          obtain ⟨S4, z1, z2, z3⟩ := M_sign0 (X := X) w J hM2 (c := 41) (by decide) (by rw [hs2]; exact k2)
          rw [hs2] at z2
          exact ⟨S4, z1, z2, FZ_m z3⟩
    obtain ⟨S4, z1, z2, z3⟩ := fin
    have z4 := dec7_l (v := S4 132 7 - 1) z2 (fun y hy => by
      rw [hy] at z2
      rw [z2.2.2])
    rw [show 6 - (r : Int) - 1 = 6 - ((r + 1 : Nat) : Int) by omega] at z4
    refine ⟨uS S4 132 7 (S4 132 7 - 1), fun d => ?_, z4, FZ_tr (FZ_m g3) (FZ_tr f5 (FZ_tr y3 (FZ_tr z3 (FZ_7 _ _ (Or.inr rfl)))))⟩
    rw [show d + (4 * (r + 1) + 6) = (d + (4 * (r + 1) + 5)) + 1 from rfl, go_X10_readUnit, e_X10_readUnit_0]
    refine cI_go (r := zI 1) (st := mkS w (hI S) J) (M_fine1 hM) ?_
    refine (if_neg (by decide)).trans ?_
    refine cI_go (r := zI (bt0 B e q)) (st := mkS w (hI S1) J) (g1 _) ?_
    refine (if_pos (by rw [e40]; rfl)).trans ?_
    refine cV_go (st := mkS w (hI S2) J) ?_ ?_
    · simp only [gI_mk, gJ_mk, zl]
      exact f1 (d + (4 * (r + 1) + 3))
    refine cV_go (st := mkS w (hI S3) J) ?_ ?_
    · have y1 := y1 (d + 1)
      rw [show d + 1 + (4 * r + 8) = d + (4 * (r + 1) + 5) by omega] at y1
      exact y1
    refine cV_go (st := mkS w (hI S4) J) ?_ ?_
    · simp only [gI_mk, gJ_mk, zl]
      exact z1 (d + (4 * (r + 1) + 3))
    simp (disch := omega) only [hk, hu, hI_n, hI_un, z_nat, em_d, zl, z_add, z_sub, z_mul, z_lt, z_eq, gI_mk, gJ_mk, cI_some, cV_some, cJ_some, cI_x, cV_x, cJ_x, uS_self, uS_ne, if_pos, if_neg, b01, b01n, ite_not, if_true, if_false, Bool.false_eq_true, rV_d]
/-- the reference's two in brackets, with what opens and what is emitted -/
theorem m_rTwo0 {p : Nat} {S : Hp} {x code : Int} (hM : Mp S B e p) (h7 : S 132 7 = 6) : ∃ S', (∀ d, am_call X aP (d + 5) 184 [.ref 132, .int (zI x), .int (zI code)] (mkS w (hI S) J) = some (.inl none, (mkS w (hI S') J))) ∧ Bd S' 3 (p : Int) ∧ FZ S S' := by
  obtain ⟨S2, f1, f2, f3⟩ := m_opensOne0 (X := X) (x := x) w J hM h7
  refine ⟨uS S2 132 7 (S2 132 7 - 1), fun d => ?_, Bd_o f2 (uS_ne _ _ (Or.inr (by decide))) (uS_ne _ _ (Or.inr (by decide))), FZ_tr f3 (FZ_7 _ _ (Or.inr rfl))⟩
  have f2' : Bd (uS S2 132 7 (S2 132 7 - 1)) 3 (p : Int) := Bd_o f2 (uS_ne _ _ (Or.inr (by decide))) (uS_ne _ _ (Or.inr (by decide)))
  rw [show d + 5 = (d + 4) + 1 from rfl, go_X10_readTwo, e_X10_readTwo_0]
  refine cV_go (st := mkS w (hI S2) J) (f1 (d + 2)) ?_
  refine cV_go (st := mkS w (hI S2) J) ?_ ?_
  · simp only [gI_mk, gJ_mk, zl]
    exact M_signB (d := d + 2) f2
  refine cV_go (st := mkS w (hI S2) J) (m_sumB (d := d) f2) ?_
  refine cV_go (st := mkS w (hI S2) J) ?_ ?_
  · simp only [gI_mk, gJ_mk, zl]
    exact M_signB (d := d + 2) f2
  refine cV_go (st := mkS w (hI S2) J) (m_sumB (d := d) f2) ?_
  refine cV_go (st := mkS w (hI S2) J) ?_ ?_
  · simp only [gI_mk, gJ_mk, zl]
    exact M_signB (d := d + 2) f2
  refine cV_go (st := mkS w (hI (uS S2 132 7 (S2 132 7 - 1))) J) ?_ ?_
  · simp (disch := omega) only [hk, hu, hI_n, hI_un, z_nat, em_d, zl, z_add, z_sub, z_mul, z_lt, z_eq, gI_mk, gJ_mk, cI_some, cV_some, cJ_some, cI_x, cV_x, cJ_x, uS_self, uS_ne, if_pos, if_neg, b01, b01n, ite_not, if_true, if_false, Bool.false_eq_true]
    exact m_emitB (d := d + 2) f2'
  simp (disch := omega) only [hk, hu, hI_n, hI_un, z_nat, em_d, zl, z_add, z_sub, z_mul, z_lt, z_eq, gI_mk, gJ_mk, cI_some, cV_some, cJ_some, cI_x, cV_x, cJ_x, uS_self, uS_ne, if_pos, if_neg, b01, b01n, ite_not, if_true, if_false, Bool.false_eq_true, rV_d]
theorem m_rTwoS (he : e ≤ 150) (hr : r < 6) (hF : Fok X B e bw r F) {p x : Nat} {S : Hp} {cd : List (Int × Int)} {code : Int} (hM : Mp S B e p) (hx : p + x ≤ e) (h7 : S 132 7 = 6 - ((r + 1 : Nat) : Int)) (hK : MKl S cd) (hl : cd.length ≤ p) : ∃ S', (∀ d, am_call X aP (d + (4 * (r + 1) + 5)) 184 [.ref 132, .int (zI (x : Int)), .int (zI code)] (mkS w (hI S) J) = some (.inl none, (mkS w (hI S') J))) ∧ LmFin S' B e cd (6 - ((r + 1 : Nat) : Int)) (outW code (outTwo B e F (sk B e (p + x)))) ∧ FZ S S' := by
  have eo : 6 - ((r + 1 : Nat) : Int) + 1 = 6 - (r : Int) := by omega
  have s1 := sk_ge (B := B) (e := e) (p := p + x)
  obtain ⟨S0, f1, f2, f3, f4, f5, f6⟩ := m_opensOne1 (X := X) (x := x) w J hM hx h7 ⟨by omega, by omega⟩
  obtain ⟨S1, S2, S3, S4, S5, c1, c2, c3, c4, c5, c6, c7⟩ := m_two (X := X) he hF f2 rfl (by rw [f3, eo]) (CKp_o hK f4 (f6 139 (by decide)) (f6 140 (by decide))) (by omega)
  have z4 := dec7_l (v := S5 132 7 - 1) c6 (fun y hy => by
    rw [hy] at c6
    rw [c6.2.2])
  rw [show 6 - (r : Int) - 1 = 6 - ((r + 1 : Nat) : Int) by omega] at z4
  have fin : ∃ S6, (∀ d, am_call X aP (d + 2) 180 [.ref 132, .int (zI code), .int (zI 0)] (mkS w (hI (uS S5 132 7 (S5 132 7 - 1))) J) = some (.inl none, (mkS w (hI S6) J))) ∧ LmFin S6 B e cd (6 - ((r + 1 : Nat) : Int)) (outW code (outTwo B e F (sk B e (p + x)))) ∧ FZ (uS S5 132 7 (S5 132 7 - 1)) S6 := by
    cases e1 : outTwo B e F (sk B e (p + x)) with
    | inl g =>
      rw [e1] at z4
      exact ⟨_, fun d => m_emitB z4, z4, FZ_rf _⟩
    | inr z =>
      rw [e1] at z4
      obtain ⟨⟨p', h1, h2⟩, h3, h4⟩ := z4
      obtain ⟨⟨b1, b2, b3, b4⟩, -⟩ := two_wf hF (sk_le (by omega)) e1
      obtain ⟨S6, v1, v2, v3, v4, v5⟩ := m_emit (X := X) w J h1 h3 (by rw [List.length_append]; omega) (code, 0)
      refine ⟨S6, v1, ⟨⟨p', v3, h2⟩, ?_, v4.trans h4⟩, v5⟩
      show MKl S6 (cd ++ (z.1 ++ [(code, 0)]))
      rw [← List.append_assoc]
      exact v2
  obtain ⟨S6, v1, v2, v3⟩ := fin
  refine ⟨S6, fun d => ?_, v2, FZ_tr f5 (FZ_tr c7 (FZ_tr (FZ_7 _ _ (Or.inr rfl)) v3))⟩
  rw [show d + (4 * (r + 1) + 5) = (d + (4 * r + 8)) + 1 by omega, go_X10_readTwo, e_X10_readTwo_0]
  refine cV_go (st := mkS w (hI S0) J) (f1 (d + (4 * r + 6))) ?_
  refine cV_go (st := mkS w (hI S1) J) ?_ ?_
  · simp only [gI_mk, gJ_mk, zl]
    exact c1 (d + (4 * r + 6))
  refine cV_go (st := mkS w (hI S2) J) (c2 d) ?_
  refine cV_go (st := mkS w (hI S3) J) ?_ ?_
  · simp only [gI_mk, gJ_mk, zl]
    exact c3 (d + (4 * r + 6))
  refine cV_go (st := mkS w (hI S4) J) (c4 d) ?_
  refine cV_go (st := mkS w (hI S5) J) ?_ ?_
  · simp only [gI_mk, gJ_mk, zl]
    exact c5 (d + (4 * r + 6))
  refine cV_go (st := mkS w (hI S6) J) ?_ ?_
  · simp (disch := omega) only [hk, hu, hI_n, hI_un, z_nat, em_d, zl, z_add, z_sub, z_mul, z_lt, z_eq, gI_mk, gJ_mk, cI_some, cV_some, cJ_some, cI_x, cV_x, cJ_x, uS_self, uS_ne, if_pos, if_neg, b01, b01n, ite_not, if_true, if_false, Bool.false_eq_true]
    exact v1 (d + (4 * r + 6))
  simp (disch := omega) only [hk, hu, hI_n, hI_un, z_nat, em_d, zl, z_add, z_sub, z_mul, z_lt, z_eq, gI_mk, gJ_mk, cI_some, cV_some, cJ_some, cI_x, cV_x, cJ_x, uS_self, uS_ne, if_pos, if_neg, b01, b01n, ite_not, if_true, if_false, Bool.false_eq_true, rV_d]
end LW6
