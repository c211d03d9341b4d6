/-! A WORK RUNS: the reference -/
def RM (nT nR nC : Int) (rd : Int → Int) (cd : List (Int × Int)) (S : Hp) (x : GSt) : Prop := LdP S nT nR nC rd ∧ CdP S cd ∧ ScP nR nC S x.1 ∧ InvS rd nR nC x.1 ∧ S 132 33 = (x.2.1 : Int) ∧ S 132 34 = (x.2.2.1 : Int) ∧ S 132 35 = (x.2.2.2 : Int)
def FG (S S' : Hp) : Prop := Fr [132, 143, 144, 150, 148] S S' ∧ ∀ k, k < 33 ∨ 35 < k → S' 132 k = S 132 k
theorem FG_rf (S : Hp) : FG S S := ⟨fun _ _ => rfl, fun _ _ => rfl⟩
theorem FG_tr {S S1 S2 : Hp} (h : FG S S1) (h2 : FG S1 S2) : FG S S2 := ⟨fun o ho => (h2.1 o ho).trans (h.1 o ho), fun k hk1 => (h2.2 k hk1).trans (h.2 k hk1)⟩
theorem FG_u (S : Hp) {k : Int} (v : Int) (h : 33 ≤ k ∧ k ≤ 35) : FG S (uS S 132 k v) := ⟨fun o ho => uS_row _ _ _ (fun z => ho (by rw [z]; decide)), fun x hx => uS_ne _ _ (Or.inr (by omega))⟩
theorem FG_d {S S' : Hp} (h : Fr [143, 144, 150, 148] S S') : FG S S' := ⟨Fr_mono h (fun o ho => List.mem_cons_of_mem _ ho), fun k _ => by rw [h 132 (by decide)]⟩
theorem LdP_g {S S' : Hp} {nT nR nC : Int} {rd : Int → Int} (h : LdP S nT nR nC rd) (hq : FG S S') : LdP S' nT nR nC rd := LdP_of h (hq.2 _ (by decide)) (hq.2 _ (by decide)) (hq.2 _ (by decide)) (fun k _ _ => by rw [hq.1 137 (by decide)])
theorem CdP_g {S S' : Hp} {cd : List (Int × Int)} (h : CdP S cd) (hq : FG S S') : CdP S' cd := CdP_of h (hq.2 _ (by decide)) (hq.1 141 (by decide)) (hq.1 142 (by decide))
theorem MSt_g {S S' : Hp} {L : List Tk} {j : Nat} (h : MSt S 146 L j) (hq : FG S S') : MSt S' 146 L j := MSt_ext L j (fun x _ _ => by rw [hq.1 146 (by decide)]) h
section MGO
variable {X : Nat × (Nat → Int32)} {d : Nat} {w : Bool × Bool × Bool} {S : Hp} {J : Nat → Nat → Int64} {nT nR nC : Int} {rd : Int → Int} {cd : List (Int × Int)} {j E r : Nat} {x : GSt}
theorem m_gstep (h : RM nT nR nC rd cd S x) (hE : 3 * j + 3 ≤ E ∧ E ≤ 150) {k a b : Int} (h0 : S 146 ((3 * j : Nat) : Int) = k) (h1 : S 146 ((3 * j + 1 : Nat) : Int) = a) (h2 : S 146 ((3 * j + 2 : Nat) : Int) = b) (hok : okst nC nR k a b) (hb : x.2.1 < 200) (hdn : x.2.2.1 + x.2.2.2 ≤ 200) : ∃ S', (∀ f, aR X (d + r + 7) m_X10_goesSteps (f + 1) 2 [some (.ref 132), none, some (.int (zI E)), some (.int (zI ((3 * j : Nat)))), none, none] (0, 0) (mkS w (hI S) J) = aR X (d + r + 7) m_X10_goesSteps f 2 [some (.ref 132), none, some (.int (zI E)), some (.int (zI ((3 * (j + 1) : Nat)))), none, none] (0, 0) (mkS w (hI S') J)) ∧ RM nT nR nC rd cd S' (gst cd rd nR nC k a b x) ∧ FG S S' := by
  obtain ⟨a1, a2, a3, a4, a5, a6, a7⟩ := h
  have hL := a1
  obtain ⟨-, -, -, -, -, -, r1, r2, r3, r4, r5⟩ := hL
  have hkk : k ≠ 5 ∧ 0 ≤ k ∧ k ≤ 4 := by
    unfold okst at hok
    omega
  have e0 : S 146 (3 * (j : Int)) = k := by rw [← h0]; congr 1
  have e1 : S 146 (3 * (j : Int) + 1) = a := by rw [← h1]; congr 1
  have e2 : S 146 (3 * (j : Int) + 2) = b := by rw [← h2]; congr 1
  have q0 := FG_u S (k := 33) ((x.2.1 : Int) + 1) (by decide)
  obtain ⟨S1, g1, g2, g3⟩ := m_isDone (X := X) (d := d + r) (w := w) (J := J) (LdP_g a1 q0) (ScP_u a3 (o := 132) 33 ((x.2.1 : Int) + 1) (by decide)) a4.1 (CdP_g a2 q0) (okst_ok hok)
  have inv := InvS_do (cd := cd) a4 r5 r2 ⟨r3, r4⟩ (okst_ok hok)
  have r132 := g3 132 (by decide)
  have c3 : S1 132 33 = (x.2.1 : Int) + 1 := by rw [r132, uS_self]
  have c4 : S1 132 34 = (x.2.2.1 : Int) := by rw [r132, uS_ne _ _ (Or.inr (by decide))]; exact a6
  have c5 : S1 132 35 = (x.2.2.2 : Int) := by rw [r132, uS_ne _ _ (Or.inr (by decide))]; exact a7
  have q1 : FG S S1 := FG_tr q0 (FG_d g3)
  have ej : ((3 * (j + 1) : Nat) : Int) = 3 * (j : Int) + 3 := by omega
  have ej0 : ((3 * j : Nat) : Int) = 3 * (j : Int) := by omega
  by_cases p : canDo rd x.1 k a b = true
  · rw [if_pos p] at g1 g2 inv
    have eg : gst cd rd nR nC k a b x = (doF cd rd nR nC x.1 k a b, x.2.1 + 1, x.2.2.1 + 1, x.2.2.2) := if_pos p
    rw [eg]
    have q2 := FG_u S1 (k := 34) ((x.2.2.1 : Int) + 1) (by decide)
    refine ⟨uS S1 132 34 ((x.2.2.1 : Int) + 1), fun f => ?_, ⟨LdP_g a1 (FG_tr q1 q2), CdP_g a2 (FG_tr q1 q2), ScP_u g2 _ _ (by decide), inv, ?_, ?_, ?_⟩, FG_tr q1 q2⟩
    · rw [e_X10_goesSteps_2, ej, ej0]
      simp (disch := omega) only [hk, hu, hI_n, hI_un, z_nat, em_d, zl, z_add, z_sub, z_mul, z_lt, z_eq, gI_mk, gJ_mk, cI_some, cV_some, cJ_some, cI_x, cV_x, cJ_x, uS_self, uS_ne, if_pos, if_neg, b01, b01n, ite_not, if_true, if_false, Bool.false_eq_true, a5, e0, e1, e2]
      rw [g1]
      simp (disch := omega) only [hk, hu, hI_n, hI_un, z_nat, em_d, zl, z_add, z_sub, z_mul, z_lt, z_eq, gI_mk, gJ_mk, cI_some, cV_some, cJ_some, cI_x, cV_x, cJ_x, uS_self, uS_ne, if_pos, if_neg, b01, b01n, ite_not, if_true, if_false, Bool.false_eq_true, c4]
    · rw [uS_ne _ _ (Or.inr (by decide)), c3]
      rfl
    · rw [uS_self]
      rfl
    · rw [uS_ne _ _ (Or.inr (by decide)), c5]
  · rw [if_neg p] at g1 g2 inv
    have eg : gst cd rd nR nC k a b x = (x.1, x.2.1 + 1, x.2.2.1, x.2.2.2 + 1) := if_neg p
    rw [eg]
    have q2 := FG_u S1 (k := 35) ((x.2.2.2 : Int) + 1) (by decide)
    refine ⟨uS S1 132 35 ((x.2.2.2 : Int) + 1), fun f => ?_, ⟨LdP_g a1 (FG_tr q1 q2), CdP_g a2 (FG_tr q1 q2), ScP_u g2 _ _ (by decide), inv, ?_, ?_, ?_⟩, FG_tr q1 q2⟩
    · rw [e_X10_goesSteps_2, ej, ej0]
      simp (disch := omega) only [hk, hu, hI_n, hI_un, z_nat, em_d, zl, z_add, z_sub, z_mul, z_lt, z_eq, gI_mk, gJ_mk, cI_some, cV_some, cJ_some, cI_x, cV_x, cJ_x, uS_self, uS_ne, if_pos, if_neg, b01, b01n, ite_not, if_true, if_false, Bool.false_eq_true, a5, e0, e1, e2]
      rw [g1]
      simp (disch := omega) only [hk, hu, hI_n, hI_un, z_nat, em_d, zl, z_add, z_sub, z_mul, z_lt, z_eq, gI_mk, gJ_mk, cI_some, cV_some, cJ_some, cI_x, cV_x, cJ_x, uS_self, uS_ne, if_pos, if_neg, b01, b01n, ite_not, if_true, if_false, Bool.false_eq_true, c5]
    · rw [uS_ne _ _ (Or.inr (by decide)), c3]
      rfl
    · rw [uS_ne _ _ (Or.inr (by decide)), c4]
    · rw [uS_self]
      rfl
theorem m_gstop (h : RM nT nR nC rd cd S x) (hE : 3 * j ≤ E ∧ E ≤ 150) (hb2 : x.2.1 ≤ 200) (hq : 3 * j = E ∨ 200 ≤ x.2.1) {D f : Nat} : aR X D m_X10_goesSteps (f + 1) 2 [some (.ref 132), none, some (.int (zI E)), some (.int (zI ((3 * j : Nat)))), none, none] (0, 0) (mkS w (hI S) J) = some (.inl none, (mkS w (hI S) J)) := by
  have a5 := h.2.2.2.2.1
  have ej0 : ((3 * j : Nat) : Int) = 3 * (j : Int) := by omega
  rw [e_X10_goesSteps_2, ej0]
  by_cases k : 3 * j = E
  · simp (disch := omega) only [hk, hu, hI_n, hI_un, z_nat, em_d, zl, z_add, z_sub, z_mul, z_lt, z_eq, gI_mk, gJ_mk, cI_some, cV_some, cJ_some, cI_x, cV_x, cJ_x, uS_self, uS_ne, if_pos, if_neg, b01, b01n, ite_not, if_true, if_false, Bool.false_eq_true, rV_d]
  · simp (disch := omega) only [hk, hu, hI_n, hI_un, z_nat, em_d, zl, z_add, z_sub, z_mul, z_lt, z_eq, gI_mk, gJ_mk, cI_some, cV_some, cJ_some, cI_x, cV_x, cJ_x, uS_self, uS_ne, if_pos, if_neg, b01, b01n, ite_not, if_true, if_false, Bool.false_eq_true, a5, rV_d]
theorem m_gag (h : RM nT nR nC rd cd S x) (hE : 3 * j + 3 ≤ E ∧ E ≤ 150) (hb : x.2.1 < 200) {m : Int} {v : Nat} (h0 : S 146 ((3 * j : Nat) : Int) = 5) (h2 : S 146 ((3 * j + 2 : Nat) : Int) = (v : Int)) (hv : v ≤ 150) {D f : Nat} : aR X D m_X10_goesSteps (f + 1) 2 [some (.ref 132), none, some (.int (zI E)), some (.int (zI ((3 * j : Nat)))), none, none] (0, 0) (mkS w (hI S) J) = aR X D m_X10_goesSteps f 30 [some (.ref 132), none, some (.int (zI E)), some (.int (zI ((3 * j : Nat)))), some (.int (zI v)), some (.int (zI 0))] (0, 0) (mkS w (hI (uS S 132 33 ((x.2.1 : Int) + 1))) J) := by
  have a5 := h.2.2.2.2.1
  have ej0 : ((3 * j : Nat) : Int) = 3 * (j : Int) := by omega
  have e0 : S 146 (3 * (j : Int)) = 5 := by rw [← h0]; congr 1
  have e2 : S 146 (3 * (j : Int) + 2) = (v : Int) := by rw [← h2]; congr 1
  rw [e_X10_goesSteps_2, ej0]
  simp (disch := omega) only [hk, hu, hI_n, hI_un, z_nat, em_d, zl, z_add, z_sub, z_mul, z_lt, z_eq, gI_mk, gJ_mk, cI_some, cV_some, cJ_some, cI_x, cV_x, cJ_x, uS_self, uS_ne, if_pos, if_neg, b01, b01n, ite_not, if_true, if_false, Bool.false_eq_true, a5, e0, e2]
end MGO
