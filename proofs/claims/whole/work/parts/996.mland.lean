/-! THE LAND'S TEXT: the reference -/
section MLX
variable {X : Nat × (Nat → Int32)} {d : Nat} {w : Bool × Bool × Bool} {S : Hp} {J : Nat → Nat → Int64} {B : Nat → Int} {e p q t : Nat} {x : LSt}
theorem M_num0p (w : Bool × Bool × Bool) (J : Nat → Nat → Int64) (h : Mp S B e p) (hq : sk B e p = q) {lo hi : Int} (hlo : -1 ≤ lo ∧ lo < 9999) (hhi : -1 ≤ hi ∧ hi < 9999) (hn : ¬ numK B e q lo hi = 0) : ∃ S', (∀ d, am_call X aP (d + 2) 165 [.ref 132, .int (zI lo), .int (zI hi)] (mkS w (hI S) J) = some (.inl (some (.int (zI 0))), (mkS w (hI S') J))) ∧ Bd S' (numK B e q lo hi) (q : Int) ∧ (∃ p' : Nat, p' ≤ e ∧ S' 132 4 = (p' : Int)) ∧ FM S S' := by
  obtain ⟨S1, h1, h2, h3⟩ := M_here (X := X) w J h
  rw [hq] at h1 h2
  obtain ⟨a1, a3, a4, a5, a6, a7⟩ := id h2
  have hbr := bt0_r (q := q) a1 a4
  have hid := fun d => m_isDigit (X := X) (d := d) (w := w) (J := J) hbr (hI S1)
  by_cases q1 : q < e ∧ isD (B q) = true
  · have q2 : ¬ (lo ≤ numV B e q ∧ numV B e q ≤ hi) := fun z => hn (by unfold numK; rw [if_pos q1, if_pos z])
    have ek : numK B e q lo hi = 2 := by
      unfold numK
      rw [if_pos q1, if_neg q2]
    have hbd := bt0_d.mpr q1
    have q3 : ¬ (lo ≤ nmM 0 (dg B e q) ∧ nmM 0 (dg B e q) ≤ hi) := by
      rcases nmM_eq (dg B e q) 0 (dg_all B e q) (by decide) with z | z
      · rw [z]
        exact q2
      · have := z.1
        omega
    have hvr := nmM_r (dg B e q) 0 (dg_all B e q) (by decide) (by decide)
    have hle := dg_len B e q a5
    have hM3 : Mp (uS S1 132 4 (numE B e q : Nat)) B e (numE B e q) := Mp_t h2 (FM_u _ _ (by decide)) (uS_self _ _ _ _) ((uS_ne _ _ (Or.inr (by decide))).trans a7) hle
    obtain ⟨S2, h4, h5, h7, h6⟩ := M_wrong1 (X := X) w J hM3 2 (q : Int) (by omega)
    refine ⟨S2, fun d => ?_, by rw [ek]; exact h5, ⟨numE B e q, hle, by rw [h7, uS_self]⟩, FM_tr h3 (FM_tr (FM_u _ _ (by decide)) h6)⟩
    have hl := ml_digits (X := X) (d := d) (w := w) (J := J) a1 a4 a3 (lo := lo) (hi := hi) (t := (q : Int)) (e - q) q 0 (by omega) (by decide) (9999998 - (e - q))
    rw [uS_same S1 a6] at hl
    rw [go_X10_readNumber, e_X10_readNumber_0, M_fine1 h]
    simp (disch := omega) only [hk, hu, hI_n, hI_un, z_nat, em_d, zl, z_add, z_sub, z_mul, z_lt, z_eq, gI_mk, gJ_mk, cI_some, cV_some, cJ_some, cI_x, cV_x, cJ_x, uS_self, uS_ne, if_pos, if_neg, b01, b01n, ite_not, if_true, if_false, Bool.false_eq_true]
    rw [h1]
    simp (disch := omega) only [hk, hu, hI_n, hI_un, z_nat, em_d, zl, z_add, z_sub, z_mul, z_lt, z_eq, gI_mk, gJ_mk, cI_some, cV_some, cJ_some, cI_x, cV_x, cJ_x, uS_self, uS_ne, if_pos, if_neg, b01, b01n, ite_not, if_true, if_false, Bool.false_eq_true]
    rw [hid, if_pos hbd]
    simp (disch := omega) only [hk, hu, hI_n, hI_un, z_nat, em_d, zl, z_add, z_sub, z_mul, z_lt, z_eq, gI_mk, gJ_mk, cI_some, cV_some, cJ_some, cI_x, cV_x, cJ_x, uS_self, uS_ne, if_pos, if_neg, b01, b01n, ite_not, if_true, if_false, Bool.false_eq_true, a6]
    rw [show 9999999 = 9999998 - (e - q) + (e - q) + 1 by omega]
    refine hl.trans ?_
    rw [show 9999998 - (e - q) + (e - q) + 1 - (numE B e q - q) - 1 = (9999996 - (numE B e q - q)) + 1 + 1 by unfold numE; omega, e_X10_readNumber_59]
    have fin : ∀ n, aR X (d + 1) m_X10_readNumber (n + 1) 65 [some (.ref 132), none, none, none, some (.int (zI ((q : Int)))), none] (0, 0) (mkS w (hI (uS S1 132 4 (numE B e q : Nat))) J) = some (.inl (some (.int (zI 0))), (mkS w (hI S2) J)) := by
      intro n
      rw [e_X10_readNumber_65]
      simp (disch := omega) only [hk, hu, hI_n, hI_un, z_nat, em_d, zl, z_add, z_sub, z_mul, z_lt, z_eq, gI_mk, gJ_mk, cI_some, cV_some, cJ_some, cI_x, cV_x, cJ_x, uS_self, uS_ne, if_pos, if_neg, b01, b01n, ite_not, if_true, if_false, Bool.false_eq_true]
      rw [h4]
      simp (disch := omega) only [hk, hu, hI_n, hI_un, z_nat, em_d, zl, z_add, z_sub, z_mul, z_lt, z_eq, gI_mk, gJ_mk, cI_some, cV_some, cJ_some, cI_x, cV_x, cJ_x, uS_self, uS_ne, if_pos, if_neg, b01, b01n, ite_not, if_true, if_false, Bool.false_eq_true, rI_d]
    by_cases q4 : nmM 0 (dg B e q) < lo
    · simp (disch := omega) only [hk, hu, hI_n, hI_un, z_nat, em_d, zl, z_add, z_sub, z_mul, z_lt, z_eq, gI_mk, gJ_mk, cI_some, cV_some, cJ_some, cI_x, cV_x, cJ_x, uS_self, uS_ne, if_pos, if_neg, b01, b01n, ite_not, if_true, if_false, Bool.false_eq_true]
      exact fin _
    · simp (disch := omega) only [hk, hu, hI_n, hI_un, z_nat, em_d, zl, z_add, z_sub, z_mul, z_lt, z_eq, gI_mk, gJ_mk, cI_some, cV_some, cJ_some, cI_x, cV_x, cJ_x, uS_self, uS_ne, if_pos, if_neg, b01, b01n, ite_not, if_true, if_false, Bool.false_eq_true]
      exact fin _
  · have ek : numK B e q lo hi = 1 := by
      unfold numK
      rw [if_neg q1]
    obtain ⟨S2, h4, h5, h7, h6⟩ := M_wrong1 (X := X) w J h2 1 (q : Int) (by omega)
    refine ⟨S2, fun d => ?_, by rw [ek]; exact h5, ⟨q, a5, by rw [h7, a6]⟩, FM_tr h3 h6⟩
    rw [go_X10_readNumber, e_X10_readNumber_0, M_fine1 h]
    simp (disch := omega) only [hk, hu, hI_n, hI_un, z_nat, em_d, zl, z_add, z_sub, z_mul, z_lt, z_eq, gI_mk, gJ_mk, cI_some, cV_some, cJ_some, cI_x, cV_x, cJ_x, uS_self, uS_ne, if_pos, if_neg, b01, b01n, ite_not, if_true, if_false, Bool.false_eq_true]
    rw [h1]
    simp (disch := omega) only [hk, hu, hI_n, hI_un, z_nat, em_d, zl, z_add, z_sub, z_mul, z_lt, z_eq, gI_mk, gJ_mk, cI_some, cV_some, cJ_some, cI_x, cV_x, cJ_x, uS_self, uS_ne, if_pos, if_neg, b01, b01n, ite_not, if_true, if_false, Bool.false_eq_true]
    rw [hid, if_neg (fun z => q1 (bt0_d.mp z))]
    simp (disch := omega) only [hk, hu, hI_n, hI_un, z_nat, em_d, zl, z_add, z_sub, z_mul, z_lt, z_eq, gI_mk, gJ_mk, cI_some, cV_some, cJ_some, cI_x, cV_x, cJ_x, uS_self, uS_ne, if_pos, if_neg, b01, b01n, ite_not, if_true, if_false, Bool.false_eq_true, a6]
    rw [h4]
    simp (disch := omega) only [hk, hu, hI_n, hI_un, z_nat, em_d, zl, z_add, z_sub, z_mul, z_lt, z_eq, gI_mk, gJ_mk, cI_some, cV_some, cJ_some, cI_x, cV_x, cJ_x, uS_self, uS_ne, if_pos, if_neg, b01, b01n, ite_not, if_true, if_false, Bool.false_eq_true, rI_d]
/-- moving over blanks when something is wrong already -/
theorem M_hereB (w : Bool × Bool × Bool) (J : Nat → Nat → Int64) (hT : Tx S 134 B) (he : e ≤ 600) (h3 : S 132 3 = (e : Int)) (h4 : ∃ p' : Nat, p' ≤ e ∧ S 132 4 = (p' : Int)) {k pl : Int} (h : Bd S k pl) : ∃ S' v, (∀ d, am_call X aP (d + 1) 159 [.ref 132] (mkS w (hI S) J) = some (.inl (some (.int (zI v))), (mkS w (hI S') J))) ∧ Bd S' k pl ∧ FM S S' := by
  obtain ⟨p, hp, h4⟩ := h4
  refine ⟨uS S 132 4 (sk B e p : Nat), bt0 B e (sk B e p), fun d => ?_, Bd_o h (uS_ne _ _ (Or.inr (by decide))) (uS_ne _ _ (Or.inr (by decide))), FM_u _ _ (by decide)⟩
  have := l_here (X := X) (d := d) (w := w) (J := J) hT he h3 (e - p) p (10000000 - (e - p) - 2) (by omega)
  rw [uS_same S h4, show 10000000 - (e - p) - 2 + (e - p) + 2 = 9999999 + 1 by omega] at this
  rw [go_X10_here]
  exact this
def MLd (S : Hp) (x : LSt) : Prop := S 132 14 = x.1 ∧ S 132 15 = x.2.1 ∧ S 132 16 = x.2.2.1 ∧ (∀ r, 0 ≤ r → r < x.2.1 → S 135 (4 * r) = x.2.2.2.1 (4 * r) ∧ S 135 (4 * r + 1) = x.2.2.2.1 (4 * r + 1) ∧ S 135 (4 * r + 2) = x.2.2.2.1 (4 * r + 2) ∧ S 135 (4 * r + 3) = x.2.2.2.1 (4 * r + 3)) ∧ (∀ c, 0 ≤ c → c < x.2.2.1 → S 136 (2 * c) = x.2.2.2.2 (2 * c) ∧ S 136 (2 * c + 1) = x.2.2.2.2 (2 * c + 1)) ∧ okL x
abbrev FQ (S S' : Hp) : Prop := Fr [132, 135, 136] S S' ∧ ∀ k, k < 4 ∨ (6 < k ∧ k < 14) ∨ 16 < k → S' 132 k = S 132 k
theorem FQ_m {S S' : Hp} (h : FM S S') : FQ S S' := ⟨fun o ho => h.1 o (fun z => ho (by rw [List.mem_singleton.mp z]; exact List.mem_cons_self ..)), fun k hk1 => h.2 k (by omega)⟩
theorem FQ_tr {S S1 S2 : Hp} (h : FQ S S1) (h2 : FQ S1 S2) : FQ S S2 := ⟨fun o ho => (h2.1 o ho).trans (h.1 o ho), fun k hk1 => (h2.2 k hk1).trans (h.2 k hk1)⟩
theorem FQ_5 (S : Hp) (a v : Int) : FQ S (uS S 135 a v) := ⟨fun x hx => uS_row _ _ _ (fun z => hx (by rw [z]; decide)), fun k _ => by rw [uS_row _ _ _ (by decide)]⟩
theorem FQ_6 (S : Hp) (a v : Int) : FQ S (uS S 136 a v) := ⟨fun x hx => uS_row _ _ _ (fun z => hx (by rw [z]; decide)), fun k _ => by rw [uS_row _ _ _ (by decide)]⟩
theorem FQ_2 (S : Hp) {a : Int} (v : Int) (h : 14 ≤ a ∧ a ≤ 16) : FQ S (uS S 132 a v) := ⟨fun x hx => uS_row _ _ _ (fun z => hx (by rw [z]; decide)), fun k hk9 => uS_ne _ _ (Or.inr (by omega))⟩
theorem MLd_m {S S' : Hp} (h : MLd S x) (hF : FM S S') : MLd S' x := by
  unfold MLd
  rw [hF.2 14 (by decide), hF.2 15 (by decide), hF.2 16 (by decide), hF.1 135 (by decide), hF.1 136 (by decide)]
  exact h
def mdFin (S' : Hp) (B : Nat → Int) (e : Nat) (r : Flt ⊕ (LSt × Nat)) : Prop := match r with
  | .inl f => Bd S' f.1 f.2
  | .inr y => (∃ p', Mp S' B e p' ∧ sk B e p' = y.2) ∧ MLd S' y.1
theorem m_town1 (w : Bool × Bool × Bool) (J : Nat → Nat → Int64) (h : Mp S B e p) (hq : sk B e p = q) (hL : MLd S x) (hn : numK B e q 0 (x.1 - 1) = 0) : ∃ S', (∀ d, am_call X aP (d + 3) 176 [.ref 132] (mkS w (hI S) J) = some (.inl (some (.int (zI (numV B e q)))), (mkS w (hI S') J))) ∧ Mp S' B e (numE B e q) ∧ FM S S' := by
  obtain ⟨t14, -, -, -, -, ⟨o1, o2⟩, -⟩ := id hL
  obtain ⟨S1, g1, g2, g3⟩ := M_num1 (X := X) w J h hq (lo := 0) (hi := x.1 - 1) (by omega) (by omega) hn
  refine ⟨S1, fun d => ?_, g2, g3⟩
  rw [go_X10_readTown, e_X10_readTown_0]
  simp (disch := omega) only [hk, hu, hI_n, hI_un, z_nat, em_d, zl, z_add, z_sub, z_mul, z_lt, z_eq, gI_mk, gJ_mk, cI_some, cV_some, cJ_some, cI_x, cV_x, cJ_x, uS_self, uS_ne, if_pos, if_neg, b01, b01n, ite_not, if_true, if_false, Bool.false_eq_true, t14]
  rw [g1]
  simp (disch := omega) only [hk, hu, hI_n, hI_un, z_nat, em_d, zl, z_add, z_sub, z_mul, z_lt, z_eq, gI_mk, gJ_mk, cI_some, cV_some, cJ_some, cI_x, cV_x, cJ_x, uS_self, uS_ne, if_pos, if_neg, b01, b01n, ite_not, if_true, if_false, Bool.false_eq_true, rI_d]
theorem m_town0 (w : Bool × Bool × Bool) (J : Nat → Nat → Int64) (h : Mp S B e p) (hq : sk B e p = q) (hL : MLd S x) (hn : ¬ numK B e q 0 (x.1 - 1) = 0) : ∃ S', (∀ d, am_call X aP (d + 3) 176 [.ref 132] (mkS w (hI S) J) = some (.inl (some (.int (zI 0))), (mkS w (hI S') J))) ∧ Bd S' (numK B e q 0 (x.1 - 1)) (q : Int) ∧ (∃ p' : Nat, p' ≤ e ∧ S' 132 4 = (p' : Int)) ∧ FM S S' := by
  obtain ⟨t14, -, -, -, -, ⟨o1, o2⟩, -⟩ := id hL
  obtain ⟨S1, g1, g2, g3, g4⟩ := M_num0p (X := X) w J h hq (lo := 0) (hi := x.1 - 1) (by omega) (by omega) hn
  refine ⟨S1, fun d => ?_, g2, g3, g4⟩
  rw [go_X10_readTown, e_X10_readTown_0]
  simp (disch := omega) only [hk, hu, hI_n, hI_un, z_nat, em_d, zl, z_add, z_sub, z_mul, z_lt, z_eq, gI_mk, gJ_mk, cI_some, cV_some, cJ_some, cI_x, cV_x, cJ_x, uS_self, uS_ne, if_pos, if_neg, b01, b01n, ite_not, if_true, if_false, Bool.false_eq_true, t14]
  rw [g1]
  simp (disch := omega) only [hk, hu, hI_n, hI_un, z_nat, em_d, zl, z_add, z_sub, z_mul, z_lt, z_eq, gI_mk, gJ_mk, cI_some, cV_some, cJ_some, cI_x, cV_x, cJ_x, uS_self, uS_ne, if_pos, if_neg, b01, b01n, ite_not, if_true, if_false, Bool.false_eq_true, rI_d]
theorem m_rdTownB {k pl : Int} (h : Bd S k pl) : am_call X aP (d + 3) 176 [.ref 132] (mkS w (hI S) J) = some (.inl (some (.int (zI 0))), (mkS w (hI S) J)) := by
  obtain ⟨hh, hh2⟩ : ∃ v : Int32, v = hI S 132 14 - nI 1 := ⟨_, rfl⟩
  have h5 := fun d => M_fine0 (X := X) (d := d) (w := w) (J := J) h
  rw [go_X10_readTown, e_X10_readTown_0, go_X10_readNumber, e_X10_readNumber_0, h5]
  simp (disch := omega) only [hk, hu, hI_n, hI_un, z_nat, em_d, zl, z_add, z_sub, z_mul, z_lt, z_eq, gI_mk, gJ_mk, cI_some, cV_some, cJ_some, cI_x, cV_x, cJ_x, uS_self, uS_ne, if_pos, if_neg, b01, b01n, ite_not, if_true, if_false, Bool.false_eq_true, rI_d]
theorem l_22B {k pl a b : Int} (h : Bd S k pl) {n : Nat} : aR X (d + 3) m_X10_readRoad (n + 1) 22 [some (.ref 132), some (.int (zI a)), none, some (.int (zI b)), none, none] (0, 0) (mkS w (hI S) J) = some (.inl none, (mkS w (hI S) J)) := by
  rw [e_X10_readRoad_22]
  refine cI_go (r := zI 0) (st := mkS w (hI S) J) ?_ ?_
  · simp (disch := omega) only [hk, hu, hI_n, hI_un, z_nat, em_d, zl, z_add, z_sub, z_mul, z_lt, z_eq, gI_mk, gJ_mk, cI_some, cV_some, cJ_some, cI_x, cV_x, cJ_x, uS_self, uS_ne, if_pos, if_neg, b01, b01n, ite_not, if_true, if_false, Bool.false_eq_true]
    exact M_numB h
  refine cI_go (r := zI 0) (st := mkS w (hI S) J) ?_ ?_
  · simp (disch := omega) only [hk, hu, hI_n, hI_un, z_nat, em_d, zl, z_add, z_sub, z_mul, z_lt, z_eq, gI_mk, gJ_mk, cI_some, cV_some, cJ_some, cI_x, cV_x, cJ_x, uS_self, uS_ne, if_pos, if_neg, b01, b01n, ite_not, if_true, if_false, Bool.false_eq_true]
    exact M_numB h
  refine cI_go (r := zI 0) (st := mkS w (hI S) J) ?_ ?_
  · simp (disch := omega) only [hk, hu, hI_n, hI_un, z_nat, em_d, zl, z_add, z_sub, z_mul, z_lt, z_eq, gI_mk, gJ_mk, cI_some, cV_some, cJ_some, cI_x, cV_x, cJ_x, uS_self, uS_ne, if_pos, if_neg, b01, b01n, ite_not, if_true, if_false, Bool.false_eq_true]
    exact M_fine0 h
  simp (disch := omega) only [hk, hu, hI_n, hI_un, z_nat, em_d, zl, z_add, z_sub, z_mul, z_lt, z_eq, gI_mk, gJ_mk, cI_some, cV_some, cJ_some, cI_x, cV_x, cJ_x, uS_self, uS_ne, if_pos, if_neg, b01, b01n, ite_not, if_true, if_false, Bool.false_eq_true, rV_d]
/-- the rest of a road: length and day -/
theorem l_22_2 (w : Bool × Bool × Bool) (J : Nat → Nat → Int64) (h : Mp S B e p) (hq : sk B e p = q) (k2 : ¬ numK B e q 1 40 = 0) {a b : Int} : ∃ S', (∀ d n, aR X (d + 3) m_X10_readRoad (n + 1) 22 [some (.ref 132), some (.int (zI a)), none, some (.int (zI b)), none, none] (0, 0) (mkS w (hI S) J) = some (.inl none, (mkS w (hI S') J))) ∧ Bd S' (numK B e q 1 40) (q : Int) ∧ FM S S' := by
  obtain ⟨S1, g1, g2, g3⟩ := M_num0 (X := X) w J h hq (lo := 1) (hi := 40) (by omega) (by omega) k2
  refine ⟨S1, fun d n => ?_, g2, g3⟩
  rw [e_X10_readRoad_22]
  refine cI_go (r := zI 0) (st := mkS w (hI S1) J) ?_ ?_
  · simp (disch := omega) only [hk, hu, hI_n, hI_un, z_nat, em_d, zl, z_add, z_sub, z_mul, z_lt, z_eq, gI_mk, gJ_mk, cI_some, cV_some, cJ_some, cI_x, cV_x, cJ_x, uS_self, uS_ne, if_pos, if_neg, b01, b01n, ite_not, if_true, if_false, Bool.false_eq_true]
    exact g1 _
  refine cI_go (r := zI 0) (st := mkS w (hI S1) J) ?_ ?_
  · simp (disch := omega) only [hk, hu, hI_n, hI_un, z_nat, em_d, zl, z_add, z_sub, z_mul, z_lt, z_eq, gI_mk, gJ_mk, cI_some, cV_some, cJ_some, cI_x, cV_x, cJ_x, uS_self, uS_ne, if_pos, if_neg, b01, b01n, ite_not, if_true, if_false, Bool.false_eq_true]
    exact M_numB g2
  refine cI_go (r := zI 0) (st := mkS w (hI S1) J) ?_ ?_
  · simp (disch := omega) only [hk, hu, hI_n, hI_un, z_nat, em_d, zl, z_add, z_sub, z_mul, z_lt, z_eq, gI_mk, gJ_mk, cI_some, cV_some, cJ_some, cI_x, cV_x, cJ_x, uS_self, uS_ne, if_pos, if_neg, b01, b01n, ite_not, if_true, if_false, Bool.false_eq_true]
    exact M_fine0 g2
  simp (disch := omega) only [hk, hu, hI_n, hI_un, z_nat, em_d, zl, z_add, z_sub, z_mul, z_lt, z_eq, gI_mk, gJ_mk, cI_some, cV_some, cJ_some, cI_x, cV_x, cJ_x, uS_self, uS_ne, if_pos, if_neg, b01, b01n, ite_not, if_true, if_false, Bool.false_eq_true, rV_d]
theorem l_22_3 (w : Bool × Bool × Bool) (J : Nat → Nat → Int64) (h : Mp S B e p) (hq : sk B e p = q) (k2 : numK B e q 1 40 = 0) (k3 : ¬ numK B e (sk B e (numE B e q)) 0 6 = 0) {a b : Int} : ∃ S', (∀ d n, aR X (d + 3) m_X10_readRoad (n + 1) 22 [some (.ref 132), some (.int (zI a)), none, some (.int (zI b)), none, none] (0, 0) (mkS w (hI S) J) = some (.inl none, (mkS w (hI S') J))) ∧ Bd S' (numK B e (sk B e (numE B e q)) 0 6) (sk B e (numE B e q) : Nat) ∧ FM S S' := by
  obtain ⟨S1, g1, g2, g3⟩ := M_num1 (X := X) w J h hq (lo := 1) (hi := 40) (by omega) (by omega) k2
  obtain ⟨S2, f1, f2, f3⟩ := M_num0 (X := X) w J g2 rfl (lo := 0) (hi := 6) (by omega) (by omega) k3
  refine ⟨S2, fun d n => ?_, f2, FM_tr g3 f3⟩
  rw [e_X10_readRoad_22]
  refine cI_go (r := zI (numV B e q)) (st := mkS w (hI S1) J) ?_ ?_
  · simp (disch := omega) only [hk, hu, hI_n, hI_un, z_nat, em_d, zl, z_add, z_sub, z_mul, z_lt, z_eq, gI_mk, gJ_mk, cI_some, cV_some, cJ_some, cI_x, cV_x, cJ_x, uS_self, uS_ne, if_pos, if_neg, b01, b01n, ite_not, if_true, if_false, Bool.false_eq_true]
    exact g1 _
  refine cI_go (r := zI 0) (st := mkS w (hI S2) J) ?_ ?_
  · simp (disch := omega) only [hk, hu, hI_n, hI_un, z_nat, em_d, zl, z_add, z_sub, z_mul, z_lt, z_eq, gI_mk, gJ_mk, cI_some, cV_some, cJ_some, cI_x, cV_x, cJ_x, uS_self, uS_ne, if_pos, if_neg, b01, b01n, ite_not, if_true, if_false, Bool.false_eq_true]
    exact f1 _
  refine cI_go (r := zI 0) (st := mkS w (hI S2) J) ?_ ?_
  · simp (disch := omega) only [hk, hu, hI_n, hI_un, z_nat, em_d, zl, z_add, z_sub, z_mul, z_lt, z_eq, gI_mk, gJ_mk, cI_some, cV_some, cJ_some, cI_x, cV_x, cJ_x, uS_self, uS_ne, if_pos, if_neg, b01, b01n, ite_not, if_true, if_false, Bool.false_eq_true]
    exact M_fine0 f2
  simp (disch := omega) only [hk, hu, hI_n, hI_un, z_nat, em_d, zl, z_add, z_sub, z_mul, z_lt, z_eq, gI_mk, gJ_mk, cI_some, cV_some, cJ_some, cI_x, cV_x, cJ_x, uS_self, uS_ne, if_pos, if_neg, b01, b01n, ite_not, if_true, if_false, Bool.false_eq_true, rV_d]
theorem l_22_o (w : Bool × Bool × Bool) (J : Nat → Nat → Int64) (h : Mp S B e p) (hq : sk B e p = q) (hL : MLd S x) (kn : ¬ x.2.1 = 12) (k2 : numK B e q 1 40 = 0) (k3 : numK B e (sk B e (numE B e q)) 0 6 = 0) {a b : Int} (ha : 0 ≤ a ∧ a ≤ x.1 - 1) (hb : 0 ≤ b ∧ b ≤ x.1 - 1) (hab : ¬ a = b) : ∃ S', (∀ d n, aR X (d + 3) m_X10_readRoad (n + 1) 22 [some (.ref 132), some (.int (zI a)), none, some (.int (zI b)), none, none] (0, 0) (mkS w (hI S) J) = some (.inl none, (mkS w (hI S') J))) ∧ Mp S' B e (numE B e (sk B e (numE B e q))) ∧ MLd S' (x.1, x.2.1 + 1, x.2.2.1, rdU x.2.2.2.1 x.2.1 a b (numV B e q) (numV B e (sk B e (numE B e q))), x.2.2.2.2) ∧ FQ S S' := by
  obtain ⟨-, m1, m2⟩ := numK_0 k2
  obtain ⟨-, m3, m4⟩ := numK_0 k3
  obtain ⟨S1, g1, g2, g3⟩ := M_num1 (X := X) w J h hq (lo := 1) (hi := 40) (by omega) (by omega) k2
  obtain ⟨S2, f1, f2, f3⟩ := M_num1 (X := X) w J g2 rfl (lo := 0) (hi := 6) (by omega) (by omega) k3
  obtain ⟨t14, t15, t16, hr, hc, hok⟩ := MLd_m (MLd_m hL g3) f3
  obtain ⟨⟨o1, o2⟩, ⟨o3, o4⟩, ⟨o5, o6⟩, -⟩ := id hok
  generalize numV B e (sk B e (numE B e q)) = v3 at *
  generalize numV B e q = v2 at *
  refine ⟨uS (uS (uS (uS (uS S2 135 (4 * x.2.1) a) 135 (4 * x.2.1 + 1) b) 135 (4 * x.2.1 + 2) v2) 135 (4 * x.2.1 + 3) v3) 132 15 (x.2.1 + 1), fun d n => ?_, Mp_o f2 (fun k k1 k2 => ?_) ?_, ⟨?_, uS_self _ _ _ _, ?_, fun r r1 r2 => ?_, fun c c1 c2 => ?_, okL_r hok kn ha hb hab ⟨m1, m2⟩ ⟨m3, m4⟩⟩, FQ_tr (FQ_m g3) (FQ_tr (FQ_m f3) (FQ_tr (FQ_tr (FQ_tr (FQ_tr (FQ_5 S2 _ _) (FQ_5 _ _ _)) (FQ_5 _ _ _)) (FQ_5 _ _ _)) (FQ_2 _ _ (by decide))))⟩
  · rw [e_X10_readRoad_22]
    refine cI_go (r := zI v2) (st := mkS w (hI S1) J) ?_ ?_
    · simp (disch := omega) only [hk, hu, hI_n, hI_un, z_nat, em_d, zl, z_add, z_sub, z_mul, z_lt, z_eq, gI_mk, gJ_mk, cI_some, cV_some, cJ_some, cI_x, cV_x, cJ_x, uS_self, uS_ne, if_pos, if_neg, b01, b01n, ite_not, if_true, if_false, Bool.false_eq_true]
      exact g1 _
    refine cI_go (r := zI v3) (st := mkS w (hI S2) J) ?_ ?_
    · simp (disch := omega) only [hk, hu, hI_n, hI_un, z_nat, em_d, zl, z_add, z_sub, z_mul, z_lt, z_eq, gI_mk, gJ_mk, cI_some, cV_some, cJ_some, cI_x, cV_x, cJ_x, uS_self, uS_ne, if_pos, if_neg, b01, b01n, ite_not, if_true, if_false, Bool.false_eq_true]
      exact f1 _
    refine cI_go (r := zI 1) (st := mkS w (hI S2) J) ?_ ?_
    · simp (disch := omega) only [hk, hu, hI_n, hI_un, z_nat, em_d, zl, z_add, z_sub, z_mul, z_lt, z_eq, gI_mk, gJ_mk, cI_some, cV_some, cJ_some, cI_x, cV_x, cJ_x, uS_self, uS_ne, if_pos, if_neg, b01, b01n, ite_not, if_true, if_false, Bool.false_eq_true]
      exact M_fine1 f2
    simp (disch := omega) only [hk, hu, hI_n, hI_un, z_nat, em_d, zl, z_add, z_sub, z_mul, z_lt, z_eq, gI_mk, gJ_mk, cI_some, cV_some, cJ_some, cI_x, cV_x, cJ_x, uS_self, uS_ne, if_pos, if_neg, b01, b01n, ite_not, if_true, if_false, Bool.false_eq_true, t15, rV_d]
  · rw [uS_ne _ _ (Or.inr (by omega)), uS_row _ _ _ (by decide), uS_row _ _ _ (by decide), uS_row _ _ _ (by decide), uS_row _ _ _ (by decide)]
  · rw [uS_row _ _ _ (by decide), uS_row _ _ _ (by decide), uS_row _ _ _ (by decide), uS_row _ _ _ (by decide), uS_row _ _ _ (by decide)]
  · rw [uS_ne _ _ (Or.inr (by decide)), uS_row _ _ _ (by decide), uS_row _ _ _ (by decide), uS_row _ _ _ (by decide), uS_row _ _ _ (by decide)]
    exact t14
  · rw [uS_ne _ _ (Or.inr (by decide)), uS_row _ _ _ (by decide), uS_row _ _ _ (by decide), uS_row _ _ _ (by decide), uS_row _ _ _ (by decide)]
    exact t16
  · have r2 : r < x.2.1 + 1 := r2
    rw [uS_row _ _ _ (by decide)]
    show _ = rdU x.2.2.2.1 x.2.1 a b v2 v3 (4 * r) ∧ _ = rdU x.2.2.2.1 x.2.1 a b v2 v3 (4 * r + 1) ∧ _ = rdU x.2.2.2.1 x.2.1 a b v2 v3 (4 * r + 2) ∧ _ = rdU x.2.2.2.1 x.2.1 a b v2 v3 (4 * r + 3)
    by_cases e9 : r = x.2.1
    · rw [e9, rdU_0, rdU_1, rdU_2, rdU_3]
      simp (disch := omega) only [uS_ne, uS_self, and_self]
    · rw [rdU_o0 _ _ _ _ _ _ e9, rdU_o _ _ _ _ _ _ e9 (by decide), rdU_o _ _ _ _ _ _ e9 (by decide), rdU_o _ _ _ _ _ _ e9 (by decide)]
      simp (disch := omega) only [uS_ne]
      exact hr r r1 (by omega)
  · rw [uS_row _ _ _ (by decide), uS_row _ _ _ (by decide), uS_row _ _ _ (by decide), uS_row _ _ _ (by decide), uS_row _ _ _ (by decide)]
    exact hc c c1 c2
theorem m_ldRoad (w : Bool × Bool × Bool) (J : Nat → Nat → Int64) (h : Mp S B e p) (hq : sk B e p = q) (hL : MLd S x) (kn : ¬ x.2.1 = 12) : ∃ S', (∀ d, am_call X aP (d + 4) 177 [.ref 132] (mkS w (hI S) J) = some (.inl none, (mkS w (hI S') J))) ∧ mdFin S' B e (ldRoad B e t q x) ∧ FQ S S' := by
  obtain ⟨⟨o1, o2⟩, -⟩ := hL.2.2.2.2.2
  have he := h.2.2.1
  unfold ldRoad
  rw [if_neg kn]
  by_cases k0 : numK B e q 0 (x.1 - 1) = 0
  · rw [if_neg (fun z => z k0)]
    obtain ⟨-, n0b, n0c⟩ := numK_0 k0
    obtain ⟨S1, g1, g2, g3⟩ := m_town1 (X := X) w J h hq hL k0
    obtain ⟨S2, f1, f2, f3⟩ := M_here (X := X) w J g2
    have hL2 := MLd_m (MLd_m hL g3) f3
    have a6 := f2.2.2.2.2.1
    have hqb := f2.2.2.2.1
    by_cases k1 : numK B e (sk B e (numE B e q)) 0 (x.1 - 1) = 0
    · rw [if_neg (fun z => z k1)]
      obtain ⟨-, n1b, n1c⟩ := numK_0 k1
      obtain ⟨S3, y1, y2, y3⟩ := m_town1 (X := X) w J f2 sk_sk hL2 k1
      have hL3 := MLd_m hL2 y3
      have head : ∀ R : aRes, ∀ d, (if zI (numV B e q) = zI (numV B e (sk B e (numE B e q))) then cV (am_call X aP (d + 3) 158 [.ref 132, .int (zI 2), .int (zI ((sk B e (numE B e q) : Nat)))] (mkS w (hI S3) J)) (fun s9 => aR X (d + 3) m_X10_readRoad 9999999 22 [some (.ref 132), some (.int (zI ((numV B e q)))), none, some (.int (zI ((numV B e (sk B e (numE B e q)))))), none, none] (0, 0) (mkS w (gI s9) (gJ s9))) (fun e9 s9 => rX e9 (mkS w (gI s9) (gJ s9))) else aR X (d + 3) m_X10_readRoad 9999999 22 [some (.ref 132), some (.int (zI ((numV B e q)))), none, some (.int (zI ((numV B e (sk B e (numE B e q)))))), none, none] (0, 0) (mkS w (hI S3) J)) = R → am_call X aP (d + 4) 177 [.ref 132] (mkS w (hI S) J) = R := fun R d hR => by
        rw [go_X10_readRoad, e_X10_readRoad_0]
        refine cI_go (r := zI (numV B e q)) (st := mkS w (hI S1) J) ?_ ?_
        · exact g1 _
        refine cI_go (r := zI (bt0 B e (sk B e (numE B e q)))) (st := mkS w (hI S2) J) ?_ ?_
        · simp (disch := omega) only [hk, hu, hI_n, hI_un, z_nat, em_d, zl, z_add, z_sub, z_mul, z_lt, z_eq, gI_mk, gJ_mk, cI_some, cV_some, cJ_some, cI_x, cV_x, cJ_x, uS_self, uS_ne, if_pos, if_neg, b01, b01n, ite_not, if_true, if_false, Bool.false_eq_true]
          exact f1 _
        refine cI_go (r := zI (numV B e (sk B e (numE B e q)))) (st := mkS w (hI S3) J) ?_ ?_
        · simp (disch := omega) only [hk, hu, hI_n, hI_un, z_nat, em_d, zl, z_add, z_sub, z_mul, z_lt, z_eq, gI_mk, gJ_mk, cI_some, cV_some, cJ_some, cI_x, cV_x, cJ_x, uS_self, uS_ne, if_pos, if_neg, b01, b01n, ite_not, if_true, if_false, Bool.false_eq_true]
          exact y1 _
        refine cI_go (r := zI 1) (st := mkS w (hI S3) J) ?_ ?_
        · simp (disch := omega) only [hk, hu, hI_n, hI_un, z_nat, em_d, zl, z_add, z_sub, z_mul, z_lt, z_eq, gI_mk, gJ_mk, cI_some, cV_some, cJ_some, cI_x, cV_x, cJ_x, uS_self, uS_ne, if_pos, if_neg, b01, b01n, ite_not, if_true, if_false, Bool.false_eq_true]
          exact M_fine1 y2
        refine (if_neg ?_).trans ?_
        · decide
        rw [← hR]
        simp only [gI_mk, gJ_mk, hk, a6, zl]
      by_cases hab : numV B e q = numV B e (sk B e (numE B e q))
      · rw [if_pos hab]
        obtain ⟨S4, v1, v2, -, v3⟩ := M_wrong1 (X := X) w J y2 2 (sk B e (numE B e q) : Nat) (by omega)
        refine ⟨S4, fun d => head _ d ?_, v2, FQ_tr (FQ_m g3) (FQ_tr (FQ_m f3) (FQ_tr (FQ_m y3) (FQ_m v3)))⟩
        rw [if_pos (congrArg zI hab)]
        refine cV_go (st := mkS w (hI S4) J) (v1 _) ?_
        exact l_22B (n := 9999998) v2
      · rw [if_neg hab]
        have hne : ¬ zI (numV B e q) = zI (numV B e (sk B e (numE B e q))) := by
          rw [z_eq (by omega) (by omega) (by omega) (by omega)]
          exact hab
        by_cases k2 : numK B e (sk B e (numE B e (sk B e (numE B e q)))) 1 40 = 0
        · rw [if_neg (fun z => z k2)]
          by_cases k3 : numK B e (sk B e (numE B e (sk B e (numE B e (sk B e (numE B e q)))))) 0 6 = 0
          · rw [if_neg (fun z => z k3)]
            obtain ⟨S4, v1, v2, v3, v4⟩ := l_22_o (X := X) w J y2 rfl hL3 kn k2 k3 ⟨n0b, n0c⟩ ⟨n1b, n1c⟩ hab
            refine ⟨S4, fun d => head _ d ?_, ⟨⟨_, v2, rfl⟩, v3⟩, FQ_tr (FQ_m g3) (FQ_tr (FQ_m f3) (FQ_tr (FQ_m y3) v4))⟩
            rw [if_neg hne]
            exact v1 d 9999998
          · rw [if_pos k3]
            obtain ⟨S4, v1, v2, v3⟩ := l_22_3 (X := X) (a := numV B e q) (b := numV B e (sk B e (numE B e q))) w J y2 rfl k2 k3
            refine ⟨S4, fun d => head _ d ?_, v2, FQ_tr (FQ_m g3) (FQ_tr (FQ_m f3) (FQ_tr (FQ_m y3) (FQ_m v3)))⟩
            rw [if_neg hne]
            exact v1 d 9999998
        · rw [if_pos k2]
          obtain ⟨S4, v1, v2, v3⟩ := l_22_2 (X := X) (a := numV B e q) (b := numV B e (sk B e (numE B e q))) w J y2 rfl k2
          refine ⟨S4, fun d => head _ d ?_, v2, FQ_tr (FQ_m g3) (FQ_tr (FQ_m f3) (FQ_tr (FQ_m y3) (FQ_m v3)))⟩
          rw [if_neg hne]
          exact v1 d 9999998
    · rw [if_pos k1]
      obtain ⟨S3, y1, y2, -, y3⟩ := m_town0 (X := X) w J f2 sk_sk hL2 k1
      refine ⟨S3, fun d => ?_, y2, FQ_tr (FQ_m g3) (FQ_tr (FQ_m f3) (FQ_m y3))⟩
      rw [go_X10_readRoad, e_X10_readRoad_0]
      refine cI_go (r := zI (numV B e q)) (st := mkS w (hI S1) J) ?_ ?_
      · exact g1 _
      refine cI_go (r := zI (bt0 B e (sk B e (numE B e q)))) (st := mkS w (hI S2) J) ?_ ?_
      · simp (disch := omega) only [hk, hu, hI_n, hI_un, z_nat, em_d, zl, z_add, z_sub, z_mul, z_lt, z_eq, gI_mk, gJ_mk, cI_some, cV_some, cJ_some, cI_x, cV_x, cJ_x, uS_self, uS_ne, if_pos, if_neg, b01, b01n, ite_not, if_true, if_false, Bool.false_eq_true]
        exact f1 _
      refine cI_go (r := zI 0) (st := mkS w (hI S3) J) ?_ ?_
      · simp (disch := omega) only [hk, hu, hI_n, hI_un, z_nat, em_d, zl, z_add, z_sub, z_mul, z_lt, z_eq, gI_mk, gJ_mk, cI_some, cV_some, cJ_some, cI_x, cV_x, cJ_x, uS_self, uS_ne, if_pos, if_neg, b01, b01n, ite_not, if_true, if_false, Bool.false_eq_true]
        exact y1 _
      refine cI_go (r := zI 0) (st := mkS w (hI S3) J) ?_ ?_
      · simp (disch := omega) only [hk, hu, hI_n, hI_un, z_nat, em_d, zl, z_add, z_sub, z_mul, z_lt, z_eq, gI_mk, gJ_mk, cI_some, cV_some, cJ_some, cI_x, cV_x, cJ_x, uS_self, uS_ne, if_pos, if_neg, b01, b01n, ite_not, if_true, if_false, Bool.false_eq_true]
        exact M_fine0 y2
      refine (if_pos ?_).trans ?_
      · decide
      simp only [gI_mk, gJ_mk]
      exact l_22B (n := 9999998) y2
  · rw [if_pos k0]
    obtain ⟨S1, g1, g2, g4, g3⟩ := m_town0 (X := X) w J h hq hL k0
    have hT1 : Tx S1 134 B := ⟨fun k hk9 => by rw [g3.1 134 (by decide)]; exact h.1.1 k hk9, h.1.2⟩
    obtain ⟨S2, v, f1, f2, f3⟩ := M_hereB (X := X) w J hT1 he ((g3.2 3 (by decide)).trans h.2.1) g4 g2
    refine ⟨S2, fun d => ?_, f2, FQ_tr (FQ_m g3) (FQ_m f3)⟩
    rw [go_X10_readRoad, e_X10_readRoad_0]
    refine cI_go (r := zI 0) (st := mkS w (hI S1) J) ?_ ?_
    · exact g1 _
    refine cI_go (r := zI v) (st := mkS w (hI S2) J) ?_ ?_
    · simp (disch := omega) only [hk, hu, hI_n, hI_un, z_nat, em_d, zl, z_add, z_sub, z_mul, z_lt, z_eq, gI_mk, gJ_mk, cI_some, cV_some, cJ_some, cI_x, cV_x, cJ_x, uS_self, uS_ne, if_pos, if_neg, b01, b01n, ite_not, if_true, if_false, Bool.false_eq_true]
      exact f1 _
    refine cI_go (r := zI 0) (st := mkS w (hI S2) J) ?_ ?_
    · simp (disch := omega) only [hk, hu, hI_n, hI_un, z_nat, em_d, zl, z_add, z_sub, z_mul, z_lt, z_eq, gI_mk, gJ_mk, cI_some, cV_some, cJ_some, cI_x, cV_x, cJ_x, uS_self, uS_ne, if_pos, if_neg, b01, b01n, ite_not, if_true, if_false, Bool.false_eq_true]
      exact m_rdTownB f2
    refine cI_go (r := zI 0) (st := mkS w (hI S2) J) ?_ ?_
    · simp (disch := omega) only [hk, hu, hI_n, hI_un, z_nat, em_d, zl, z_add, z_sub, z_mul, z_lt, z_eq, gI_mk, gJ_mk, cI_some, cV_some, cJ_some, cI_x, cV_x, cJ_x, uS_self, uS_ne, if_pos, if_neg, b01, b01n, ite_not, if_true, if_false, Bool.false_eq_true]
      exact M_fine0 f2
    refine (if_pos ?_).trans ?_
    · decide
    simp only [gI_mk, gJ_mk]
    exact l_22B (n := 9999998) f2
end MLX
