/-! THE LAND'S TEXT: the reference's clauses -/
theorem W_ne : pk5 (sx 0) 0 ≠ pk5 (sx 1) 0 ∧ pk5 (sx 0) 0 ≠ pk5 (sx 2) 0 ∧ pk5 (sx 1) 0 ≠ pk5 (sx 2) 0 := by decide
theorem W_lt : ∀ k : Nat, k < 16 → pk5 (sx k) 0 < 1073741824 := by decide
theorem zW {a b : Nat} (ha : a < 1073741824) (hb : b < 1073741824) : (zI (a : Int) = zI (b : Int)) = (a = b) := propext (by
  rw [z_eq (by omega) (by omega) (by omega) (by omega)]
  omega)
theorem ldCl_c {B : Nat → Int} {e q : Nat} {x : LSt} {y : LSt × Nat} (h : ldCl B e q x = .inr y) : y.1.1 + y.1.2.1 + y.1.2.2.1 = x.1 + x.2.1 + x.2.2.1 + 1 := by
  unfold ldCl at h
  split at h
  · unfold ldTown at h
    split at h
    · cases h
    · injection h with h
      rw [← h]
      show x.1 + 1 + x.2.1 + x.2.2.1 = _
      omega
  · split at h
    · unfold ldRoad at h
      split at h
      · cases h
      · split at h
        · cases h
        · split at h
          · cases h
          · split at h
            · cases h
            · split at h
              · cases h
              · split at h
                · cases h
                · injection h with h
                  rw [← h]
                  show x.1 + (x.2.1 + 1) + x.2.2.1 = _
                  omega
    · split at h
      · unfold ldCart at h
        split at h
        · cases h
        · split at h
          · cases h
          · split at h
            · cases h
            · injection h with h
              rw [← h]
              show x.1 + x.2.1 + (x.2.2.1 + 1) = _
              omega
      · cases h
section MLY
variable {X : Nat × (Nat → Int32)} {d : Nat} {w : Bool × Bool × Bool} {S : Hp} {J : Nat → Nat → Int64} {B : Nat → Int} {e p q t : Nat} {x : LSt}
theorem m_isRow : am_call X aP (d + 3) 174 [.int (zI ((wV B e q : Nat)))] (mkS w (hI S) J) = some (.inl (some (.int (zI (if wd B e q = sx 0 ∨ wd B e q = sx 1 ∨ wd B e q = sx 2 then 1 else 0)))), (mkS w (hI S) J)) := by
  have hw := wV_lt B e q
  have o0 := fun d => M_of (X := X) (d := d) (w := w) (S := S) (J := J) (k := 0) (by decide)
  have o1 := fun d => M_of (X := X) (d := d) (w := w) (S := S) (J := J) (k := 1) (by decide)
  have o2 := fun d => M_of (X := X) (d := d) (w := w) (S := S) (J := J) (k := 2) (by decide)
  rw [go_X10_isRow, e_X10_isRow_0, o0]
  simp only [hk, hu, hI_n, hI_un, z_nat, em_d, zl, z_add, z_sub, z_mul, z_lt, z_eq, gI_mk, gJ_mk, cI_some, cV_some, cJ_some, cI_x, cV_x, cJ_x, uS_self, uS_ne, if_pos, if_neg, b01, b01n, ite_not, if_true, if_false, Bool.false_eq_true, zW hw (W_lt 0 (by decide)), wV_eq (B := B) (e := e) (q := q) (show 0 < 16 by decide)]
  by_cases k0 : wd B e q = sx 0
  · rw [if_pos k0, if_pos (Or.inl k0), rI_d]
  · rw [if_neg k0, o1]
    simp only [hk, hu, hI_n, hI_un, z_nat, em_d, zl, z_add, z_sub, z_mul, z_lt, z_eq, gI_mk, gJ_mk, cI_some, cV_some, cJ_some, cI_x, cV_x, cJ_x, uS_self, uS_ne, if_pos, if_neg, b01, b01n, ite_not, if_true, if_false, Bool.false_eq_true, zW hw (W_lt 1 (by decide)), wV_eq (B := B) (e := e) (q := q) (show 1 < 16 by decide)]
    by_cases k1 : wd B e q = sx 1
    · rw [if_pos k1, if_pos (Or.inr (Or.inl k1)), rI_d]
    · rw [if_neg k1, o2]
      simp only [hk, hu, hI_n, hI_un, z_nat, em_d, zl, z_add, z_sub, z_mul, z_lt, z_eq, gI_mk, gJ_mk, cI_some, cV_some, cJ_some, cI_x, cV_x, cJ_x, uS_self, uS_ne, if_pos, if_neg, b01, b01n, ite_not, if_true, if_false, Bool.false_eq_true, zW hw (W_lt 2 (by decide)), wV_eq (B := B) (e := e) (q := q) (show 2 < 16 by decide)]
      by_cases k2 : wd B e q = sx 2
      · rw [if_pos k2, if_pos (Or.inr (Or.inr k2)), rI_d]
      · rw [if_neg k2, if_neg (fun z => by rcases z with z | z | z; exact k0 z; exact k1 z; exact k2 z), rI_d]
theorem m_full0 (hL : MLd S x) : am_call X aP (d + 3) 175 [.ref 132, .int (zI ((pk5 (sx 0) 0 : Nat)))] (mkS w (hI S) J) = some (.inl (some (.int (zI (if x.1 = 7 then 1 else 0)))), (mkS w (hI S) J)) := by
  obtain ⟨t14, t15, t16, -, -, ⟨a1, a2⟩, ⟨a3, a4⟩, ⟨a5, a6⟩, -⟩ := id hL
  rw [go_X10_isFull, e_X10_isFull_0, M_of (k := 0) (by decide)]
  by_cases q : x.1 = 7
  · simp (disch := omega) only [hk, hu, hI_n, hI_un, z_nat, em_d, zl, z_add, z_sub, z_mul, z_lt, z_eq, gI_mk, gJ_mk, cI_some, cV_some, cJ_some, cI_x, cV_x, cJ_x, uS_self, uS_ne, if_pos, if_neg, b01, b01n, ite_not, if_true, if_false, Bool.false_eq_true, t14, rI_d]
  · simp (disch := omega) only [hk, hu, hI_n, hI_un, z_nat, em_d, zl, z_add, z_sub, z_mul, z_lt, z_eq, gI_mk, gJ_mk, cI_some, cV_some, cJ_some, cI_x, cV_x, cJ_x, uS_self, uS_ne, if_pos, if_neg, b01, b01n, ite_not, if_true, if_false, Bool.false_eq_true, t14, rI_d]
theorem m_full1 (hL : MLd S x) : am_call X aP (d + 3) 175 [.ref 132, .int (zI ((pk5 (sx 1) 0 : Nat)))] (mkS w (hI S) J) = some (.inl (some (.int (zI (if x.2.1 = 12 then 1 else 0)))), (mkS w (hI S) J)) := by
  obtain ⟨t14, t15, t16, -, -, ⟨a1, a2⟩, ⟨a3, a4⟩, ⟨a5, a6⟩, -⟩ := id hL
  obtain ⟨w1, w2, w3⟩ := W_ne
  rw [go_X10_isFull, e_X10_isFull_0, M_of (k := 0) (by decide)]
  simp only [hk, hu, hI_n, hI_un, z_nat, em_d, zl, z_add, z_sub, z_mul, z_lt, z_eq, gI_mk, gJ_mk, cI_some, cV_some, cJ_some, cI_x, cV_x, cJ_x, uS_self, uS_ne, if_pos, if_neg, b01, b01n, ite_not, if_true, if_false, Bool.false_eq_true, zW (W_lt 1 (by decide)) (W_lt 0 (by decide))]
  rw [if_neg (fun z => w1 z.symm), M_of (k := 1) (by decide)]
  by_cases q : x.2.1 = 12
  · simp (disch := omega) only [hk, hu, hI_n, hI_un, z_nat, em_d, zl, z_add, z_sub, z_mul, z_lt, z_eq, gI_mk, gJ_mk, cI_some, cV_some, cJ_some, cI_x, cV_x, cJ_x, uS_self, uS_ne, if_pos, if_neg, b01, b01n, ite_not, if_true, if_false, Bool.false_eq_true, t15, rI_d]
  · simp (disch := omega) only [hk, hu, hI_n, hI_un, z_nat, em_d, zl, z_add, z_sub, z_mul, z_lt, z_eq, gI_mk, gJ_mk, cI_some, cV_some, cJ_some, cI_x, cV_x, cJ_x, uS_self, uS_ne, if_pos, if_neg, b01, b01n, ite_not, if_true, if_false, Bool.false_eq_true, t15, rI_d]
theorem m_full2 (hL : MLd S x) : am_call X aP (d + 3) 175 [.ref 132, .int (zI ((pk5 (sx 2) 0 : Nat)))] (mkS w (hI S) J) = some (.inl (some (.int (zI (if x.2.2.1 = 5 then 1 else 0)))), (mkS w (hI S) J)) := by
  obtain ⟨t14, t15, t16, -, -, ⟨a1, a2⟩, ⟨a3, a4⟩, ⟨a5, a6⟩, -⟩ := id hL
  obtain ⟨w1, w2, w3⟩ := W_ne
  rw [go_X10_isFull, e_X10_isFull_0, M_of (k := 0) (by decide)]
  simp only [hk, hu, hI_n, hI_un, z_nat, em_d, zl, z_add, z_sub, z_mul, z_lt, z_eq, gI_mk, gJ_mk, cI_some, cV_some, cJ_some, cI_x, cV_x, cJ_x, uS_self, uS_ne, if_pos, if_neg, b01, b01n, ite_not, if_true, if_false, Bool.false_eq_true, zW (W_lt 2 (by decide)) (W_lt 0 (by decide))]
  rw [if_neg (fun z => w2 z.symm), M_of (k := 1) (by decide)]
  simp only [hk, hu, hI_n, hI_un, z_nat, em_d, zl, z_add, z_sub, z_mul, z_lt, z_eq, gI_mk, gJ_mk, cI_some, cV_some, cJ_some, cI_x, cV_x, cJ_x, uS_self, uS_ne, if_pos, if_neg, b01, b01n, ite_not, if_true, if_false, Bool.false_eq_true, zW (W_lt 2 (by decide)) (W_lt 1 (by decide))]
  rw [if_neg (fun z => w3 z.symm)]
  by_cases q : x.2.2.1 = 5
  · simp (disch := omega) only [hk, hu, hI_n, hI_un, z_nat, em_d, zl, z_add, z_sub, z_mul, z_lt, z_eq, gI_mk, gJ_mk, cI_some, cV_some, cJ_some, cI_x, cV_x, cJ_x, uS_self, uS_ne, if_pos, if_neg, b01, b01n, ite_not, if_true, if_false, Bool.false_eq_true, t16, rI_d]
  · simp (disch := omega) only [hk, hu, hI_n, hI_un, z_nat, em_d, zl, z_add, z_sub, z_mul, z_lt, z_eq, gI_mk, gJ_mk, cI_some, cV_some, cJ_some, cI_x, cV_x, cJ_x, uS_self, uS_ne, if_pos, if_neg, b01, b01n, ite_not, if_true, if_false, Bool.false_eq_true, t16, rI_d]
theorem m_row0 (w : Bool × Bool × Bool) (J : Nat → Nat → Int64) (h : Mp S B e p) (hq : sk B e p = q) (hL : MLd S x) (kn : ¬ x.1 = 7) : ∃ S', (∀ d, am_call X aP (d + 5) 178 [.ref 132, .int (zI ((pk5 (sx 0) 0 : Nat)))] (mkS w (hI S) J) = some (.inl none, (mkS w (hI S') J))) ∧ mdFin S' B e (ldTown t q x) ∧ FQ S S' := by
  obtain ⟨t14, t15, t16, hr, hc, hok⟩ := id hL
  obtain ⟨⟨a1, a2⟩, -⟩ := id hok
  unfold ldTown
  rw [if_neg kn]
  refine ⟨uS S 132 14 (x.1 + 1), fun d => ?_, ⟨⟨p, Mp_o h (fun k k1 k2 => uS_ne _ _ (Or.inr (by omega))) (uS_row _ _ _ (by decide)), hq⟩, uS_self _ _ _ _, (uS_ne _ _ (Or.inr (by decide))).trans t15, (uS_ne _ _ (Or.inr (by decide))).trans t16, fun r r1 r2 => ?_, fun c c1 c2 => ?_, okL_t hok kn⟩, FQ_2 _ _ (by decide)⟩
  · rw [go_X10_readRow, e_X10_readRow_0, M_of (k := 0) (by decide)]
    simp (disch := omega) only [hk, hu, hI_n, hI_un, z_nat, em_d, zl, z_add, z_sub, z_mul, z_lt, z_eq, gI_mk, gJ_mk, cI_some, cV_some, cJ_some, cI_x, cV_x, cJ_x, uS_self, uS_ne, if_pos, if_neg, b01, b01n, ite_not, if_true, if_false, Bool.false_eq_true, t14, rV_d]
  · rw [uS_row _ _ _ (by decide)]
    exact hr r r1 r2
  · rw [uS_row _ _ _ (by decide)]
    exact hc c c1 c2
theorem m_row1 (w : Bool × Bool × Bool) (J : Nat → Nat → Int64) (h : Mp S B e p) (hq : sk B e p = q) (hL : MLd S x) (kn : ¬ x.2.1 = 12) : ∃ S', (∀ d, am_call X aP (d + 5) 178 [.ref 132, .int (zI ((pk5 (sx 1) 0 : Nat)))] (mkS w (hI S) J) = some (.inl none, (mkS w (hI S') J))) ∧ mdFin S' B e (ldRoad B e t q x) ∧ FQ S S' := by
  obtain ⟨w1, w2, w3⟩ := W_ne
  obtain ⟨S1, g1, g2, g3⟩ := m_ldRoad (X := X) (t := t) w J h hq hL kn
  refine ⟨S1, fun d => ?_, g2, g3⟩
  rw [go_X10_readRow, e_X10_readRow_0, M_of (k := 0) (by decide)]
  simp only [hk, hu, hI_n, hI_un, z_nat, em_d, zl, z_add, z_sub, z_mul, z_lt, z_eq, gI_mk, gJ_mk, cI_some, cV_some, cJ_some, cI_x, cV_x, cJ_x, uS_self, uS_ne, if_pos, if_neg, b01, b01n, ite_not, if_true, if_false, Bool.false_eq_true, zW (W_lt 1 (by decide)) (W_lt 0 (by decide))]
  rw [if_neg (fun z => w1 z.symm), M_of (k := 1) (by decide)]
  simp only [hk, hu, hI_n, hI_un, z_nat, em_d, zl, z_add, z_sub, z_mul, z_lt, z_eq, gI_mk, gJ_mk, cI_some, cV_some, cJ_some, cI_x, cV_x, cJ_x, uS_self, uS_ne, if_pos, if_neg, b01, b01n, ite_not, if_true, if_false, Bool.false_eq_true]
  rw [g1]
  simp only [hk, hu, hI_n, hI_un, z_nat, em_d, zl, z_add, z_sub, z_mul, z_lt, z_eq, gI_mk, gJ_mk, cI_some, cV_some, cJ_some, cI_x, cV_x, cJ_x, uS_self, uS_ne, if_pos, if_neg, b01, b01n, ite_not, if_true, if_false, Bool.false_eq_true, rV_d]
/-- a carter's town and load, both wanted -/
theorem m_row2 (w : Bool × Bool × Bool) (J : Nat → Nat → Int64) (h : Mp S B e p) (hq : sk B e p = q) (hL : MLd S x) (kn : ¬ x.2.2.1 = 5) : ∃ S', (∀ d, am_call X aP (d + 5) 178 [.ref 132, .int (zI ((pk5 (sx 2) 0 : Nat)))] (mkS w (hI S) J) = some (.inl none, (mkS w (hI S') J))) ∧ mdFin S' B e (ldCart B e t q x) ∧ FQ S S' := by
  obtain ⟨w1, w2, w3⟩ := W_ne
  obtain ⟨t14, t15, t16, hr, hc, hok⟩ := id hL
  obtain ⟨⟨a1, a2⟩, ⟨a3, a4⟩, ⟨a5, a6⟩, -⟩ := id hok
  have head : ∀ (R : aRes) (v7 v9 : Int) (T1 T2 : Hp) (d : Nat), (am_call X aP (d + 4) 176 [.ref 132] (mkS w (hI S) J) = some (.inl (some (.int (zI v7))), (mkS w (hI T1) J))) → (T1 132 16 = x.2.2.1) → (am_call X aP (d + 4) 165 [.ref 132, .int (zI 0), .int (zI 99)] (mkS w (hI (uS T1 136 (2 * x.2.2.1) v7)) J) = some (.inl (some (.int (zI v9))), (mkS w (hI T2) J))) → (T2 132 16 = x.2.2.1) → am_call X aP (d + 5) 178 [.ref 132, .int (zI ((pk5 (sx 2) 0 : Nat)))] (mkS w (hI S) J) = some (.inl none, (mkS w (hI (uS (uS T2 136 (2 * x.2.2.1 + 1) v9) 132 16 (x.2.2.1 + 1))) J)) := fun R v7 v9 T1 T2 d h1 h2 h3 h4 => by
    rw [go_X10_readRow, e_X10_readRow_0, M_of (k := 0) (by decide)]
    simp only [hk, hu, hI_n, hI_un, z_nat, em_d, zl, z_add, z_sub, z_mul, z_lt, z_eq, gI_mk, gJ_mk, cI_some, cV_some, cJ_some, cI_x, cV_x, cJ_x, uS_self, uS_ne, if_pos, if_neg, b01, b01n, ite_not, if_true, if_false, Bool.false_eq_true, zW (W_lt 2 (by decide)) (W_lt 0 (by decide))]
    rw [if_neg (fun z => w2 z.symm), M_of (k := 1) (by decide)]
    simp only [hk, hu, hI_n, hI_un, z_nat, em_d, zl, z_add, z_sub, z_mul, z_lt, z_eq, gI_mk, gJ_mk, cI_some, cV_some, cJ_some, cI_x, cV_x, cJ_x, uS_self, uS_ne, if_pos, if_neg, b01, b01n, ite_not, if_true, if_false, Bool.false_eq_true, zW (W_lt 2 (by decide)) (W_lt 1 (by decide))]
    rw [if_neg (fun z => w3 z.symm)]
    refine cI_go (r := zI v7) (st := mkS w (hI T1) J) h1 ?_
    refine (if_neg ?_).trans ?_
    · simp (disch := omega) only [hk, hu, hI_n, hI_un, z_nat, em_d, zl, z_add, z_sub, z_mul, z_lt, z_eq, gI_mk, gJ_mk, cI_some, cV_some, cJ_some, cI_x, cV_x, cJ_x, uS_self, uS_ne, if_pos, if_neg, b01, b01n, ite_not, if_true, if_false, Bool.false_eq_true, t16]
      omega
    refine cI_go (r := zI v9) (st := mkS w (hI T2) J) ?_ ?_
    · simp (disch := omega) only [hk, hu, hI_n, hI_un, z_nat, em_d, zl, z_add, z_sub, z_mul, z_lt, z_eq, gI_mk, gJ_mk, cI_some, cV_some, cJ_some, cI_x, cV_x, cJ_x, uS_self, uS_ne, if_pos, if_neg, b01, b01n, ite_not, if_true, if_false, Bool.false_eq_true, t16]
      exact h3
    refine (if_neg ?_).trans ?_
    · simp (disch := omega) only [hk, hu, hI_n, hI_un, z_nat, em_d, zl, z_add, z_sub, z_mul, z_lt, z_eq, gI_mk, gJ_mk, cI_some, cV_some, cJ_some, cI_x, cV_x, cJ_x, uS_self, uS_ne, if_pos, if_neg, b01, b01n, ite_not, if_true, if_false, Bool.false_eq_true, h2]
      omega
    simp (disch := omega) only [hk, hu, hI_n, hI_un, z_nat, em_d, zl, z_add, z_sub, z_mul, z_lt, z_eq, gI_mk, gJ_mk, cI_some, cV_some, cJ_some, cI_x, cV_x, cJ_x, uS_self, uS_ne, if_pos, if_neg, b01, b01n, ite_not, if_true, if_false, Bool.false_eq_true, h2, h4, rV_d]
  unfold ldCart
  rw [if_neg kn]
  by_cases k0 : numK B e q 0 (x.1 - 1) = 0
  · rw [if_neg (fun z => z k0)]
    obtain ⟨-, n0b, n0c⟩ := numK_0 k0
    obtain ⟨S1, g1, g2, g3⟩ := m_town1 (X := X) w J h hq hL k0
    have hL1 := MLd_m hL g3
    have gM : Mp (uS S1 136 (2 * x.2.2.1) (numV B e q)) B e (numE B e q) := Mp_o g2 (fun k k1 k2 => by rw [uS_row _ _ _ (by decide)]) (uS_row _ _ _ (by decide))
    by_cases k1 : numK B e (sk B e (numE B e q)) 0 99 = 0
    · rw [if_neg (fun z => z k1)]
      obtain ⟨-, n1b, n1c⟩ := numK_0 k1
      obtain ⟨S2, f1, f2, f3⟩ := M_num1 (X := X) w J gM rfl (lo := 0) (hi := 99) (by decide) (by decide) k1
      have e16 : S2 132 16 = x.2.2.1 := by rw [f3.2 16 (by decide), uS_row _ _ _ (by decide)]; exact hL1.2.2.1
      refine ⟨_, fun d => head (some (.inl none, mkS w (hI S) J)) (numV B e q) (numV B e (sk B e (numE B e q))) S1 S2 d (g1 _) hL1.2.2.1 (f1 _) e16, ⟨⟨_, Mp_o f2 (fun k k1 k2 => ?_) ?_, rfl⟩, ?_, ?_, uS_self _ _ _ _, fun r r1 r2 => ?_, fun c c1 c2 => ?_, okL_c hok kn ⟨n0b, n0c⟩ ⟨n1b, n1c⟩⟩, FQ_tr (FQ_m g3) (FQ_tr (FQ_6 S1 _ _) (FQ_tr (FQ_m f3) (FQ_tr (FQ_6 S2 _ _) (FQ_2 _ _ (by decide)))))⟩
      · rw [uS_ne _ _ (Or.inr (by omega)), uS_row _ _ _ (by decide)]
      · rw [uS_row _ _ _ (by decide), uS_row _ _ _ (by decide)]
      · rw [uS_ne _ _ (Or.inr (by decide)), uS_row _ _ _ (by decide), f3.2 14 (by decide), uS_row _ _ _ (by decide)]
        exact hL1.1
      · rw [uS_ne _ _ (Or.inr (by decide)), uS_row _ _ _ (by decide), f3.2 15 (by decide), uS_row _ _ _ (by decide)]
        exact hL1.2.1
      · rw [uS_row _ _ _ (by decide), uS_row _ _ _ (by decide), f3.1 135 (by decide), uS_row _ _ _ (by decide), g3.1 135 (by decide)]
        exact hr r r1 r2
      · have c2 : c < x.2.2.1 + 1 := c2
        rw [uS_row _ _ _ (by decide)]
        show _ = crU x.2.2.2.2 x.2.2.1 (numV B e q) (numV B e (sk B e (numE B e q))) (2 * c) ∧ _ = crU x.2.2.2.2 x.2.2.1 (numV B e q) (numV B e (sk B e (numE B e q))) (2 * c + 1)
        by_cases e9 : c = x.2.2.1
        · rw [e9, crU_0, crU_1, uS_self, uS_ne _ _ (Or.inr (by omega)), f3.1 136 (by decide), uS_self]
          exact ⟨rfl, rfl⟩
        · obtain ⟨b1, b2⟩ := crU_o x.2.2.2.2 x.2.2.1 (numV B e q) (numV B e (sk B e (numE B e q))) e9
          rw [b1, b2, uS_ne _ _ (Or.inr (by omega)), uS_ne _ _ (Or.inr (by omega)), f3.1 136 (by decide), uS_ne _ _ (Or.inr (by omega)), uS_ne _ _ (Or.inr (by omega)), g3.1 136 (by decide)]
          exact hc c c1 (by omega)
    · rw [if_pos k1]
      obtain ⟨S2, f1, f2, f3⟩ := M_num0 (X := X) w J gM rfl (lo := 0) (hi := 99) (by decide) (by decide) k1
      have e16 : S2 132 16 = x.2.2.1 := by rw [f3.2 16 (by decide), uS_row _ _ _ (by decide)]; exact hL1.2.2.1
      refine ⟨_, fun d => head (some (.inl none, mkS w (hI S) J)) (numV B e q) 0 S1 S2 d (g1 _) hL1.2.2.1 (f1 _) e16, Bd_o f2 ?_ ?_, FQ_tr (FQ_m g3) (FQ_tr (FQ_6 S1 _ _) (FQ_tr (FQ_m f3) (FQ_tr (FQ_6 S2 _ _) (FQ_2 _ _ (by decide)))))⟩
      · rw [uS_ne _ _ (Or.inr (by decide)), uS_row _ _ _ (by decide)]
      · rw [uS_ne _ _ (Or.inr (by decide)), uS_row _ _ _ (by decide)]
  · rw [if_pos k0]
    obtain ⟨S1, g1, g2, -, g3⟩ := m_town0 (X := X) w J h hq hL k0
    have hL1 := MLd_m hL g3
    have g2' : Bd (uS S1 136 (2 * x.2.2.1) 0) (numK B e q 0 (x.1 - 1)) (q : Int) := Bd_o g2 (by rw [uS_row _ _ _ (by decide)]) (by rw [uS_row _ _ _ (by decide)])
    refine ⟨_, fun d => head (some (.inl none, mkS w (hI S) J)) 0 0 S1 (uS S1 136 (2 * x.2.2.1) 0) d (g1 _) hL1.2.2.1 (M_numB g2') (by rw [uS_row _ _ _ (by decide)]; exact hL1.2.2.1), Bd_o g2' ?_ ?_, FQ_tr (FQ_m g3) (FQ_tr (FQ_6 S1 _ _) (FQ_tr (FQ_6 _ _ _) (FQ_2 _ _ (by decide))))⟩
    · rw [uS_ne _ _ (Or.inr (by decide)), uS_row _ _ _ (by decide)]
    · rw [uS_ne _ _ (Or.inr (by decide)), uS_row _ _ _ (by decide)]
/-- behind the clause: its sign -/
def mcRes (B : Nat → Int) (e : Nat) (r : Flt ⊕ (LSt × Nat)) : Flt ⊕ (LSt × Nat) := match r with
  | .inl f => .inl f
  | .inr y => if y.2 < e ∧ B y.2 = 59 then .inr (y.1, y.2 + 1) else .inl (1, (y.2 : Int))
def mcFin (S' : Hp) (B : Nat → Int) (e : Nat) (r : Flt ⊕ (LSt × Nat)) : Prop := match r with
  | .inl f => Bd S' f.1 f.2
  | .inr y => Mp S' B e y.2 ∧ MLd S' y.1
theorem m_signR (w : Bool × Bool × Bool) (J : Nat → Nat → Int64) {r : Flt ⊕ (LSt × Nat)} (h : mdFin S B e r) : ∃ S', (∀ d, am_call X aP (d + 2) 166 [.ref 132, .int (zI 59)] (mkS w (hI S) J) = some (.inl none, (mkS w (hI S') J))) ∧ mcFin S' B e (mcRes B e r) ∧ FQ S S' := by
  cases r with
  | inl f => exact ⟨S, fun d => M_signB h, h, FQ_m (FM_rf S)⟩
  | inr y =>
    obtain ⟨⟨p', hM, hs⟩, hL⟩ := h
    show ∃ S', (∀ d, am_call X aP (d + 2) 166 [.ref 132, .int (zI 59)] (mkS w (hI S) J) = some (.inl none, (mkS w (hI S') J))) ∧ mcFin S' B e (if y.2 < e ∧ B y.2 = 59 then (Sum.inr (y.1, y.2 + 1) : Flt ⊕ (LSt × Nat)) else .inl (1, (y.2 : Int))) ∧ FQ S S'
    by_cases k : y.2 < e ∧ B y.2 = 59
    · rw [if_pos k]
      rw [← hs] at k ⊢
      obtain ⟨S1, g1, g2, g3⟩ := M_sign1 (X := X) w J hM (c := 59) (by decide) k
      exact ⟨S1, g1, ⟨g2, MLd_m hL g3⟩, FQ_m g3⟩
    · rw [if_neg k]
      rw [← hs] at k ⊢
      obtain ⟨S1, g1, g2, g3⟩ := M_sign0 (X := X) w J hM (c := 59) (by decide) k
      exact ⟨S1, g1, g2, FQ_m g3⟩
theorem l_26B {k pl c : Int} (h : Bd S k pl) {n : Nat} : aR X (d + 5) m_X10_land (n + 1) 26 [some (.ref 132), none, some (.int (zI c)), none] (0, 0) (mkS w (hI S) J) = aR X (d + 5) m_X10_land n 70 [some (.ref 132), none, none, none] (0, 0) (mkS w (hI S) J) := by
  rw [e_X10_land_26]
  refine cI_go (r := zI 0) (st := mkS w (hI S) J) ?_ ?_
  · exact M_fine0 h
  simp (disch := omega) only [hk, hu, hI_n, hI_un, z_nat, em_d, zl, z_add, z_sub, z_mul, z_lt, z_eq, gI_mk, gJ_mk, cI_some, cV_some, cJ_some, cI_x, cV_x, cJ_x, uS_self, uS_ne, if_pos, if_neg, b01, b01n, ite_not, if_true, if_false, Bool.false_eq_true]
theorem l_56B {k pl c v : Int} (h : Bd S k pl) {n : Nat} : aR X (d + 5) m_X10_land (n + 1) 56 [some (.ref 132), none, some (.int (zI c)), some (.int (zI v))] (0, 0) (mkS w (hI S) J) = aR X (d + 5) m_X10_land n 70 [some (.ref 132), none, none, none] (0, 0) (mkS w (hI S) J) := by
  rw [e_X10_land_56]
  refine cI_go (r := zI 0) (st := mkS w (hI S) J) ?_ ?_
  · exact M_fine0 h
  simp (disch := omega) only [hk, hu, hI_n, hI_un, z_nat, em_d, zl, z_add, z_sub, z_mul, z_lt, z_eq, gI_mk, gJ_mk, cI_some, cV_some, cJ_some, cI_x, cV_x, cJ_x, uS_self, uS_ne, if_pos, if_neg, b01, b01n, ite_not, if_true, if_false, Bool.false_eq_true]
/-- a row that is one, and not too many of them -/
theorem l_56 (w : Bool × Bool × Bool) (J : Nat → Nat → Int64) (h : Mp S B e q) {c : Int} {v : Nat} {r : Flt ⊕ (LSt × Nat)} (hrow : ∀ S2, Mp S2 B e (q + (wd B e q).length) → FM S S2 → ∃ S', (∀ d, am_call X aP (d + 5) 178 [.ref 132, .int (zI ((v : Int)))] (mkS w (hI S2) J) = some (.inl none, (mkS w (hI S') J))) ∧ mdFin S' B e r ∧ FQ S2 S') : ∃ S', (∀ d n, aR X (d + 5) m_X10_land (n + 1) 56 [some (.ref 132), none, some (.int (zI c)), some (.int (zI ((v : Int))))] (0, 0) (mkS w (hI S) J) = aR X (d + 5) m_X10_land n 26 [some (.ref 132), none, some (.int (zI ((c + 1)))), none] (0, 0) (mkS w (hI S') J)) ∧ mcFin S' B e (mcRes B e r) ∧ FQ S S' := by
  obtain ⟨S1, g1, g2, g3⟩ := M_pass (X := X) w J h
  obtain ⟨S2, f1, f2, f3⟩ := hrow S1 g2 g3
  obtain ⟨S3, y1, y2, y3⟩ := m_signR (X := X) w J f2
  refine ⟨S3, fun d n => ?_, y2, FQ_tr (FQ_m g3) (FQ_tr f3 y3)⟩
  rw [e_X10_land_56]
  refine cI_go (r := zI 1) (st := mkS w (hI S) J) ?_ ?_
  · exact M_fine1 h
  refine (if_neg ?_).trans ?_
  · decide
  refine cV_go (st := mkS w (hI S1) J) ?_ ?_
  · exact g1 _
  refine cV_go (st := mkS w (hI S2) J) ?_ ?_
  · exact f1 _
  refine cV_go (st := mkS w (hI S3) J) ?_ ?_
  · simp only [gI_mk, gJ_mk, zl]
    exact y1 _
  simp (disch := omega) only [hk, hu, hI_n, hI_un, z_nat, em_d, zl, z_add, z_sub, z_mul, z_lt, z_eq, gI_mk, gJ_mk, cI_some, cV_some, cJ_some, cI_x, cV_x, cJ_x, uS_self, uS_ne, if_pos, if_neg, b01, b01n, ite_not, if_true, if_false, Bool.false_eq_true]
theorem m_ldCl (w : Bool × Bool × Bool) (J : Nat → Nat → Int64) (h : Mp S B e p) (hq : sk B e p = q) (q1 : q < e) (hL : MLd S x) : ∃ S', (∀ f, mcRes B e (ldCl B e q x) = .inl f → (∀ d n, 5 ≤ n → ∃ n', n ≤ n' + 5 ∧ aR X (d + 5) m_X10_land n 26 [some (.ref 132), none, some (.int (zI ((x.1 + x.2.1 + x.2.2.1)))), none] (0, 0) (mkS w (hI S) J) = aR X (d + 5) m_X10_land n' 70 [some (.ref 132), none, none, none] (0, 0) (mkS w (hI S') J)) ∧ Bd S' f.1 f.2) ∧ (∀ y, mcRes B e (ldCl B e q x) = .inr y → (∀ d n, 5 ≤ n → ∃ n', n ≤ n' + 5 ∧ aR X (d + 5) m_X10_land n 26 [some (.ref 132), none, some (.int (zI ((x.1 + x.2.1 + x.2.2.1)))), none] (0, 0) (mkS w (hI S) J) = aR X (d + 5) m_X10_land n' 26 [some (.ref 132), none, some (.int (zI ((x.1 + x.2.1 + x.2.2.1 + 1)))), none] (0, 0) (mkS w (hI S') J)) ∧ Mp S' B e y.2 ∧ MLd S' y.1) ∧ FQ S S' := by
  obtain ⟨⟨a1, a2⟩, ⟨a3, a4⟩, ⟨a5, a6⟩, -⟩ := hL.2.2.2.2.2
  have he := h.2.2.1
  obtain ⟨S1, g1, g2, g3⟩ := M_isMore (X := X) w J h
  rw [hq] at g1 g2
  have hqs : sk B e q = q := by rw [← hq]; exact sk_sk
  have hwd := fun d => M_wordN (X := X) (d := d) (w := w) (J := J) g2 hqs
  have hL1 := MLd_m hL g3
  have hir := fun d => m_isRow (X := X) (d := d) (w := w) (S := S1) (J := J) (B := B) (e := e) (q := q)
  have a64 := g2.2.2.2.2.1
  -- the head: to isRow
  have head : ∀ (R : aRes) (d n : Nat), (cI (am_call X aP (d + 5) 174 [.int (zI ((wV B e q : Nat)))] (mkS w (hI S1) J)) (fun r8 s7 => if r8 = zI 0 then cV (am_call X aP (d + 5) 158 [.ref 132, .int (zI 1), .int ((gI s7) 132 4)] (mkS w (gI s7) (gJ s7))) (fun s9 => aR X (d + 5) m_X10_land n 56 [some (.ref 132), none, some (.int (zI ((x.1 + x.2.1 + x.2.2.1)))), some (.int (zI ((wV B e q : Nat))))] (0, 0) (mkS w (gI s9) (gJ s9))) (fun e9 s9 => rX e9 (mkS w (gI s9) (gJ s9))) else if zI (x.1 + x.2.1 + x.2.2.1) = zI 60 then aR X (d + 5) m_X10_land n 51 [some (.ref 132), none, some (.int (zI ((x.1 + x.2.1 + x.2.2.1)))), some (.int (zI ((wV B e q : Nat))))] (0, 0) (mkS w (gI s7) (gJ s7)) else cI (am_call X aP (d + 5) 175 [.ref 132, .int (zI (wV B e q : Nat))] (mkS w (gI s7) (gJ s7))) (fun r11 s10 => if r11 = zI 0 then aR X (d + 5) m_X10_land n 56 [some (.ref 132), none, some (.int (zI ((x.1 + x.2.1 + x.2.2.1)))), some (.int (zI ((wV B e q : Nat))))] (0, 0) (mkS w (gI s10) (gJ s10)) else aR X (d + 5) m_X10_land n 51 [some (.ref 132), none, some (.int (zI ((x.1 + x.2.1 + x.2.2.1)))), some (.int (zI ((wV B e q : Nat))))] (0, 0) (mkS w (gI s10) (gJ s10))) (fun e9 s10 => rX e9 (mkS w (gI s10) (gJ s10)))) (fun e9 s7 => rX e9 (mkS w (gI s7) (gJ s7))) = R) → aR X (d + 5) m_X10_land (n + 1) 26 [some (.ref 132), none, some (.int (zI ((x.1 + x.2.1 + x.2.2.1)))), none] (0, 0) (mkS w (hI S) J) = R := fun R d n hR => by
    rw [e_X10_land_26]
    refine cI_go (r := zI 1) (st := mkS w (hI S) J) ?_ ?_
    · exact M_fine1 h
    refine (if_neg ?_).trans ?_
    · decide
    refine cI_go (r := zI 1) (st := mkS w (hI S1) J) ?_ ?_
    · simp only [gI_mk, gJ_mk]
      rw [g1, if_pos q1]
    refine (if_neg ?_).trans ?_
    · decide
    refine cI_go (r := zI (wV B e q : Nat)) (st := mkS w (hI S1) J) ?_ ?_
    · simp only [gI_mk, gJ_mk]
      exact hwd _
    simp only [gI_mk, gJ_mk, zl]
    exact hR
  have hnone : ¬ wd B e q = sx 0 → ¬ wd B e q = sx 1 → ¬ wd B e q = sx 2 → ldCl B e q x = .inl (1, (q : Int)) := fun k0 k1 k2 => by
    unfold ldCl
    rw [if_neg k0, if_neg k1, if_neg k2]
  have gen : ∀ (k : Nat) (F : Prop) (dF : Decidable F) (r : Flt ⊕ (LSt × Nat)), k < 16 → wd B e q = sx k → (wd B e q = sx 0 ∨ wd B e q = sx 1 ∨ wd B e q = sx 2) → (∀ d, am_call X aP (d + 3) 175 [.ref 132, .int (zI ((pk5 (sx k) 0 : Nat)))] (mkS w (hI S1) J) = some (.inl (some (.int (zI (if F then 1 else 0)))), (mkS w (hI S1) J))) → (F → ldCl B e q x = .inl (3, (q : Int))) → (¬ F → ldCl B e q x = r) → (¬ F → ∀ S2, Mp S2 B e (q + (wd B e q).length) → FM S1 S2 → ∃ S', (∀ d, am_call X aP (d + 5) 178 [.ref 132, .int (zI ((pk5 (sx k) 0 : Nat)))] (mkS w (hI S2) J) = some (.inl none, (mkS w (hI S') J))) ∧ mdFin S' B e r ∧ FQ S2 S') → ∃ S', (∀ f, mcRes B e (ldCl B e q x) = .inl f → (∀ d n, 5 ≤ n → ∃ n', n ≤ n' + 5 ∧ aR X (d + 5) m_X10_land n 26 [some (.ref 132), none, some (.int (zI ((x.1 + x.2.1 + x.2.2.1)))), none] (0, 0) (mkS w (hI S) J) = aR X (d + 5) m_X10_land n' 70 [some (.ref 132), none, none, none] (0, 0) (mkS w (hI S') J)) ∧ Bd S' f.1 f.2) ∧ (∀ y, mcRes B e (ldCl B e q x) = .inr y → (∀ d n, 5 ≤ n → ∃ n', n ≤ n' + 5 ∧ aR X (d + 5) m_X10_land n 26 [some (.ref 132), none, some (.int (zI ((x.1 + x.2.1 + x.2.2.1)))), none] (0, 0) (mkS w (hI S) J) = aR X (d + 5) m_X10_land n' 26 [some (.ref 132), none, some (.int (zI ((x.1 + x.2.1 + x.2.2.1 + 1)))), none] (0, 0) (mkS w (hI S') J)) ∧ Mp S' B e y.2 ∧ MLd S' y.1) ∧ FQ S S' := by
    intro k F dF r hk9 hwk hor hfull hF hnF hrow
    have eW : wV B e q = pk5 (sx k) 0 := (wV_eq hk9).mpr hwk
    have hir1 : ∀ d, am_call X aP (d + 3) 174 [.int (zI ((wV B e q : Nat)))] (mkS w (hI S1) J) = some (.inl (some (.int (zI 1))), (mkS w (hI S1) J)) := fun d => by rw [hir, if_pos hor]
    by_cases hf : F
    · obtain ⟨S2, f1, f2, -, f3⟩ := M_wrong1 (X := X) w J g2 3 (q : Int) (by omega)
      rw [hF hf]
      refine ⟨S2, fun f hfe => ?_, fun y hy => (by cases hy), FQ_tr (FQ_m g3) (FQ_m f3)⟩
      injection hfe with hfe
      subst hfe
      refine ⟨fun d n hn => ?_, f2⟩
      obtain ⟨n, rfl⟩ : ∃ m, n = m + 1 + 1 + 1 := ⟨n - 3, by omega⟩
      refine ⟨n, by omega, head _ d (n + 1 + 1) ?_⟩
      refine cI_go (r := zI 1) (st := mkS w (hI S1) J) (hir1 _) ?_
      refine (if_neg ?_).trans ?_
      · decide
      refine (if_neg ?_).trans ?_
      · rw [z_eq (by omega) (by omega) (by omega) (by omega)]
        omega
      refine cI_go (r := zI 1) (st := mkS w (hI S1) J) ?_ ?_
      · simp only [gI_mk, gJ_mk]
        rw [eW, hfull, if_pos hf]
      refine (if_neg ?_).trans ?_
      · decide
      simp only [gI_mk, gJ_mk]
      rw [e_X10_land_51]
      refine cV_go (st := mkS w (hI S2) J) ?_ ?_
      · simp (disch := omega) only [hk, hu, hI_n, hI_un, z_nat, em_d, zl, z_add, z_sub, z_mul, z_lt, z_eq, gI_mk, gJ_mk, cI_some, cV_some, cJ_some, cI_x, cV_x, cJ_x, uS_self, uS_ne, if_pos, if_neg, b01, b01n, ite_not, if_true, if_false, Bool.false_eq_true, a64]
        exact f1 _
      simp only [gI_mk, gJ_mk]
      exact l_56B f2
    · obtain ⟨S2, f1, f2, f3⟩ := l_56 (X := X) (c := x.1 + x.2.1 + x.2.2.1) (v := pk5 (sx k) 0) w J g2 (hrow hf)
      rw [hnF hf]
      refine ⟨S2, fun f hfe => ?_, fun y hy => ?_, FQ_tr (FQ_m g3) f3⟩
      · rw [hfe] at f2
        refine ⟨fun d n hn => ?_, f2⟩
        obtain ⟨n, rfl⟩ : ∃ m, n = m + 1 + 1 + 1 := ⟨n - 3, by omega⟩
        refine ⟨n, by omega, head _ d (n + 1 + 1) ?_⟩
        refine cI_go (r := zI 1) (st := mkS w (hI S1) J) (hir1 _) ?_
        refine (if_neg ?_).trans ?_
        · decide
        refine (if_neg ?_).trans ?_
        · rw [z_eq (by omega) (by omega) (by omega) (by omega)]
          omega
        refine cI_go (r := zI 0) (st := mkS w (hI S1) J) ?_ ?_
        · simp only [gI_mk, gJ_mk]
          rw [eW, hfull, if_neg hf]
        refine (if_pos ?_).trans ?_
        · decide
        simp only [gI_mk, gJ_mk]
        rw [eW]
        exact (f1 _ (n + 1)).trans (l_26B f2)
      · rw [hy] at f2
        obtain ⟨y1, y2⟩ := f2
        refine ⟨fun d n hn => ?_, y1, y2⟩
        obtain ⟨n, rfl⟩ : ∃ m, n = m + 1 + 1 := ⟨n - 2, by omega⟩
        refine ⟨n, by omega, head _ d (n + 1) ?_⟩
        refine cI_go (r := zI 1) (st := mkS w (hI S1) J) (hir1 _) ?_
        refine (if_neg ?_).trans ?_
        · decide
        refine (if_neg ?_).trans ?_
        · rw [z_eq (by omega) (by omega) (by omega) (by omega)]
          omega
        refine cI_go (r := zI 0) (st := mkS w (hI S1) J) ?_ ?_
        · simp only [gI_mk, gJ_mk]
          rw [eW, hfull, if_neg hf]
        refine (if_pos ?_).trans ?_
        · decide
        simp only [gI_mk, gJ_mk]
        rw [eW]
        exact f1 _ n
  by_cases k0 : wd B e q = sx 0
  · have ec : ldCl B e q x = ldTown q (sk B e (q + (wd B e q).length)) x := if_pos k0
    refine gen 0 (x.1 = 7) _ (ldTown q (sk B e (q + (wd B e q).length)) x) (by decide) k0 (Or.inl k0) (fun d => m_full0 hL1) (fun hf => ?_) (fun _ => ec) (fun hf S2 hM hF => m_row0 w J hM rfl (MLd_m hL1 hF) hf)
    rw [ec]
    exact if_pos hf
  · by_cases k1 : wd B e q = sx 1
    · have ec : ldCl B e q x = ldRoad B e q (sk B e (q + (wd B e q).length)) x := by
        unfold ldCl
        rw [if_neg k0, if_pos k1]
      refine gen 1 (x.2.1 = 12) _ (ldRoad B e q (sk B e (q + (wd B e q).length)) x) (by decide) k1 (Or.inr (Or.inl k1)) (fun d => m_full1 hL1) (fun hf => ?_) (fun _ => ec) (fun hf S2 hM hF => m_row1 w J hM rfl (MLd_m hL1 hF) hf)
      rw [ec]
      exact if_pos hf
    · by_cases k2 : wd B e q = sx 2
      · have ec : ldCl B e q x = ldCart B e q (sk B e (q + (wd B e q).length)) x := by
          unfold ldCl
          rw [if_neg k0, if_neg k1, if_pos k2]
        refine gen 2 (x.2.2.1 = 5) _ (ldCart B e q (sk B e (q + (wd B e q).length)) x) (by decide) k2 (Or.inr (Or.inr k2)) (fun d => m_full2 hL1) (fun hf => ?_) (fun _ => ec) (fun hf S2 hM hF => m_row2 w J hM rfl (MLd_m hL1 hF) hf)
        rw [ec]
        exact if_pos hf
      · obtain ⟨S2, f1, f2, -, f3⟩ := M_wrong1 (X := X) w J g2 1 (q : Int) (by omega)
        rw [hnone k0 k1 k2]
        refine ⟨S2, fun f hfe => ?_, fun y hy => (by cases hy), FQ_tr (FQ_m g3) (FQ_m f3)⟩
        injection hfe with hfe
        subst hfe
        refine ⟨fun d n hn => ?_, f2⟩
        obtain ⟨n, rfl⟩ : ∃ m, n = m + 1 + 1 := ⟨n - 2, by omega⟩
        refine ⟨n, by omega, head _ d (n + 1) ?_⟩
        refine cI_go (r := zI 0) (st := mkS w (hI S1) J) ?_ ?_
        · rw [hir, if_neg (fun z => by rcases z with z | z | z; exact k0 z; exact k1 z; exact k2 z)]
        refine (if_pos ?_).trans ?_
        · decide
        refine cV_go (st := mkS w (hI S2) J) ?_ ?_
        · simp (disch := omega) only [hk, hu, hI_n, hI_un, z_nat, em_d, zl, z_add, z_sub, z_mul, z_lt, z_eq, gI_mk, gJ_mk, cI_some, cV_some, cJ_some, cI_x, cV_x, cJ_x, uS_self, uS_ne, if_pos, if_neg, b01, b01n, ite_not, if_true, if_false, Bool.false_eq_true, a64]
          exact f1 _
        simp only [gI_mk, gJ_mk]
        exact l_56B f2
theorem mc_run_l {j : Nat} {f : Flt} (q1 : q < e) (h : mcRes B e (ldCl B e q x) = .inl f) : ldRun B e (j + 1) q x = .inl f := by
  cases er : ldCl B e q x with
  | inl g =>
    rw [er] at h
    rw [ldRun_l q1 er]
    have h : (Sum.inl g : Flt ⊕ (LSt × Nat)) = .inl f := h
    injection h with h
    rw [h]
  | inr y =>
    rw [er] at h
    rw [ldRun_r q1 er]
    have h : (if y.2 < e ∧ B y.2 = 59 then (Sum.inr (y.1, y.2 + 1) : Flt ⊕ (LSt × Nat)) else .inl (1, (y.2 : Int))) = .inl f := h
    by_cases k : y.2 < e ∧ B y.2 = 59
    · rw [if_pos k] at h
      cases h
    · rw [if_neg k] at h ⊢
      injection h with h
      rw [h]
theorem mc_run_r {j : Nat} {y : LSt × Nat} (q1 : q < e) (h : mcRes B e (ldCl B e q x) = .inr y) : ldRun B e (j + 1) q x = ldRun B e j (sk B e y.2) y.1 ∧ q < y.2 ∧ y.1.1 + y.1.2.1 + y.1.2.2.1 = x.1 + x.2.1 + x.2.2.1 + 1 := by
  cases er : ldCl B e q x with
  | inl g =>
    rw [er] at h
    cases h
  | inr z =>
    have hz := ldCl_q er
    have hc := ldCl_c er
    rw [er] at h
    rw [ldRun_r q1 er]
    have h : (if z.2 < e ∧ B z.2 = 59 then (Sum.inr (z.1, z.2 + 1) : Flt ⊕ (LSt × Nat)) else .inl (1, (z.2 : Int))) = .inr y := h
    by_cases k : z.2 < e ∧ B z.2 = 59
    · rw [if_pos k] at h ⊢
      injection h with h
      rw [← h]
      exact ⟨rfl, by show q < z.2 + 1; omega, hc⟩
    · rw [if_neg k] at h
      cases h
def mlFin (S' : Hp) (B : Nat → Int) (e : Nat) (r : Flt ⊕ LSt) : Prop := match r with
  | .inl f => Bd S' f.1 f.2
  | .inr y => (∃ p', Mp S' B e p') ∧ MLd S' y
theorem ml_ldRun (w : Bool × Bool × Bool) (J : Nat → Nat → Int64) : ∀ (j p i : Nat) (S : Hp) (x : LSt), i + j = 600 → i ≤ p → Mp S B e p → MLd S x → ∃ S', (∀ d n, 10 * j + 10 ≤ n → ∃ n', aR X (d + 5) m_X10_land n 26 [some (.ref 132), none, some (.int (zI ((x.1 + x.2.1 + x.2.2.1)))), none] (0, 0) (mkS w (hI S) J) = aR X (d + 5) m_X10_land (n' + 1) 70 [some (.ref 132), none, none, none] (0, 0) (mkS w (hI S') J)) ∧ mlFin S' B e (ldRun B e j (sk B e p) x) ∧ FQ S S'
  | 0, p, i, S, x, h1, h2, hM, hL => by
    have hsk := sk_ge (B := B) (e := e) (p := p)
    have he := hM.2.2.1
    obtain ⟨S1, g1, g2, g3⟩ := M_isMore (X := X) w J hM
    refine ⟨S1, fun d n hn => ?_, ⟨⟨_, g2⟩, MLd_m hL g3⟩, FQ_m g3⟩
    obtain ⟨n, rfl⟩ : ∃ m, n = m + 1 + 1 := ⟨n - 2, by omega⟩
    refine ⟨n, ?_⟩
    rw [e_X10_land_26]
    refine cI_go (r := zI 1) (st := mkS w (hI S) J) (M_fine1 hM) ?_
    refine (if_neg ?_).trans ?_
    · decide
    refine cI_go (r := zI 0) (st := mkS w (hI S1) J) ?_ ?_
    · simp only [gI_mk, gJ_mk]
      rw [g1, if_neg (by omega)]
    simp (disch := omega) only [hk, hu, hI_n, hI_un, z_nat, em_d, zl, z_add, z_sub, z_mul, z_lt, z_eq, gI_mk, gJ_mk, cI_some, cV_some, cJ_some, cI_x, cV_x, cJ_x, uS_self, uS_ne, if_pos, if_neg, b01, b01n, ite_not, if_true, if_false, Bool.false_eq_true]
  | j + 1, p, i, S, x, h1, h2, hM, hL => by
    have hsk := sk_ge (B := B) (e := e) (p := p)
    by_cases q1 : sk B e p < e
    · obtain ⟨S1, g1, g2, g3⟩ := m_ldCl (X := X) w J hM rfl q1 hL
      cases er : mcRes B e (ldCl B e (sk B e p) x) with
      | inl f =>
        obtain ⟨y1, y2⟩ := g1 f er
        rw [mc_run_l q1 er]
        refine ⟨S1, fun d n hn => ?_, y2, g3⟩
        obtain ⟨n', z1, z2⟩ := y1 d n (by omega)
        obtain ⟨n'', rfl⟩ : ∃ m, n' = m + 1 := ⟨n' - 1, by omega⟩
        exact ⟨n'', z2⟩
      | inr y =>
        obtain ⟨y1, y2, y3⟩ := g2 y er
        obtain ⟨r1, r2, r3⟩ := mc_run_r (j := j) q1 er
        rw [r1]
        obtain ⟨S2, u1, u2, u3⟩ := ml_ldRun w J j y.2 (i + 1) S1 y.1 (by omega) (by omega) y2 y3
        rw [r3] at u1
        refine ⟨S2, fun d n hn => ?_, u2, FQ_tr g3 u3⟩
        obtain ⟨n', z1, z2⟩ := y1 d n (by omega)
        obtain ⟨n3, z3⟩ := u1 d n' (by omega)
        exact ⟨n3, z2.trans z3⟩
    · obtain ⟨S1, g1, g2, g3⟩ := M_isMore (X := X) w J hM
      rw [show ldRun B e (j + 1) (sk B e p) x = .inr x from if_neg q1]
      refine ⟨S1, fun d n hn => ?_, ⟨⟨_, g2⟩, MLd_m hL g3⟩, FQ_m g3⟩
      obtain ⟨n, rfl⟩ : ∃ m, n = m + 1 + 1 := ⟨n - 2, by omega⟩
      refine ⟨n, ?_⟩
      rw [e_X10_land_26]
      refine cI_go (r := zI 1) (st := mkS w (hI S) J) (M_fine1 hM) ?_
      refine (if_neg ?_).trans ?_
      · decide
      refine cI_go (r := zI 0) (st := mkS w (hI S1) J) ?_ ?_
      · simp only [gI_mk, gJ_mk]
        rw [g1, if_neg q1]
      simp (disch := omega) only [hk, hu, hI_n, hI_un, z_nat, em_d, zl, z_add, z_sub, z_mul, z_lt, z_eq, gI_mk, gJ_mk, cI_some, cV_some, cJ_some, cI_x, cV_x, cJ_x, uS_self, uS_ne, if_pos, if_neg, b01, b01n, ite_not, if_true, if_false, Bool.false_eq_true]
end MLY
