/-! THE LAW'S TEXT: values, products, sums -/
/-- what a reading of the class comes to -/
def LcFin (S' : Hp) (l : Nat) (B : Nat → Int) (e : Nat) (cd : List (Int × Int)) : LOut → Prop
  | .inl f => S' 1 6 = f.1 ∧ S' 1 7 = f.2
  | .inr y => Tp S' B e y.2 ∧ CKl S' l (cd ++ y.1)
def LmFin (S' : Hp) (B : Nat → Int) (e : Nat) (cd : List (Int × Int)) (o : Int) : LOut → Prop
  | .inl f => Bd S' f.1 f.2
  | .inr y => (∃ p', Mp S' B e p' ∧ sk B e p' = y.2) ∧ MKl S' (cd ++ y.1) ∧ S' 132 7 = o
/-- a call of the class that reads, r more may open -/
def LcC (X : Nat × (Nat → Int32)) (B : Nat → Int) (e : Nat) (bw : Bool) (num D r q : Nat) (out : LOut) : Prop := ∀ (w : Bool × Bool × Bool) (J : Nat → Nat → Int64) (S : Hp) (cd : List (Int × Int)), Tp S B e q → CKl S (iW bw) cd → cd.length ≤ q → ∃ S', (∀ d, am_call X aP (d + D) num [.ref (iW bw), .ref 1, .int (zI (6 - (r : Int)))] (mkS w (hI S) J) = some (.inl (some (.int (zI (sg out)))), (mkS w (hI S') J))) ∧ LcFin S' (iW bw) B e cd out ∧ FW (iW bw) S S'
def LmC (X : Nat × (Nat → Int32)) (B : Nat → Int) (e : Nat) (num D r q : Nat) (out : LOut) : Prop := ∀ (w : Bool × Bool × Bool) (J : Nat → Nat → Int64) (S : Hp) (p : Nat) (cd : List (Int × Int)), Mp S B e p → sk B e p = q → S 132 7 = 6 - (r : Int) → MKl S cd → cd.length ≤ q → ∃ S', (∀ d, am_call X aP (d + D) num [.ref 132] (mkS w (hI S) J) = some (.inl none, (mkS w (hI S') J))) ∧ LmFin S' B e cd (6 - (r : Int)) out ∧ FZ S S'
def PU (X : Nat × (Nat → Int32)) (B : Nat → Int) (e : Nat) (bw : Bool) (r : Nat) : Prop := ∀ q, q ≤ e → sk B e q = q → ∃ out, WfU q B e out ∧ LcC X B e bw 33 (4 * r + 6) r q out ∧ LmC X B e 186 (4 * r + 6) r q out
def PP (X : Nat × (Nat → Int32)) (B : Nat → Int) (e : Nat) (bw : Bool) (r : Nat) : Prop := ∀ q, q ≤ e → sk B e q = q → ∃ out, WfU q B e out ∧ LcC X B e bw 32 (4 * r + 7) r q out ∧ LmC X B e 183 (4 * r + 7) r q out
def PS (X : Nat × (Nat → Int32)) (B : Nat → Int) (e : Nat) (bw : Bool) (r : Nat) : Prop := ∀ q, q ≤ e → sk B e q = q → ∃ out, WfU q B e out ∧ LcC X B e bw 31 (4 * r + 8) r q out ∧ LmC X B e 182 (4 * r + 8) r q out
theorem Psh_op {a b : List (Int × Int)} {k v : Int} (ha : Psh a) (hk9 : 2 ≤ k ∧ k ≤ 8) (hb : StpC b) : StpC (a ++ ((k, v) :: b)) := fun rest t h => by
  rw [List.append_assoc]
  exact ha _ _ (Or.inr (Or.inr ⟨hk9.1, hk9.2, by omega, hb rest t h⟩))
theorem Psh_st {a b : List (Int × Int)} (ha : Psh a) (hb : StpC b) : Psh (a ++ b) := fun rest t h => by
  rw [List.append_assoc]
  exact ha _ _ (hb rest t h)
theorem StpC_nil : StpC [] := fun _ _ h => h
/-- a value, or a value and what is made of it and others -/
def outSeq (o1 : LOut) (f : List (Int × Int) × Nat → LOut) : LOut := match o1 with
  | .inl g => .inl g
  | .inr y => match f y with
    | .inl g => .inl g
    | .inr z => .inr (y.1 ++ z.1, z.2)
section LW1
variable {X : Nat × (Nat → Int32)} {w : Bool × Bool × Bool} {J : Nat → Nat → Int64} {B : Nat → Int} {e : Nat} {bw : Bool} {r : Nat}
theorem c_prod_0 (he : e ≤ 150) {q : Nat} {S : Hp} {cd : List (Int × Int)} {i : Nat} (hT : Tp S B e q) (hK : CKl S (iW bw) cd) (hq : q < e ∧ B q = 42) (hl : cd.length ≤ q) (hi : i ≤ q) {o1 : LOut} (hw : WfU (sk B e (q + 1)) B e o1) (hun : LcC X B e bw 33 (4 * r + 6) r (sk B e (q + 1)) o1) : ∃ S', (∀ g, o1 = .inl g → (∀ d n, aR X (d + (4 * r + 6)) m_X3_readProduct (n + 1) 9 [some (.ref ((iW bw))), some (.ref 1), some (.int (zI ((6 - (r : Int))))), some (.int (zI ((i : Int)))), none] (0, 0) (mkS w (hI S) J) = some (.inl (some (.int (zI 0))), (mkS w (hI S') J))) ∧ S' 1 6 = g.1 ∧ S' 1 7 = g.2) ∧ (∀ y, o1 = .inr y → (∀ d n, aR X (d + (4 * r + 6)) m_X3_readProduct (n + 1) 9 [some (.ref ((iW bw))), some (.ref 1), some (.int (zI ((6 - (r : Int))))), some (.int (zI ((i : Int)))), none] (0, 0) (mkS w (hI S) J) = aR X (d + (4 * r + 6)) m_X3_readProduct n 9 [some (.ref ((iW bw))), some (.ref 1), some (.int (zI ((6 - (r : Int))))), some (.int (zI (((i + 1 : Nat) : Int)))), none] (0, 0) (mkS w (hI S') J)) ∧ Tp S' B e y.2 ∧ CKl S' (iW bw) (cd ++ y.1 ++ [(4, 0)])) ∧ FW (iW bw) S S' := by
  have hb := iW_c bw
  obtain ⟨S1, g1, g2, g3, g4⟩ := T_takes1 (X := X) w J hT (c := 42) (by decide) hq
  have hsk := sk_ge (B := B) (e := e) (p := q + 1)
  obtain ⟨S2, f1, f2, f3⟩ := hun w J S1 cd g2 (CKl_ft (by omega) hK g4) (by omega)
  cases o1 with
  | inl g =>
    refine ⟨S2, fun g' hg => ?_, fun y hy => (by cases hy), FW_tr (FW_t g4) f3⟩
    injection hg with hg
    subst hg
    refine ⟨fun d n => ?_, f2⟩
    rw [e_X3_readProduct_9]
    refine (if_pos ?_).trans ?_
    · simp (disch := omega) only [hk, hu, hI_n, hI_un, z_nat, em_d, zl, z_add, z_sub, z_mul, z_lt, z_eq, gI_mk, gJ_mk, cI_some, cV_some, cJ_some, cI_x, cV_x, cJ_x, uS_self, uS_ne, if_pos, if_neg, b01, b01n, ite_not, if_true, if_false, Bool.false_eq_true, hLL]
      omega
    refine cI_go (r := zI 1) (st := mkS w (hI S1) J) ?_ ?_
    · simp only [gI_mk, gJ_mk, zl]
      rw [show d + (4 * r + 6) = (d + (4 * r + 4)) + 2 by omega]
      exact g1 _
    refine (if_neg ?_).trans ?_
    · decide
    refine (if_neg ?_).trans ?_
    · decide
    refine cI_go (r := zI 0) (st := mkS w (hI S2) J) ?_ ?_
    · simp only [gI_mk, gJ_mk, zl]
      exact f1 _
    refine (if_pos ?_).trans ?_
    · decide
    simp (disch := omega) only [hk, hu, hI_n, hI_un, z_nat, em_d, zl, z_add, z_sub, z_mul, z_lt, z_eq, gI_mk, gJ_mk, cI_some, cV_some, cJ_some, cI_x, cV_x, cJ_x, uS_self, uS_ne, if_pos, if_neg, b01, b01n, ite_not, if_true, if_false, Bool.false_eq_true, hLL, rI_d]
  | inr y =>
    obtain ⟨f4, f5⟩ := f2
    obtain ⟨⟨w1, w2, w3⟩, -⟩ := hw
    have hq2 := f4.2.2.2.1
    obtain ⟨S3, y1, y2, y3, y4, y5⟩ := c_put (X := X) w J f5 (by rw [List.length_append]; omega) (4, 0)
    refine ⟨S3, fun g hg => (by cases hg), fun y' hy => ?_, FW_tr (FW_t g4) (FW_tr f3 y5)⟩
    injection hy with hy
    subst hy
    refine ⟨fun d n => ?_, Tp_o f4 y3 y4, y2⟩
    rw [e_X3_readProduct_9]
    refine (if_pos ?_).trans ?_
    · simp (disch := omega) only [hk, hu, hI_n, hI_un, z_nat, em_d, zl, z_add, z_sub, z_mul, z_lt, z_eq, gI_mk, gJ_mk, cI_some, cV_some, cJ_some, cI_x, cV_x, cJ_x, uS_self, uS_ne, if_pos, if_neg, b01, b01n, ite_not, if_true, if_false, Bool.false_eq_true, hLL]
      omega
    refine cI_go (r := zI 1) (st := mkS w (hI S1) J) ?_ ?_
    · simp only [gI_mk, gJ_mk, zl]
      rw [show d + (4 * r + 6) = (d + (4 * r + 4)) + 2 by omega]
      exact g1 _
    refine (if_neg ?_).trans ?_
    · decide
    refine (if_neg ?_).trans ?_
    · decide
    refine cI_go (r := zI 1) (st := mkS w (hI S2) J) ?_ ?_
    · simp only [gI_mk, gJ_mk, zl]
      exact f1 _
    refine (if_neg ?_).trans ?_
    · decide
    refine cI_go (r := zI 1) (st := mkS w (hI S3) J) ?_ ?_
    · simp only [gI_mk, gJ_mk, zl]
      rw [show d + (4 * r + 6) = (d + (4 * r + 5)) + 1 by omega]
      exact y1 _
    rw [show ((i + 1 : Nat) : Int) = (i : Int) + 1 by omega]
    simp (disch := omega) only [hk, hu, hI_n, hI_un, z_nat, em_d, zl, z_add, z_sub, z_mul, z_lt, z_eq, gI_mk, gJ_mk, cI_some, cV_some, cJ_some, cI_x, cV_x, cJ_x, uS_self, uS_ne, if_pos, if_neg, b01, b01n, ite_not, if_true, if_false, Bool.false_eq_true, hLL]
theorem m_prod_0 (he : e ≤ 150) {q p : Nat} {S : Hp} {cd : List (Int × Int)} (hM : Mp S B e p) (hs : sk B e p = q) (h7 : S 132 7 = 6 - (r : Int)) (hK : MKl S cd) (hq : q < e ∧ B q = 42) (hl : cd.length ≤ q) {o1 : LOut} (hw : WfU (sk B e (q + 1)) B e o1) (hun : LmC X B e 186 (4 * r + 6) r (sk B e (q + 1)) o1) : ∃ S', (∀ g, o1 = .inl g → (∀ d n, aR X (d + (4 * r + 6)) m_X10_readProduct (n + 3) 2 [some (.ref 132), none] (0, 0) (mkS w (hI S) J) = some (.inl none, (mkS w (hI S') J))) ∧ Bd S' g.1 g.2) ∧ (∀ y, o1 = .inr y → (∀ d n, aR X (d + (4 * r + 6)) m_X10_readProduct (n + 2) 2 [some (.ref 132), none] (0, 0) (mkS w (hI S) J) = aR X (d + (4 * r + 6)) m_X10_readProduct n 2 [some (.ref 132), none] (0, 0) (mkS w (hI S') J)) ∧ (∃ p', Mp S' B e p' ∧ sk B e p' = y.2) ∧ MKl S' (cd ++ y.1 ++ [(4, 0)]) ∧ S' 132 7 = 6 - (r : Int)) ∧ FZ S S' := by
  obtain ⟨S1, g1, g2, g3⟩ := M_here (X := X) w J hM
  rw [hs] at g1 g2
  have hqs : sk B e q = q := by rw [← hs]; exact sk_sk
  have eb : bt0 B e q = 42 := (bt0_c (by decide)).mpr hq
  have hN := fun d => M_hereN (X := X) (d := d) (w := w) (J := J) g2 hqs
  have hsk := sk_ge (B := B) (e := e) (p := q + 1)
  have a4 := g2.2.2.2.2.1
  obtain ⟨S2, f1, f2, f3⟩ := hun w J (uS S1 132 4 (q + 1 : Nat)) (q + 1) cd (Mp_4 g2 (by omega)) rfl (by rw [uS_ne _ _ (Or.inr (by decide)), g3.2 7 (by decide)]; exact h7) (CKp_o (MKl_m hK g3) (uS_ne _ _ (Or.inr (by decide))) (uS_row _ _ _ (by decide)) (uS_row _ _ _ (by decide))) (by omega)
  have hF2 : FZ S S2 := FZ_tr (FZ_m g3) (FZ_tr (FZ_7 S1 _ (Or.inl rfl)) f3)
  cases o1 with
  | inl g =>
    refine ⟨S2, fun g' hg => ?_, fun y hy => (by cases hy), hF2⟩
    injection hg with hg
    subst hg
    refine ⟨fun d n => ?_, f2⟩
    rw [e_X10_readProduct_2]
    refine cI_go (r := zI 1) (st := mkS w (hI S) J) ?_ ?_
    · rw [show d + (4 * r + 6) = (d + (4 * r + 5)) + 1 by omega]
      exact M_fine1 hM
    refine (if_neg ?_).trans ?_
    · decide
    refine cI_go (r := zI (bt0 B e q)) (st := mkS w (hI S1) J) ?_ ?_
    · simp only [gI_mk, gJ_mk]
      rw [show d + (4 * r + 6) = (d + (4 * r + 5)) + 1 by omega]
      exact g1 _
    refine (if_pos ?_).trans ?_
    · rw [eb]
      rfl
    simp only [gI_mk, gJ_mk]
    rw [e_X10_readProduct_17]
    refine cI_go (r := zI (bt0 B e q)) (st := mkS w (hI S1) J) ?_ ?_
    · rw [show d + (4 * r + 6) = (d + (4 * r + 5)) + 1 by omega]
      exact hN _
    refine (if_pos ?_).trans ?_
    · rw [eb]
      rfl
    refine cV_go (st := mkS w (hI S2) J) ?_ ?_
    · simp (disch := omega) only [hk, hu, hI_n, hI_un, z_nat, em_d, zl, z_add, z_sub, z_mul, z_lt, z_eq, gI_mk, gJ_mk, cI_some, cV_some, cJ_some, cI_x, cV_x, cJ_x, uS_self, uS_ne, if_pos, if_neg, b01, b01n, ite_not, if_true, if_false, Bool.false_eq_true, a4]
      rw [show (q : Int) + 1 = ((q + 1 : Nat) : Int) by omega]
      exact f1 _
    refine cV_go (st := mkS w (hI S2) J) ?_ ?_
    · simp only [gI_mk, gJ_mk, zl]
      rw [show d + (4 * r + 6) = (d + (4 * r + 4)) + 2 by omega]
      exact m_emitB f2
    simp only [gI_mk, gJ_mk]
    rw [e_X10_readProduct_2]
    refine cI_go (r := zI 0) (st := mkS w (hI S2) J) ?_ ?_
    · rw [show d + (4 * r + 6) = (d + (4 * r + 5)) + 1 by omega]
      exact M_fine0 f2
    refine (if_pos ?_).trans ?_
    · decide
    simp (disch := omega) only [hk, hu, hI_n, hI_un, z_nat, em_d, zl, z_add, z_sub, z_mul, z_lt, z_eq, gI_mk, gJ_mk, cI_some, cV_some, cJ_some, cI_x, cV_x, cJ_x, uS_self, uS_ne, if_pos, if_neg, b01, b01n, ite_not, if_true, if_false, Bool.false_eq_true, rV_d]
  | inr y =>
    obtain ⟨⟨p', f4, f5⟩, f6, f7⟩ := f2
    obtain ⟨⟨w1, w2, w3⟩, -⟩ := hw
    have hq2 := f4.2.2.2.1
    have hy2 : y.2 ≤ e := by rw [← f5]; exact sk_le hq2
    obtain ⟨S3, y1, y2, y3, y4, y5⟩ := m_emit (X := X) w J f4 f6 (by rw [List.length_append]; omega) (4, 0)
    refine ⟨S3, fun g hg => (by cases hg), fun y' hy => ?_, FZ_tr hF2 y5⟩
    injection hy with hy
    subst hy
    refine ⟨fun d n => ?_, ⟨p', y3, f5⟩, y2, y4.trans f7⟩
    rw [e_X10_readProduct_2]
    refine cI_go (r := zI 1) (st := mkS w (hI S) J) ?_ ?_
    · rw [show d + (4 * r + 6) = (d + (4 * r + 5)) + 1 by omega]
      exact M_fine1 hM
    refine (if_neg ?_).trans ?_
    · decide
    refine cI_go (r := zI (bt0 B e q)) (st := mkS w (hI S1) J) ?_ ?_
    · simp only [gI_mk, gJ_mk]
      rw [show d + (4 * r + 6) = (d + (4 * r + 5)) + 1 by omega]
      exact g1 _
    refine (if_pos ?_).trans ?_
    · rw [eb]
      rfl
    simp only [gI_mk, gJ_mk]
    rw [e_X10_readProduct_17]
    refine cI_go (r := zI (bt0 B e q)) (st := mkS w (hI S1) J) ?_ ?_
    · rw [show d + (4 * r + 6) = (d + (4 * r + 5)) + 1 by omega]
      exact hN _
    refine (if_pos ?_).trans ?_
    · rw [eb]
      rfl
    refine cV_go (st := mkS w (hI S2) J) ?_ ?_
    · simp (disch := omega) only [hk, hu, hI_n, hI_un, z_nat, em_d, zl, z_add, z_sub, z_mul, z_lt, z_eq, gI_mk, gJ_mk, cI_some, cV_some, cJ_some, cI_x, cV_x, cJ_x, uS_self, uS_ne, if_pos, if_neg, b01, b01n, ite_not, if_true, if_false, Bool.false_eq_true, a4]
      rw [show (q : Int) + 1 = ((q + 1 : Nat) : Int) by omega]
      exact f1 _
    refine cV_go (st := mkS w (hI S3) J) ?_ ?_
    · simp only [gI_mk, gJ_mk, zl]
      rw [show d + (4 * r + 6) = (d + (4 * r + 4)) + 2 by omega]
      exact y1 _
    simp only [gI_mk, gJ_mk]
theorem c_prod_1 (he : e ≤ 150) {q : Nat} {S : Hp} {cd : List (Int × Int)} {i : Nat} (hT : Tp S B e q) (hK : CKl S (iW bw) cd) (n0 : ¬ B q = 42) (hq : q < e ∧ B q = 47) (hl : cd.length ≤ q) (hi : i ≤ q) {o1 : LOut} (hw : WfU (sk B e (q + 1)) B e o1) (hun : LcC X B e bw 33 (4 * r + 6) r (sk B e (q + 1)) o1) : ∃ S', (∀ g, o1 = .inl g → (∀ d n, aR X (d + (4 * r + 6)) m_X3_readProduct (n + 1) 9 [some (.ref ((iW bw))), some (.ref 1), some (.int (zI ((6 - (r : Int))))), some (.int (zI ((i : Int)))), none] (0, 0) (mkS w (hI S) J) = some (.inl (some (.int (zI 0))), (mkS w (hI S') J))) ∧ S' 1 6 = g.1 ∧ S' 1 7 = g.2) ∧ (∀ y, o1 = .inr y → (∀ d n, aR X (d + (4 * r + 6)) m_X3_readProduct (n + 1) 9 [some (.ref ((iW bw))), some (.ref 1), some (.int (zI ((6 - (r : Int))))), some (.int (zI ((i : Int)))), none] (0, 0) (mkS w (hI S) J) = aR X (d + (4 * r + 6)) m_X3_readProduct n 9 [some (.ref ((iW bw))), some (.ref 1), some (.int (zI ((6 - (r : Int))))), some (.int (zI (((i + 1 : Nat) : Int)))), none] (0, 0) (mkS w (hI S') J)) ∧ Tp S' B e y.2 ∧ CKl S' (iW bw) (cd ++ y.1 ++ [(5, 0)])) ∧ FW (iW bw) S S' := by
  have hb := iW_c bw
  obtain ⟨S1, g1, g2, g3, g4⟩ := T_takes1 (X := X) w J hT (c := 47) (by decide) hq
  have hsk := sk_ge (B := B) (e := e) (p := q + 1)
  obtain ⟨S2, f1, f2, f3⟩ := hun w J S1 cd g2 (CKl_ft (by omega) hK g4) (by omega)
  cases o1 with
  | inl g =>
    refine ⟨S2, fun g' hg => ?_, fun y hy => (by cases hy), FW_tr (FW_t g4) f3⟩
    injection hg with hg
    subst hg
    refine ⟨fun d n => ?_, f2⟩
    rw [e_X3_readProduct_9]
    refine (if_pos ?_).trans ?_
    · simp (disch := omega) only [hk, hu, hI_n, hI_un, z_nat, em_d, zl, z_add, z_sub, z_mul, z_lt, z_eq, gI_mk, gJ_mk, cI_some, cV_some, cJ_some, cI_x, cV_x, cJ_x, uS_self, uS_ne, if_pos, if_neg, b01, b01n, ite_not, if_true, if_false, Bool.false_eq_true, hLL]
      omega
    refine cI_go (r := zI 0) (st := mkS w (hI S) J) ?_ ?_
    · simp only [gI_mk, gJ_mk, zl]
      rw [show d + (4 * r + 6) = (d + (4 * r + 4)) + 2 by omega]
      exact T_takes0 hT (by decide) (fun z => n0 z.2)
    refine (if_pos ?_).trans ?_
    · decide
    refine cI_go (r := zI 1) (st := mkS w (hI S1) J) ?_ ?_
    · simp only [gI_mk, gJ_mk, zl]
      rw [show d + (4 * r + 6) = (d + (4 * r + 4)) + 2 by omega]
      exact g1 _
    refine (if_neg ?_).trans ?_
    · decide
    refine (if_neg ?_).trans ?_
    · decide
    refine cI_go (r := zI 0) (st := mkS w (hI S2) J) ?_ ?_
    · simp only [gI_mk, gJ_mk, zl]
      exact f1 _
    refine (if_pos ?_).trans ?_
    · decide
    simp (disch := omega) only [hk, hu, hI_n, hI_un, z_nat, em_d, zl, z_add, z_sub, z_mul, z_lt, z_eq, gI_mk, gJ_mk, cI_some, cV_some, cJ_some, cI_x, cV_x, cJ_x, uS_self, uS_ne, if_pos, if_neg, b01, b01n, ite_not, if_true, if_false, Bool.false_eq_true, hLL, rI_d]
  | inr y =>
    obtain ⟨f4, f5⟩ := f2
    obtain ⟨⟨w1, w2, w3⟩, -⟩ := hw
    have hq2 := f4.2.2.2.1
    obtain ⟨S3, y1, y2, y3, y4, y5⟩ := c_put (X := X) w J f5 (by rw [List.length_append]; omega) (5, 0)
    refine ⟨S3, fun g hg => (by cases hg), fun y' hy => ?_, FW_tr (FW_t g4) (FW_tr f3 y5)⟩
    injection hy with hy
    subst hy
    refine ⟨fun d n => ?_, Tp_o f4 y3 y4, y2⟩
    rw [e_X3_readProduct_9]
    refine (if_pos ?_).trans ?_
    · simp (disch := omega) only [hk, hu, hI_n, hI_un, z_nat, em_d, zl, z_add, z_sub, z_mul, z_lt, z_eq, gI_mk, gJ_mk, cI_some, cV_some, cJ_some, cI_x, cV_x, cJ_x, uS_self, uS_ne, if_pos, if_neg, b01, b01n, ite_not, if_true, if_false, Bool.false_eq_true, hLL]
      omega
    refine cI_go (r := zI 0) (st := mkS w (hI S) J) ?_ ?_
    · simp only [gI_mk, gJ_mk, zl]
      rw [show d + (4 * r + 6) = (d + (4 * r + 4)) + 2 by omega]
      exact T_takes0 hT (by decide) (fun z => n0 z.2)
    refine (if_pos ?_).trans ?_
    · decide
    refine cI_go (r := zI 1) (st := mkS w (hI S1) J) ?_ ?_
    · simp only [gI_mk, gJ_mk, zl]
      rw [show d + (4 * r + 6) = (d + (4 * r + 4)) + 2 by omega]
      exact g1 _
    refine (if_neg ?_).trans ?_
    · decide
    refine (if_neg ?_).trans ?_
    · decide
    refine cI_go (r := zI 1) (st := mkS w (hI S2) J) ?_ ?_
    · simp only [gI_mk, gJ_mk, zl]
      exact f1 _
    refine (if_neg ?_).trans ?_
    · decide
    refine cI_go (r := zI 1) (st := mkS w (hI S3) J) ?_ ?_
    · simp only [gI_mk, gJ_mk, zl]
      rw [show d + (4 * r + 6) = (d + (4 * r + 5)) + 1 by omega]
      exact y1 _
    rw [show ((i + 1 : Nat) : Int) = (i : Int) + 1 by omega]
    simp (disch := omega) only [hk, hu, hI_n, hI_un, z_nat, em_d, zl, z_add, z_sub, z_mul, z_lt, z_eq, gI_mk, gJ_mk, cI_some, cV_some, cJ_some, cI_x, cV_x, cJ_x, uS_self, uS_ne, if_pos, if_neg, b01, b01n, ite_not, if_true, if_false, Bool.false_eq_true, hLL]
theorem m_prod_1 (he : e ≤ 150) {q p : Nat} {S : Hp} {cd : List (Int × Int)} (hM : Mp S B e p) (hs : sk B e p = q) (h7 : S 132 7 = 6 - (r : Int)) (hK : MKl S cd) (n0 : ¬ B q = 42) (hq : q < e ∧ B q = 47) (hl : cd.length ≤ q) {o1 : LOut} (hw : WfU (sk B e (q + 1)) B e o1) (hun : LmC X B e 186 (4 * r + 6) r (sk B e (q + 1)) o1) : ∃ S', (∀ g, o1 = .inl g → (∀ d n, aR X (d + (4 * r + 6)) m_X10_readProduct (n + 3) 2 [some (.ref 132), none] (0, 0) (mkS w (hI S) J) = some (.inl none, (mkS w (hI S') J))) ∧ Bd S' g.1 g.2) ∧ (∀ y, o1 = .inr y → (∀ d n, aR X (d + (4 * r + 6)) m_X10_readProduct (n + 2) 2 [some (.ref 132), none] (0, 0) (mkS w (hI S) J) = aR X (d + (4 * r + 6)) m_X10_readProduct n 2 [some (.ref 132), none] (0, 0) (mkS w (hI S') J)) ∧ (∃ p', Mp S' B e p' ∧ sk B e p' = y.2) ∧ MKl S' (cd ++ y.1 ++ [(5, 0)]) ∧ S' 132 7 = 6 - (r : Int)) ∧ FZ S S' := by
  obtain ⟨S1, g1, g2, g3⟩ := M_here (X := X) w J hM
  rw [hs] at g1 g2
  have hqs : sk B e q = q := by rw [← hs]; exact sk_sk
  have eb : bt0 B e q = 47 := (bt0_c (by decide)).mpr hq
  have hN := fun d => M_hereN (X := X) (d := d) (w := w) (J := J) g2 hqs
  have hsk := sk_ge (B := B) (e := e) (p := q + 1)
  have a4 := g2.2.2.2.2.1
  obtain ⟨S2, f1, f2, f3⟩ := hun w J (uS S1 132 4 (q + 1 : Nat)) (q + 1) cd (Mp_4 g2 (by omega)) rfl (by rw [uS_ne _ _ (Or.inr (by decide)), g3.2 7 (by decide)]; exact h7) (CKp_o (MKl_m hK g3) (uS_ne _ _ (Or.inr (by decide))) (uS_row _ _ _ (by decide)) (uS_row _ _ _ (by decide))) (by omega)
  have hF2 : FZ S S2 := FZ_tr (FZ_m g3) (FZ_tr (FZ_7 S1 _ (Or.inl rfl)) f3)
  cases o1 with
  | inl g =>
    refine ⟨S2, fun g' hg => ?_, fun y hy => (by cases hy), hF2⟩
    injection hg with hg
    subst hg
    refine ⟨fun d n => ?_, f2⟩
    rw [e_X10_readProduct_2]
    refine cI_go (r := zI 1) (st := mkS w (hI S) J) ?_ ?_
    · rw [show d + (4 * r + 6) = (d + (4 * r + 5)) + 1 by omega]
      exact M_fine1 hM
    refine (if_neg ?_).trans ?_
    · decide
    refine cI_go (r := zI (bt0 B e q)) (st := mkS w (hI S1) J) ?_ ?_
    · simp only [gI_mk, gJ_mk]
      rw [show d + (4 * r + 6) = (d + (4 * r + 5)) + 1 by omega]
      exact g1 _
    refine (if_neg ?_).trans ?_
    · rw [eb]
      decide
    refine cI_go (r := zI (bt0 B e q)) (st := mkS w (hI S1) J) ?_ ?_
    · simp only [gI_mk, gJ_mk]
      rw [show d + (4 * r + 6) = (d + (4 * r + 5)) + 1 by omega]
      exact hN _
    refine (if_pos ?_).trans ?_
    · rw [eb]
      rfl
    simp only [gI_mk, gJ_mk]
    rw [e_X10_readProduct_17]
    refine cI_go (r := zI (bt0 B e q)) (st := mkS w (hI S1) J) ?_ ?_
    · rw [show d + (4 * r + 6) = (d + (4 * r + 5)) + 1 by omega]
      exact hN _
    refine (if_neg ?_).trans ?_
    · rw [eb]
      decide
    refine cI_go (r := zI (bt0 B e q)) (st := mkS w (hI S1) J) ?_ ?_
    · simp only [gI_mk, gJ_mk]
      rw [show d + (4 * r + 6) = (d + (4 * r + 5)) + 1 by omega]
      exact hN _
    refine (if_pos ?_).trans ?_
    · rw [eb]
      rfl
    refine cV_go (st := mkS w (hI S2) J) ?_ ?_
    · simp (disch := omega) only [hk, hu, hI_n, hI_un, z_nat, em_d, zl, z_add, z_sub, z_mul, z_lt, z_eq, gI_mk, gJ_mk, cI_some, cV_some, cJ_some, cI_x, cV_x, cJ_x, uS_self, uS_ne, if_pos, if_neg, b01, b01n, ite_not, if_true, if_false, Bool.false_eq_true, a4]
      rw [show (q : Int) + 1 = ((q + 1 : Nat) : Int) by omega]
      exact f1 _
    refine cV_go (st := mkS w (hI S2) J) ?_ ?_
    · simp only [gI_mk, gJ_mk, zl]
      rw [show d + (4 * r + 6) = (d + (4 * r + 4)) + 2 by omega]
      exact m_emitB f2
    simp only [gI_mk, gJ_mk]
    rw [e_X10_readProduct_2]
    refine cI_go (r := zI 0) (st := mkS w (hI S2) J) ?_ ?_
    · rw [show d + (4 * r + 6) = (d + (4 * r + 5)) + 1 by omega]
      exact M_fine0 f2
    refine (if_pos ?_).trans ?_
    · decide
    simp (disch := omega) only [hk, hu, hI_n, hI_un, z_nat, em_d, zl, z_add, z_sub, z_mul, z_lt, z_eq, gI_mk, gJ_mk, cI_some, cV_some, cJ_some, cI_x, cV_x, cJ_x, uS_self, uS_ne, if_pos, if_neg, b01, b01n, ite_not, if_true, if_false, Bool.false_eq_true, rV_d]
  | inr y =>
    obtain ⟨⟨p', f4, f5⟩, f6, f7⟩ := f2
    obtain ⟨⟨w1, w2, w3⟩, -⟩ := hw
    have hq2 := f4.2.2.2.1
    have hy2 : y.2 ≤ e := by rw [← f5]; exact sk_le hq2
    obtain ⟨S3, y1, y2, y3, y4, y5⟩ := m_emit (X := X) w J f4 f6 (by rw [List.length_append]; omega) (5, 0)
    refine ⟨S3, fun g hg => (by cases hg), fun y' hy => ?_, FZ_tr hF2 y5⟩
    injection hy with hy
    subst hy
    refine ⟨fun d n => ?_, ⟨p', y3, f5⟩, y2, y4.trans f7⟩
    rw [e_X10_readProduct_2]
    refine cI_go (r := zI 1) (st := mkS w (hI S) J) ?_ ?_
    · rw [show d + (4 * r + 6) = (d + (4 * r + 5)) + 1 by omega]
      exact M_fine1 hM
    refine (if_neg ?_).trans ?_
    · decide
    refine cI_go (r := zI (bt0 B e q)) (st := mkS w (hI S1) J) ?_ ?_
    · simp only [gI_mk, gJ_mk]
      rw [show d + (4 * r + 6) = (d + (4 * r + 5)) + 1 by omega]
      exact g1 _
    refine (if_neg ?_).trans ?_
    · rw [eb]
      decide
    refine cI_go (r := zI (bt0 B e q)) (st := mkS w (hI S1) J) ?_ ?_
    · simp only [gI_mk, gJ_mk]
      rw [show d + (4 * r + 6) = (d + (4 * r + 5)) + 1 by omega]
      exact hN _
    refine (if_pos ?_).trans ?_
    · rw [eb]
      rfl
    simp only [gI_mk, gJ_mk]
    rw [e_X10_readProduct_17]
    refine cI_go (r := zI (bt0 B e q)) (st := mkS w (hI S1) J) ?_ ?_
    · rw [show d + (4 * r + 6) = (d + (4 * r + 5)) + 1 by omega]
      exact hN _
    refine (if_neg ?_).trans ?_
    · rw [eb]
      decide
    refine cI_go (r := zI (bt0 B e q)) (st := mkS w (hI S1) J) ?_ ?_
    · simp only [gI_mk, gJ_mk]
      rw [show d + (4 * r + 6) = (d + (4 * r + 5)) + 1 by omega]
      exact hN _
    refine (if_pos ?_).trans ?_
    · rw [eb]
      rfl
    refine cV_go (st := mkS w (hI S2) J) ?_ ?_
    · simp (disch := omega) only [hk, hu, hI_n, hI_un, z_nat, em_d, zl, z_add, z_sub, z_mul, z_lt, z_eq, gI_mk, gJ_mk, cI_some, cV_some, cJ_some, cI_x, cV_x, cJ_x, uS_self, uS_ne, if_pos, if_neg, b01, b01n, ite_not, if_true, if_false, Bool.false_eq_true, a4]
      rw [show (q : Int) + 1 = ((q + 1 : Nat) : Int) by omega]
      exact f1 _
    refine cV_go (st := mkS w (hI S3) J) ?_ ?_
    · simp only [gI_mk, gJ_mk, zl]
      rw [show d + (4 * r + 6) = (d + (4 * r + 4)) + 2 by omega]
      exact y1 _
    simp only [gI_mk, gJ_mk]
theorem c_prod_2 (he : e ≤ 150) {q : Nat} {S : Hp} {cd : List (Int × Int)} {i : Nat} (hT : Tp S B e q) (hK : CKl S (iW bw) cd) (n0 : ¬ B q = 42) (n1 : ¬ B q = 47) (hq : q < e ∧ B q = 37) (hl : cd.length ≤ q) (hi : i ≤ q) {o1 : LOut} (hw : WfU (sk B e (q + 1)) B e o1) (hun : LcC X B e bw 33 (4 * r + 6) r (sk B e (q + 1)) o1) : ∃ S', (∀ g, o1 = .inl g → (∀ d n, aR X (d + (4 * r + 6)) m_X3_readProduct (n + 1) 9 [some (.ref ((iW bw))), some (.ref 1), some (.int (zI ((6 - (r : Int))))), some (.int (zI ((i : Int)))), none] (0, 0) (mkS w (hI S) J) = some (.inl (some (.int (zI 0))), (mkS w (hI S') J))) ∧ S' 1 6 = g.1 ∧ S' 1 7 = g.2) ∧ (∀ y, o1 = .inr y → (∀ d n, aR X (d + (4 * r + 6)) m_X3_readProduct (n + 1) 9 [some (.ref ((iW bw))), some (.ref 1), some (.int (zI ((6 - (r : Int))))), some (.int (zI ((i : Int)))), none] (0, 0) (mkS w (hI S) J) = aR X (d + (4 * r + 6)) m_X3_readProduct n 9 [some (.ref ((iW bw))), some (.ref 1), some (.int (zI ((6 - (r : Int))))), some (.int (zI (((i + 1 : Nat) : Int)))), none] (0, 0) (mkS w (hI S') J)) ∧ Tp S' B e y.2 ∧ CKl S' (iW bw) (cd ++ y.1 ++ [(8, 0)])) ∧ FW (iW bw) S S' := by
  have hb := iW_c bw
  obtain ⟨S1, g1, g2, g3, g4⟩ := T_takes1 (X := X) w J hT (c := 37) (by decide) hq
  have hsk := sk_ge (B := B) (e := e) (p := q + 1)
  obtain ⟨S2, f1, f2, f3⟩ := hun w J S1 cd g2 (CKl_ft (by omega) hK g4) (by omega)
  cases o1 with
  | inl g =>
    refine ⟨S2, fun g' hg => ?_, fun y hy => (by cases hy), FW_tr (FW_t g4) f3⟩
    injection hg with hg
    subst hg
    refine ⟨fun d n => ?_, f2⟩
    rw [e_X3_readProduct_9]
    refine (if_pos ?_).trans ?_
    · simp (disch := omega) only [hk, hu, hI_n, hI_un, z_nat, em_d, zl, z_add, z_sub, z_mul, z_lt, z_eq, gI_mk, gJ_mk, cI_some, cV_some, cJ_some, cI_x, cV_x, cJ_x, uS_self, uS_ne, if_pos, if_neg, b01, b01n, ite_not, if_true, if_false, Bool.false_eq_true, hLL]
      omega
    refine cI_go (r := zI 0) (st := mkS w (hI S) J) ?_ ?_
    · simp only [gI_mk, gJ_mk, zl]
      rw [show d + (4 * r + 6) = (d + (4 * r + 4)) + 2 by omega]
      exact T_takes0 hT (by decide) (fun z => n0 z.2)
    refine (if_pos ?_).trans ?_
    · decide
    refine cI_go (r := zI 0) (st := mkS w (hI S) J) ?_ ?_
    · simp only [gI_mk, gJ_mk, zl]
      rw [show d + (4 * r + 6) = (d + (4 * r + 4)) + 2 by omega]
      exact T_takes0 hT (by decide) (fun z => n1 z.2)
    refine (if_pos ?_).trans ?_
    · decide
    refine cI_go (r := zI 1) (st := mkS w (hI S1) J) ?_ ?_
    · simp only [gI_mk, gJ_mk, zl]
      rw [show d + (4 * r + 6) = (d + (4 * r + 4)) + 2 by omega]
      exact g1 _
    refine (if_neg ?_).trans ?_
    · decide
    refine (if_neg ?_).trans ?_
    · decide
    refine cI_go (r := zI 0) (st := mkS w (hI S2) J) ?_ ?_
    · simp only [gI_mk, gJ_mk, zl]
      exact f1 _
    refine (if_pos ?_).trans ?_
    · decide
    simp (disch := omega) only [hk, hu, hI_n, hI_un, z_nat, em_d, zl, z_add, z_sub, z_mul, z_lt, z_eq, gI_mk, gJ_mk, cI_some, cV_some, cJ_some, cI_x, cV_x, cJ_x, uS_self, uS_ne, if_pos, if_neg, b01, b01n, ite_not, if_true, if_false, Bool.false_eq_true, hLL, rI_d]
  | inr y =>
    obtain ⟨f4, f5⟩ := f2
    obtain ⟨⟨w1, w2, w3⟩, -⟩ := hw
    have hq2 := f4.2.2.2.1
    obtain ⟨S3, y1, y2, y3, y4, y5⟩ := c_put (X := X) w J f5 (by rw [List.length_append]; omega) (8, 0)
    refine ⟨S3, fun g hg => (by cases hg), fun y' hy => ?_, FW_tr (FW_t g4) (FW_tr f3 y5)⟩
    injection hy with hy
    subst hy
    refine ⟨fun d n => ?_, Tp_o f4 y3 y4, y2⟩
    rw [e_X3_readProduct_9]
    refine (if_pos ?_).trans ?_
    · simp (disch := omega) only [hk, hu, hI_n, hI_un, z_nat, em_d, zl, z_add, z_sub, z_mul, z_lt, z_eq, gI_mk, gJ_mk, cI_some, cV_some, cJ_some, cI_x, cV_x, cJ_x, uS_self, uS_ne, if_pos, if_neg, b01, b01n, ite_not, if_true, if_false, Bool.false_eq_true, hLL]
      omega
    refine cI_go (r := zI 0) (st := mkS w (hI S) J) ?_ ?_
    · simp only [gI_mk, gJ_mk, zl]
      rw [show d + (4 * r + 6) = (d + (4 * r + 4)) + 2 by omega]
      exact T_takes0 hT (by decide) (fun z => n0 z.2)
    refine (if_pos ?_).trans ?_
    · decide
    refine cI_go (r := zI 0) (st := mkS w (hI S) J) ?_ ?_
    · simp only [gI_mk, gJ_mk, zl]
      rw [show d + (4 * r + 6) = (d + (4 * r + 4)) + 2 by omega]
      exact T_takes0 hT (by decide) (fun z => n1 z.2)
    refine (if_pos ?_).trans ?_
    · decide
    refine cI_go (r := zI 1) (st := mkS w (hI S1) J) ?_ ?_
    · simp only [gI_mk, gJ_mk, zl]
      rw [show d + (4 * r + 6) = (d + (4 * r + 4)) + 2 by omega]
      exact g1 _
    refine (if_neg ?_).trans ?_
    · decide
    refine (if_neg ?_).trans ?_
    · decide
    refine cI_go (r := zI 1) (st := mkS w (hI S2) J) ?_ ?_
    · simp only [gI_mk, gJ_mk, zl]
      exact f1 _
    refine (if_neg ?_).trans ?_
    · decide
    refine cI_go (r := zI 1) (st := mkS w (hI S3) J) ?_ ?_
    · simp only [gI_mk, gJ_mk, zl]
      rw [show d + (4 * r + 6) = (d + (4 * r + 5)) + 1 by omega]
      exact y1 _
    rw [show ((i + 1 : Nat) : Int) = (i : Int) + 1 by omega]
    simp (disch := omega) only [hk, hu, hI_n, hI_un, z_nat, em_d, zl, z_add, z_sub, z_mul, z_lt, z_eq, gI_mk, gJ_mk, cI_some, cV_some, cJ_some, cI_x, cV_x, cJ_x, uS_self, uS_ne, if_pos, if_neg, b01, b01n, ite_not, if_true, if_false, Bool.false_eq_true, hLL]
theorem m_prod_2 (he : e ≤ 150) {q p : Nat} {S : Hp} {cd : List (Int × Int)} (hM : Mp S B e p) (hs : sk B e p = q) (h7 : S 132 7 = 6 - (r : Int)) (hK : MKl S cd) (n0 : ¬ B q = 42) (n1 : ¬ B q = 47) (hq : q < e ∧ B q = 37) (hl : cd.length ≤ q) {o1 : LOut} (hw : WfU (sk B e (q + 1)) B e o1) (hun : LmC X B e 186 (4 * r + 6) r (sk B e (q + 1)) o1) : ∃ S', (∀ g, o1 = .inl g → (∀ d n, aR X (d + (4 * r + 6)) m_X10_readProduct (n + 3) 2 [some (.ref 132), none] (0, 0) (mkS w (hI S) J) = some (.inl none, (mkS w (hI S') J))) ∧ Bd S' g.1 g.2) ∧ (∀ y, o1 = .inr y → (∀ d n, aR X (d + (4 * r + 6)) m_X10_readProduct (n + 2) 2 [some (.ref 132), none] (0, 0) (mkS w (hI S) J) = aR X (d + (4 * r + 6)) m_X10_readProduct n 2 [some (.ref 132), none] (0, 0) (mkS w (hI S') J)) ∧ (∃ p', Mp S' B e p' ∧ sk B e p' = y.2) ∧ MKl S' (cd ++ y.1 ++ [(8, 0)]) ∧ S' 132 7 = 6 - (r : Int)) ∧ FZ S S' := by
  obtain ⟨S1, g1, g2, g3⟩ := M_here (X := X) w J hM
  rw [hs] at g1 g2
  have hqs : sk B e q = q := by rw [← hs]; exact sk_sk
  have eb : bt0 B e q = 37 := (bt0_c (by decide)).mpr hq
  have hN := fun d => M_hereN (X := X) (d := d) (w := w) (J := J) g2 hqs
  have hsk := sk_ge (B := B) (e := e) (p := q + 1)
  have a4 := g2.2.2.2.2.1
  obtain ⟨S2, f1, f2, f3⟩ := hun w J (uS S1 132 4 (q + 1 : Nat)) (q + 1) cd (Mp_4 g2 (by omega)) rfl (by rw [uS_ne _ _ (Or.inr (by decide)), g3.2 7 (by decide)]; exact h7) (CKp_o (MKl_m hK g3) (uS_ne _ _ (Or.inr (by decide))) (uS_row _ _ _ (by decide)) (uS_row _ _ _ (by decide))) (by omega)
  have hF2 : FZ S S2 := FZ_tr (FZ_m g3) (FZ_tr (FZ_7 S1 _ (Or.inl rfl)) f3)
  cases o1 with
  | inl g =>
    refine ⟨S2, fun g' hg => ?_, fun y hy => (by cases hy), hF2⟩
    injection hg with hg
    subst hg
    refine ⟨fun d n => ?_, f2⟩
    rw [e_X10_readProduct_2]
    refine cI_go (r := zI 1) (st := mkS w (hI S) J) ?_ ?_
    · rw [show d + (4 * r + 6) = (d + (4 * r + 5)) + 1 by omega]
      exact M_fine1 hM
    refine (if_neg ?_).trans ?_
    · decide
    refine cI_go (r := zI (bt0 B e q)) (st := mkS w (hI S1) J) ?_ ?_
    · simp only [gI_mk, gJ_mk]
      rw [show d + (4 * r + 6) = (d + (4 * r + 5)) + 1 by omega]
      exact g1 _
    refine (if_neg ?_).trans ?_
    · rw [eb]
      decide
    refine cI_go (r := zI (bt0 B e q)) (st := mkS w (hI S1) J) ?_ ?_
    · simp only [gI_mk, gJ_mk]
      rw [show d + (4 * r + 6) = (d + (4 * r + 5)) + 1 by omega]
      exact hN _
    refine (if_neg ?_).trans ?_
    · rw [eb]
      decide
    refine cI_go (r := zI (bt0 B e q)) (st := mkS w (hI S1) J) ?_ ?_
    · simp only [gI_mk, gJ_mk]
      rw [show d + (4 * r + 6) = (d + (4 * r + 5)) + 1 by omega]
      exact hN _
    refine (if_pos ?_).trans ?_
    · rw [eb]
      rfl
    simp only [gI_mk, gJ_mk]
    rw [e_X10_readProduct_17]
    refine cI_go (r := zI (bt0 B e q)) (st := mkS w (hI S1) J) ?_ ?_
    · rw [show d + (4 * r + 6) = (d + (4 * r + 5)) + 1 by omega]
      exact hN _
    refine (if_neg ?_).trans ?_
    · rw [eb]
      decide
    refine cI_go (r := zI (bt0 B e q)) (st := mkS w (hI S1) J) ?_ ?_
    · simp only [gI_mk, gJ_mk]
      rw [show d + (4 * r + 6) = (d + (4 * r + 5)) + 1 by omega]
      exact hN _
    refine (if_neg ?_).trans ?_
    · rw [eb]
      decide
    refine cV_go (st := mkS w (hI S2) J) ?_ ?_
    · simp (disch := omega) only [hk, hu, hI_n, hI_un, z_nat, em_d, zl, z_add, z_sub, z_mul, z_lt, z_eq, gI_mk, gJ_mk, cI_some, cV_some, cJ_some, cI_x, cV_x, cJ_x, uS_self, uS_ne, if_pos, if_neg, b01, b01n, ite_not, if_true, if_false, Bool.false_eq_true, a4]
      rw [show (q : Int) + 1 = ((q + 1 : Nat) : Int) by omega]
      exact f1 _
    refine cV_go (st := mkS w (hI S2) J) ?_ ?_
    · simp only [gI_mk, gJ_mk, zl]
      rw [show d + (4 * r + 6) = (d + (4 * r + 4)) + 2 by omega]
      exact m_emitB f2
    simp only [gI_mk, gJ_mk]
    rw [e_X10_readProduct_2]
    refine cI_go (r := zI 0) (st := mkS w (hI S2) J) ?_ ?_
    · rw [show d + (4 * r + 6) = (d + (4 * r + 5)) + 1 by omega]
      exact M_fine0 f2
    refine (if_pos ?_).trans ?_
    · decide
    simp (disch := omega) only [hk, hu, hI_n, hI_un, z_nat, em_d, zl, z_add, z_sub, z_mul, z_lt, z_eq, gI_mk, gJ_mk, cI_some, cV_some, cJ_some, cI_x, cV_x, cJ_x, uS_self, uS_ne, if_pos, if_neg, b01, b01n, ite_not, if_true, if_false, Bool.false_eq_true, rV_d]
  | inr y =>
    obtain ⟨⟨p', f4, f5⟩, f6, f7⟩ := f2
    obtain ⟨⟨w1, w2, w3⟩, -⟩ := hw
    have hq2 := f4.2.2.2.1
    have hy2 : y.2 ≤ e := by rw [← f5]; exact sk_le hq2
    obtain ⟨S3, y1, y2, y3, y4, y5⟩ := m_emit (X := X) w J f4 f6 (by rw [List.length_append]; omega) (8, 0)
    refine ⟨S3, fun g hg => (by cases hg), fun y' hy => ?_, FZ_tr hF2 y5⟩
    injection hy with hy
    subst hy
    refine ⟨fun d n => ?_, ⟨p', y3, f5⟩, y2, y4.trans f7⟩
    rw [e_X10_readProduct_2]
    refine cI_go (r := zI 1) (st := mkS w (hI S) J) ?_ ?_
    · rw [show d + (4 * r + 6) = (d + (4 * r + 5)) + 1 by omega]
      exact M_fine1 hM
    refine (if_neg ?_).trans ?_
    · decide
    refine cI_go (r := zI (bt0 B e q)) (st := mkS w (hI S1) J) ?_ ?_
    · simp only [gI_mk, gJ_mk]
      rw [show d + (4 * r + 6) = (d + (4 * r + 5)) + 1 by omega]
      exact g1 _
    refine (if_neg ?_).trans ?_
    · rw [eb]
      decide
    refine cI_go (r := zI (bt0 B e q)) (st := mkS w (hI S1) J) ?_ ?_
    · simp only [gI_mk, gJ_mk]
      rw [show d + (4 * r + 6) = (d + (4 * r + 5)) + 1 by omega]
      exact hN _
    refine (if_neg ?_).trans ?_
    · rw [eb]
      decide
    refine cI_go (r := zI (bt0 B e q)) (st := mkS w (hI S1) J) ?_ ?_
    · simp only [gI_mk, gJ_mk]
      rw [show d + (4 * r + 6) = (d + (4 * r + 5)) + 1 by omega]
      exact hN _
    refine (if_pos ?_).trans ?_
    · rw [eb]
      rfl
    simp only [gI_mk, gJ_mk]
    rw [e_X10_readProduct_17]
    refine cI_go (r := zI (bt0 B e q)) (st := mkS w (hI S1) J) ?_ ?_
    · rw [show d + (4 * r + 6) = (d + (4 * r + 5)) + 1 by omega]
      exact hN _
    refine (if_neg ?_).trans ?_
    · rw [eb]
      decide
    refine cI_go (r := zI (bt0 B e q)) (st := mkS w (hI S1) J) ?_ ?_
    · simp only [gI_mk, gJ_mk]
      rw [show d + (4 * r + 6) = (d + (4 * r + 5)) + 1 by omega]
      exact hN _
    refine (if_neg ?_).trans ?_
    · rw [eb]
      decide
    refine cV_go (st := mkS w (hI S2) J) ?_ ?_
    · simp (disch := omega) only [hk, hu, hI_n, hI_un, z_nat, em_d, zl, z_add, z_sub, z_mul, z_lt, z_eq, gI_mk, gJ_mk, cI_some, cV_some, cJ_some, cI_x, cV_x, cJ_x, uS_self, uS_ne, if_pos, if_neg, b01, b01n, ite_not, if_true, if_false, Bool.false_eq_true, a4]
      rw [show (q : Int) + 1 = ((q + 1 : Nat) : Int) by omega]
      exact f1 _
    refine cV_go (st := mkS w (hI S3) J) ?_ ?_
    · simp only [gI_mk, gJ_mk, zl]
      rw [show d + (4 * r + 6) = (d + (4 * r + 4)) + 2 by omega]
      exact y1 _
    simp only [gI_mk, gJ_mk]
theorem c_sum_0 (he : e ≤ 150) {q : Nat} {S : Hp} {cd : List (Int × Int)} {i : Nat} (hT : Tp S B e q) (hK : CKl S (iW bw) cd) (hq : q < e ∧ B q = 43) (hl : cd.length ≤ q) (hi : i ≤ q) {o1 : LOut} (hw : WfU (sk B e (q + 1)) B e o1) (hun : LcC X B e bw 32 (4 * r + 7) r (sk B e (q + 1)) o1) : ∃ S', (∀ g, o1 = .inl g → (∀ d n, aR X (d + (4 * r + 7)) m_X3_readSum (n + 1) 9 [some (.ref ((iW bw))), some (.ref 1), some (.int (zI ((6 - (r : Int))))), some (.int (zI ((i : Int)))), none] (0, 0) (mkS w (hI S) J) = some (.inl (some (.int (zI 0))), (mkS w (hI S') J))) ∧ S' 1 6 = g.1 ∧ S' 1 7 = g.2) ∧ (∀ y, o1 = .inr y → (∀ d n, aR X (d + (4 * r + 7)) m_X3_readSum (n + 1) 9 [some (.ref ((iW bw))), some (.ref 1), some (.int (zI ((6 - (r : Int))))), some (.int (zI ((i : Int)))), none] (0, 0) (mkS w (hI S) J) = aR X (d + (4 * r + 7)) m_X3_readSum n 9 [some (.ref ((iW bw))), some (.ref 1), some (.int (zI ((6 - (r : Int))))), some (.int (zI (((i + 1 : Nat) : Int)))), none] (0, 0) (mkS w (hI S') J)) ∧ Tp S' B e y.2 ∧ CKl S' (iW bw) (cd ++ y.1 ++ [(2, 0)])) ∧ FW (iW bw) S S' := by
  have hb := iW_c bw
  obtain ⟨S1, g1, g2, g3, g4⟩ := T_takes1 (X := X) w J hT (c := 43) (by decide) hq
  have hsk := sk_ge (B := B) (e := e) (p := q + 1)
  obtain ⟨S2, f1, f2, f3⟩ := hun w J S1 cd g2 (CKl_ft (by omega) hK g4) (by omega)
  cases o1 with
  | inl g =>
    refine ⟨S2, fun g' hg => ?_, fun y hy => (by cases hy), FW_tr (FW_t g4) f3⟩
    injection hg with hg
    subst hg
    refine ⟨fun d n => ?_, f2⟩
    rw [e_X3_readSum_9]
    refine (if_pos ?_).trans ?_
    · simp (disch := omega) only [hk, hu, hI_n, hI_un, z_nat, em_d, zl, z_add, z_sub, z_mul, z_lt, z_eq, gI_mk, gJ_mk, cI_some, cV_some, cJ_some, cI_x, cV_x, cJ_x, uS_self, uS_ne, if_pos, if_neg, b01, b01n, ite_not, if_true, if_false, Bool.false_eq_true, hLL]
      omega
    refine cI_go (r := zI 1) (st := mkS w (hI S1) J) ?_ ?_
    · simp only [gI_mk, gJ_mk, zl]
      rw [show d + (4 * r + 7) = (d + (4 * r + 5)) + 2 by omega]
      exact g1 _
    refine (if_neg ?_).trans ?_
    · decide
    refine (if_neg ?_).trans ?_
    · decide
    refine cI_go (r := zI 0) (st := mkS w (hI S2) J) ?_ ?_
    · simp only [gI_mk, gJ_mk, zl]
      exact f1 _
    refine (if_pos ?_).trans ?_
    · decide
    simp (disch := omega) only [hk, hu, hI_n, hI_un, z_nat, em_d, zl, z_add, z_sub, z_mul, z_lt, z_eq, gI_mk, gJ_mk, cI_some, cV_some, cJ_some, cI_x, cV_x, cJ_x, uS_self, uS_ne, if_pos, if_neg, b01, b01n, ite_not, if_true, if_false, Bool.false_eq_true, hLL, rI_d]
  | inr y =>
    obtain ⟨f4, f5⟩ := f2
    obtain ⟨⟨w1, w2, w3⟩, -⟩ := hw
    have hq2 := f4.2.2.2.1
    obtain ⟨S3, y1, y2, y3, y4, y5⟩ := c_put (X := X) w J f5 (by rw [List.length_append]; omega) (2, 0)
    refine ⟨S3, fun g hg => (by cases hg), fun y' hy => ?_, FW_tr (FW_t g4) (FW_tr f3 y5)⟩
    injection hy with hy
    subst hy
    refine ⟨fun d n => ?_, Tp_o f4 y3 y4, y2⟩
    rw [e_X3_readSum_9]
    refine (if_pos ?_).trans ?_
    · simp (disch := omega) only [hk, hu, hI_n, hI_un, z_nat, em_d, zl, z_add, z_sub, z_mul, z_lt, z_eq, gI_mk, gJ_mk, cI_some, cV_some, cJ_some, cI_x, cV_x, cJ_x, uS_self, uS_ne, if_pos, if_neg, b01, b01n, ite_not, if_true, if_false, Bool.false_eq_true, hLL]
      omega
    refine cI_go (r := zI 1) (st := mkS w (hI S1) J) ?_ ?_
    · simp only [gI_mk, gJ_mk, zl]
      rw [show d + (4 * r + 7) = (d + (4 * r + 5)) + 2 by omega]
      exact g1 _
    refine (if_neg ?_).trans ?_
    · decide
    refine (if_neg ?_).trans ?_
    · decide
    refine cI_go (r := zI 1) (st := mkS w (hI S2) J) ?_ ?_
    · simp only [gI_mk, gJ_mk, zl]
      exact f1 _
    refine (if_neg ?_).trans ?_
    · decide
    refine cI_go (r := zI 1) (st := mkS w (hI S3) J) ?_ ?_
    · simp only [gI_mk, gJ_mk, zl]
      rw [show d + (4 * r + 7) = (d + (4 * r + 6)) + 1 by omega]
      exact y1 _
    rw [show ((i + 1 : Nat) : Int) = (i : Int) + 1 by omega]
    simp (disch := omega) only [hk, hu, hI_n, hI_un, z_nat, em_d, zl, z_add, z_sub, z_mul, z_lt, z_eq, gI_mk, gJ_mk, cI_some, cV_some, cJ_some, cI_x, cV_x, cJ_x, uS_self, uS_ne, if_pos, if_neg, b01, b01n, ite_not, if_true, if_false, Bool.false_eq_true, hLL]
theorem m_sum_0 (he : e ≤ 150) {q p : Nat} {S : Hp} {cd : List (Int × Int)} (hM : Mp S B e p) (hs : sk B e p = q) (h7 : S 132 7 = 6 - (r : Int)) (hK : MKl S cd) (hq : q < e ∧ B q = 43) (hl : cd.length ≤ q) {o1 : LOut} (hw : WfU (sk B e (q + 1)) B e o1) (hun : LmC X B e 183 (4 * r + 7) r (sk B e (q + 1)) o1) : ∃ S', (∀ g, o1 = .inl g → (∀ d n, aR X (d + (4 * r + 7)) m_X10_readSum (n + 3) 2 [some (.ref 132), none] (0, 0) (mkS w (hI S) J) = some (.inl none, (mkS w (hI S') J))) ∧ Bd S' g.1 g.2) ∧ (∀ y, o1 = .inr y → (∀ d n, aR X (d + (4 * r + 7)) m_X10_readSum (n + 2) 2 [some (.ref 132), none] (0, 0) (mkS w (hI S) J) = aR X (d + (4 * r + 7)) m_X10_readSum n 2 [some (.ref 132), none] (0, 0) (mkS w (hI S') J)) ∧ (∃ p', Mp S' B e p' ∧ sk B e p' = y.2) ∧ MKl S' (cd ++ y.1 ++ [(2, 0)]) ∧ S' 132 7 = 6 - (r : Int)) ∧ FZ S S' := by
  obtain ⟨S1, g1, g2, g3⟩ := M_here (X := X) w J hM
  rw [hs] at g1 g2
  have hqs : sk B e q = q := by rw [← hs]; exact sk_sk
  have eb : bt0 B e q = 43 := (bt0_c (by decide)).mpr hq
  have hN := fun d => M_hereN (X := X) (d := d) (w := w) (J := J) g2 hqs
  have hsk := sk_ge (B := B) (e := e) (p := q + 1)
  have a4 := g2.2.2.2.2.1
  obtain ⟨S2, f1, f2, f3⟩ := hun w J (uS S1 132 4 (q + 1 : Nat)) (q + 1) cd (Mp_4 g2 (by omega)) rfl (by rw [uS_ne _ _ (Or.inr (by decide)), g3.2 7 (by decide)]; exact h7) (CKp_o (MKl_m hK g3) (uS_ne _ _ (Or.inr (by decide))) (uS_row _ _ _ (by decide)) (uS_row _ _ _ (by decide))) (by omega)
  have hF2 : FZ S S2 := FZ_tr (FZ_m g3) (FZ_tr (FZ_7 S1 _ (Or.inl rfl)) f3)
  cases o1 with
  | inl g =>
    refine ⟨S2, fun g' hg => ?_, fun y hy => (by cases hy), hF2⟩
    injection hg with hg
    subst hg
    refine ⟨fun d n => ?_, f2⟩
    rw [e_X10_readSum_2]
    refine cI_go (r := zI 1) (st := mkS w (hI S) J) ?_ ?_
    · rw [show d + (4 * r + 7) = (d + (4 * r + 6)) + 1 by omega]
      exact M_fine1 hM
    refine (if_neg ?_).trans ?_
    · decide
    refine cI_go (r := zI (bt0 B e q)) (st := mkS w (hI S1) J) ?_ ?_
    · simp only [gI_mk, gJ_mk]
      rw [show d + (4 * r + 7) = (d + (4 * r + 6)) + 1 by omega]
      exact g1 _
    refine (if_pos ?_).trans ?_
    · rw [eb]
      rfl
    simp only [gI_mk, gJ_mk]
    rw [e_X10_readSum_13]
    refine cI_go (r := zI (bt0 B e q)) (st := mkS w (hI S1) J) ?_ ?_
    · rw [show d + (4 * r + 7) = (d + (4 * r + 6)) + 1 by omega]
      exact hN _
    refine (if_pos ?_).trans ?_
    · rw [eb]
      rfl
    refine cV_go (st := mkS w (hI S2) J) ?_ ?_
    · simp (disch := omega) only [hk, hu, hI_n, hI_un, z_nat, em_d, zl, z_add, z_sub, z_mul, z_lt, z_eq, gI_mk, gJ_mk, cI_some, cV_some, cJ_some, cI_x, cV_x, cJ_x, uS_self, uS_ne, if_pos, if_neg, b01, b01n, ite_not, if_true, if_false, Bool.false_eq_true, a4]
      rw [show (q : Int) + 1 = ((q + 1 : Nat) : Int) by omega]
      exact f1 _
    refine cV_go (st := mkS w (hI S2) J) ?_ ?_
    · simp only [gI_mk, gJ_mk, zl]
      rw [show d + (4 * r + 7) = (d + (4 * r + 5)) + 2 by omega]
      exact m_emitB f2
    simp only [gI_mk, gJ_mk]
    rw [e_X10_readSum_2]
    refine cI_go (r := zI 0) (st := mkS w (hI S2) J) ?_ ?_
    · rw [show d + (4 * r + 7) = (d + (4 * r + 6)) + 1 by omega]
      exact M_fine0 f2
    refine (if_pos ?_).trans ?_
    · decide
    simp (disch := omega) only [hk, hu, hI_n, hI_un, z_nat, em_d, zl, z_add, z_sub, z_mul, z_lt, z_eq, gI_mk, gJ_mk, cI_some, cV_some, cJ_some, cI_x, cV_x, cJ_x, uS_self, uS_ne, if_pos, if_neg, b01, b01n, ite_not, if_true, if_false, Bool.false_eq_true, rV_d]
  | inr y =>
    obtain ⟨⟨p', f4, f5⟩, f6, f7⟩ := f2
    obtain ⟨⟨w1, w2, w3⟩, -⟩ := hw
    have hq2 := f4.2.2.2.1
    have hy2 : y.2 ≤ e := by rw [← f5]; exact sk_le hq2
    obtain ⟨S3, y1, y2, y3, y4, y5⟩ := m_emit (X := X) w J f4 f6 (by rw [List.length_append]; omega) (2, 0)
    refine ⟨S3, fun g hg => (by cases hg), fun y' hy => ?_, FZ_tr hF2 y5⟩
    injection hy with hy
    subst hy
    refine ⟨fun d n => ?_, ⟨p', y3, f5⟩, y2, y4.trans f7⟩
    rw [e_X10_readSum_2]
    refine cI_go (r := zI 1) (st := mkS w (hI S) J) ?_ ?_
    · rw [show d + (4 * r + 7) = (d + (4 * r + 6)) + 1 by omega]
      exact M_fine1 hM
    refine (if_neg ?_).trans ?_
    · decide
    refine cI_go (r := zI (bt0 B e q)) (st := mkS w (hI S1) J) ?_ ?_
    · simp only [gI_mk, gJ_mk]
      rw [show d + (4 * r + 7) = (d + (4 * r + 6)) + 1 by omega]
      exact g1 _
    refine (if_pos ?_).trans ?_
    · rw [eb]
      rfl
    simp only [gI_mk, gJ_mk]
    rw [e_X10_readSum_13]
    refine cI_go (r := zI (bt0 B e q)) (st := mkS w (hI S1) J) ?_ ?_
    · rw [show d + (4 * r + 7) = (d + (4 * r + 6)) + 1 by omega]
      exact hN _
    refine (if_pos ?_).trans ?_
    · rw [eb]
      rfl
    refine cV_go (st := mkS w (hI S2) J) ?_ ?_
    · simp (disch := omega) only [hk, hu, hI_n, hI_un, z_nat, em_d, zl, z_add, z_sub, z_mul, z_lt, z_eq, gI_mk, gJ_mk, cI_some, cV_some, cJ_some, cI_x, cV_x, cJ_x, uS_self, uS_ne, if_pos, if_neg, b01, b01n, ite_not, if_true, if_false, Bool.false_eq_true, a4]
      rw [show (q : Int) + 1 = ((q + 1 : Nat) : Int) by omega]
      exact f1 _
    refine cV_go (st := mkS w (hI S3) J) ?_ ?_
    · simp only [gI_mk, gJ_mk, zl]
      rw [show d + (4 * r + 7) = (d + (4 * r + 5)) + 2 by omega]
      exact y1 _
    simp only [gI_mk, gJ_mk]
theorem c_sum_1 (he : e ≤ 150) {q : Nat} {S : Hp} {cd : List (Int × Int)} {i : Nat} (hT : Tp S B e q) (hK : CKl S (iW bw) cd) (n0 : ¬ B q = 43) (hq : q < e ∧ B q = 45) (hl : cd.length ≤ q) (hi : i ≤ q) {o1 : LOut} (hw : WfU (sk B e (q + 1)) B e o1) (hun : LcC X B e bw 32 (4 * r + 7) r (sk B e (q + 1)) o1) : ∃ S', (∀ g, o1 = .inl g → (∀ d n, aR X (d + (4 * r + 7)) m_X3_readSum (n + 1) 9 [some (.ref ((iW bw))), some (.ref 1), some (.int (zI ((6 - (r : Int))))), some (.int (zI ((i : Int)))), none] (0, 0) (mkS w (hI S) J) = some (.inl (some (.int (zI 0))), (mkS w (hI S') J))) ∧ S' 1 6 = g.1 ∧ S' 1 7 = g.2) ∧ (∀ y, o1 = .inr y → (∀ d n, aR X (d + (4 * r + 7)) m_X3_readSum (n + 1) 9 [some (.ref ((iW bw))), some (.ref 1), some (.int (zI ((6 - (r : Int))))), some (.int (zI ((i : Int)))), none] (0, 0) (mkS w (hI S) J) = aR X (d + (4 * r + 7)) m_X3_readSum n 9 [some (.ref ((iW bw))), some (.ref 1), some (.int (zI ((6 - (r : Int))))), some (.int (zI (((i + 1 : Nat) : Int)))), none] (0, 0) (mkS w (hI S') J)) ∧ Tp S' B e y.2 ∧ CKl S' (iW bw) (cd ++ y.1 ++ [(3, 0)])) ∧ FW (iW bw) S S' := by
  have hb := iW_c bw
  obtain ⟨S1, g1, g2, g3, g4⟩ := T_takes1 (X := X) w J hT (c := 45) (by decide) hq
  have hsk := sk_ge (B := B) (e := e) (p := q + 1)
  obtain ⟨S2, f1, f2, f3⟩ := hun w J S1 cd g2 (CKl_ft (by omega) hK g4) (by omega)
  cases o1 with
  | inl g =>
    refine ⟨S2, fun g' hg => ?_, fun y hy => (by cases hy), FW_tr (FW_t g4) f3⟩
    injection hg with hg
    subst hg
    refine ⟨fun d n => ?_, f2⟩
    rw [e_X3_readSum_9]
    refine (if_pos ?_).trans ?_
    · simp (disch := omega) only [hk, hu, hI_n, hI_un, z_nat, em_d, zl, z_add, z_sub, z_mul, z_lt, z_eq, gI_mk, gJ_mk, cI_some, cV_some, cJ_some, cI_x, cV_x, cJ_x, uS_self, uS_ne, if_pos, if_neg, b01, b01n, ite_not, if_true, if_false, Bool.false_eq_true, hLL]
      omega
    refine cI_go (r := zI 0) (st := mkS w (hI S) J) ?_ ?_
    · simp only [gI_mk, gJ_mk, zl]
      rw [show d + (4 * r + 7) = (d + (4 * r + 5)) + 2 by omega]
      exact T_takes0 hT (by decide) (fun z => n0 z.2)
    refine (if_pos ?_).trans ?_
    · decide
    refine cI_go (r := zI 1) (st := mkS w (hI S1) J) ?_ ?_
    · simp only [gI_mk, gJ_mk, zl]
      rw [show d + (4 * r + 7) = (d + (4 * r + 5)) + 2 by omega]
      exact g1 _
    refine (if_neg ?_).trans ?_
    · decide
    refine (if_neg ?_).trans ?_
    · decide
    refine cI_go (r := zI 0) (st := mkS w (hI S2) J) ?_ ?_
    · simp only [gI_mk, gJ_mk, zl]
      exact f1 _
    refine (if_pos ?_).trans ?_
    · decide
    simp (disch := omega) only [hk, hu, hI_n, hI_un, z_nat, em_d, zl, z_add, z_sub, z_mul, z_lt, z_eq, gI_mk, gJ_mk, cI_some, cV_some, cJ_some, cI_x, cV_x, cJ_x, uS_self, uS_ne, if_pos, if_neg, b01, b01n, ite_not, if_true, if_false, Bool.false_eq_true, hLL, rI_d]
  | inr y =>
    obtain ⟨f4, f5⟩ := f2
    obtain ⟨⟨w1, w2, w3⟩, -⟩ := hw
    have hq2 := f4.2.2.2.1
    obtain ⟨S3, y1, y2, y3, y4, y5⟩ := c_put (X := X) w J f5 (by rw [List.length_append]; omega) (3, 0)
    refine ⟨S3, fun g hg => (by cases hg), fun y' hy => ?_, FW_tr (FW_t g4) (FW_tr f3 y5)⟩
    injection hy with hy
    subst hy
    refine ⟨fun d n => ?_, Tp_o f4 y3 y4, y2⟩
    rw [e_X3_readSum_9]
    refine (if_pos ?_).trans ?_
    · simp (disch := omega) only [hk, hu, hI_n, hI_un, z_nat, em_d, zl, z_add, z_sub, z_mul, z_lt, z_eq, gI_mk, gJ_mk, cI_some, cV_some, cJ_some, cI_x, cV_x, cJ_x, uS_self, uS_ne, if_pos, if_neg, b01, b01n, ite_not, if_true, if_false, Bool.false_eq_true, hLL]
      omega
    refine cI_go (r := zI 0) (st := mkS w (hI S) J) ?_ ?_
    · simp only [gI_mk, gJ_mk, zl]
      rw [show d + (4 * r + 7) = (d + (4 * r + 5)) + 2 by omega]
      exact T_takes0 hT (by decide) (fun z => n0 z.2)
    refine (if_pos ?_).trans ?_
    · decide
    refine cI_go (r := zI 1) (st := mkS w (hI S1) J) ?_ ?_
    · simp only [gI_mk, gJ_mk, zl]
      rw [show d + (4 * r + 7) = (d + (4 * r + 5)) + 2 by omega]
      exact g1 _
    refine (if_neg ?_).trans ?_
    · decide
    refine (if_neg ?_).trans ?_
    · decide
    refine cI_go (r := zI 1) (st := mkS w (hI S2) J) ?_ ?_
    · simp only [gI_mk, gJ_mk, zl]
      exact f1 _
    refine (if_neg ?_).trans ?_
    · decide
    refine cI_go (r := zI 1) (st := mkS w (hI S3) J) ?_ ?_
    · simp only [gI_mk, gJ_mk, zl]
      rw [show d + (4 * r + 7) = (d + (4 * r + 6)) + 1 by omega]
      exact y1 _
    rw [show ((i + 1 : Nat) : Int) = (i : Int) + 1 by omega]
    simp (disch := omega) only [hk, hu, hI_n, hI_un, z_nat, em_d, zl, z_add, z_sub, z_mul, z_lt, z_eq, gI_mk, gJ_mk, cI_some, cV_some, cJ_some, cI_x, cV_x, cJ_x, uS_self, uS_ne, if_pos, if_neg, b01, b01n, ite_not, if_true, if_false, Bool.false_eq_true, hLL]
theorem m_sum_1 (he : e ≤ 150) {q p : Nat} {S : Hp} {cd : List (Int × Int)} (hM : Mp S B e p) (hs : sk B e p = q) (h7 : S 132 7 = 6 - (r : Int)) (hK : MKl S cd) (n0 : ¬ B q = 43) (hq : q < e ∧ B q = 45) (hl : cd.length ≤ q) {o1 : LOut} (hw : WfU (sk B e (q + 1)) B e o1) (hun : LmC X B e 183 (4 * r + 7) r (sk B e (q + 1)) o1) : ∃ S', (∀ g, o1 = .inl g → (∀ d n, aR X (d + (4 * r + 7)) m_X10_readSum (n + 3) 2 [some (.ref 132), none] (0, 0) (mkS w (hI S) J) = some (.inl none, (mkS w (hI S') J))) ∧ Bd S' g.1 g.2) ∧ (∀ y, o1 = .inr y → (∀ d n, aR X (d + (4 * r + 7)) m_X10_readSum (n + 2) 2 [some (.ref 132), none] (0, 0) (mkS w (hI S) J) = aR X (d + (4 * r + 7)) m_X10_readSum n 2 [some (.ref 132), none] (0, 0) (mkS w (hI S') J)) ∧ (∃ p', Mp S' B e p' ∧ sk B e p' = y.2) ∧ MKl S' (cd ++ y.1 ++ [(3, 0)]) ∧ S' 132 7 = 6 - (r : Int)) ∧ FZ S S' := by
  obtain ⟨S1, g1, g2, g3⟩ := M_here (X := X) w J hM
  rw [hs] at g1 g2
  have hqs : sk B e q = q := by rw [← hs]; exact sk_sk
  have eb : bt0 B e q = 45 := (bt0_c (by decide)).mpr hq
  have hN := fun d => M_hereN (X := X) (d := d) (w := w) (J := J) g2 hqs
  have hsk := sk_ge (B := B) (e := e) (p := q + 1)
  have a4 := g2.2.2.2.2.1
  obtain ⟨S2, f1, f2, f3⟩ := hun w J (uS S1 132 4 (q + 1 : Nat)) (q + 1) cd (Mp_4 g2 (by omega)) rfl (by rw [uS_ne _ _ (Or.inr (by decide)), g3.2 7 (by decide)]; exact h7) (CKp_o (MKl_m hK g3) (uS_ne _ _ (Or.inr (by decide))) (uS_row _ _ _ (by decide)) (uS_row _ _ _ (by decide))) (by omega)
  have hF2 : FZ S S2 := FZ_tr (FZ_m g3) (FZ_tr (FZ_7 S1 _ (Or.inl rfl)) f3)
  cases o1 with
  | inl g =>
    refine ⟨S2, fun g' hg => ?_, fun y hy => (by cases hy), hF2⟩
    injection hg with hg
    subst hg
    refine ⟨fun d n => ?_, f2⟩
    rw [e_X10_readSum_2]
    refine cI_go (r := zI 1) (st := mkS w (hI S) J) ?_ ?_
    · rw [show d + (4 * r + 7) = (d + (4 * r + 6)) + 1 by omega]
      exact M_fine1 hM
    refine (if_neg ?_).trans ?_
    · decide
    refine cI_go (r := zI (bt0 B e q)) (st := mkS w (hI S1) J) ?_ ?_
    · simp only [gI_mk, gJ_mk]
      rw [show d + (4 * r + 7) = (d + (4 * r + 6)) + 1 by omega]
      exact g1 _
    refine (if_neg ?_).trans ?_
    · rw [eb]
      decide
    refine cI_go (r := zI (bt0 B e q)) (st := mkS w (hI S1) J) ?_ ?_
    · simp only [gI_mk, gJ_mk]
      rw [show d + (4 * r + 7) = (d + (4 * r + 6)) + 1 by omega]
      exact hN _
    refine (if_pos ?_).trans ?_
    · rw [eb]
      rfl
    simp only [gI_mk, gJ_mk]
    rw [e_X10_readSum_13]
    refine cI_go (r := zI (bt0 B e q)) (st := mkS w (hI S1) J) ?_ ?_
    · rw [show d + (4 * r + 7) = (d + (4 * r + 6)) + 1 by omega]
      exact hN _
    refine (if_neg ?_).trans ?_
    · rw [eb]
      decide
    refine cV_go (st := mkS w (hI S2) J) ?_ ?_
    · simp (disch := omega) only [hk, hu, hI_n, hI_un, z_nat, em_d, zl, z_add, z_sub, z_mul, z_lt, z_eq, gI_mk, gJ_mk, cI_some, cV_some, cJ_some, cI_x, cV_x, cJ_x, uS_self, uS_ne, if_pos, if_neg, b01, b01n, ite_not, if_true, if_false, Bool.false_eq_true, a4]
      rw [show (q : Int) + 1 = ((q + 1 : Nat) : Int) by omega]
      exact f1 _
    refine cV_go (st := mkS w (hI S2) J) ?_ ?_
    · simp only [gI_mk, gJ_mk, zl]
      rw [show d + (4 * r + 7) = (d + (4 * r + 5)) + 2 by omega]
      exact m_emitB f2
    simp only [gI_mk, gJ_mk]
    rw [e_X10_readSum_2]
    refine cI_go (r := zI 0) (st := mkS w (hI S2) J) ?_ ?_
    · rw [show d + (4 * r + 7) = (d + (4 * r + 6)) + 1 by omega]
      exact M_fine0 f2
    refine (if_pos ?_).trans ?_
    · decide
    simp (disch := omega) only [hk, hu, hI_n, hI_un, z_nat, em_d, zl, z_add, z_sub, z_mul, z_lt, z_eq, gI_mk, gJ_mk, cI_some, cV_some, cJ_some, cI_x, cV_x, cJ_x, uS_self, uS_ne, if_pos, if_neg, b01, b01n, ite_not, if_true, if_false, Bool.false_eq_true, rV_d]
  | inr y =>
    obtain ⟨⟨p', f4, f5⟩, f6, f7⟩ := f2
    obtain ⟨⟨w1, w2, w3⟩, -⟩ := hw
    have hq2 := f4.2.2.2.1
    have hy2 : y.2 ≤ e := by rw [← f5]; exact sk_le hq2
    obtain ⟨S3, y1, y2, y3, y4, y5⟩ := m_emit (X := X) w J f4 f6 (by rw [List.length_append]; omega) (3, 0)
    refine ⟨S3, fun g hg => (by cases hg), fun y' hy => ?_, FZ_tr hF2 y5⟩
    injection hy with hy
    subst hy
    refine ⟨fun d n => ?_, ⟨p', y3, f5⟩, y2, y4.trans f7⟩
    rw [e_X10_readSum_2]
    refine cI_go (r := zI 1) (st := mkS w (hI S) J) ?_ ?_
    · rw [show d + (4 * r + 7) = (d + (4 * r + 6)) + 1 by omega]
      exact M_fine1 hM
    refine (if_neg ?_).trans ?_
    · decide
    refine cI_go (r := zI (bt0 B e q)) (st := mkS w (hI S1) J) ?_ ?_
    · simp only [gI_mk, gJ_mk]
      rw [show d + (4 * r + 7) = (d + (4 * r + 6)) + 1 by omega]
      exact g1 _
    refine (if_neg ?_).trans ?_
    · rw [eb]
      decide
    refine cI_go (r := zI (bt0 B e q)) (st := mkS w (hI S1) J) ?_ ?_
    · simp only [gI_mk, gJ_mk]
      rw [show d + (4 * r + 7) = (d + (4 * r + 6)) + 1 by omega]
      exact hN _
    refine (if_pos ?_).trans ?_
    · rw [eb]
      rfl
    simp only [gI_mk, gJ_mk]
    rw [e_X10_readSum_13]
    refine cI_go (r := zI (bt0 B e q)) (st := mkS w (hI S1) J) ?_ ?_
    · rw [show d + (4 * r + 7) = (d + (4 * r + 6)) + 1 by omega]
      exact hN _
    refine (if_neg ?_).trans ?_
    · rw [eb]
      decide
    refine cV_go (st := mkS w (hI S2) J) ?_ ?_
    · simp (disch := omega) only [hk, hu, hI_n, hI_un, z_nat, em_d, zl, z_add, z_sub, z_mul, z_lt, z_eq, gI_mk, gJ_mk, cI_some, cV_some, cJ_some, cI_x, cV_x, cJ_x, uS_self, uS_ne, if_pos, if_neg, b01, b01n, ite_not, if_true, if_false, Bool.false_eq_true, a4]
      rw [show (q : Int) + 1 = ((q + 1 : Nat) : Int) by omega]
      exact f1 _
    refine cV_go (st := mkS w (hI S3) J) ?_ ?_
    · simp only [gI_mk, gJ_mk, zl]
      rw [show d + (4 * r + 7) = (d + (4 * r + 5)) + 2 by omega]
      exact y1 _
    simp only [gI_mk, gJ_mk]
end LW1
