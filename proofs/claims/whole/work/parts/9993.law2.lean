/-! THE LAW'S TEXT: loops, and what nests -/
theorem StpC_op {a b : List (Int × Int)} {k v : Int} (ha : Psh a) (hk9 : 2 ≤ k ∧ k ≤ 8) (hb : StpC b) : StpC (a ++ ((k, v) :: b)) := fun rest t h => by
  rw [List.append_assoc]
  exact ha _ _ (Or.inr (Or.inr ⟨hk9.1, hk9.2, by omega, hb rest t h⟩))
/-- a round, then the rest of them -/
def outRnd (rk : Int) (o1 : LOut) (f : Nat → LOut) : LOut := match o1 with
  | .inl g => .inl g
  | .inr y => match f y.2 with
    | .inl g => .inl g
    | .inr z => .inr (y.1 ++ ((rk, 0) :: z.1), z.2)
def outCat (o1 : LOut) (f : Nat → LOut) : LOut := match o1 with
  | .inl g => .inl g
  | .inr y => match f y.2 with
    | .inl g => .inl g
    | .inr z => .inr (y.1 ++ z.1, z.2)
section LW2
variable {X : Nat × (Nat → Int32)} {w : Bool × Bool × Bool} {J : Nat → Nat → Int64} {B : Nat → Int} {e : Nat} {bw : Bool} {r : Nat}
theorem LcFin_cat {S' : Hp} {l : Nat} {cd c : List (Int × Int)} {o2 : LOut} {y : List (Int × Int) × Nat} (h : LcFin S' l B e (cd ++ y.1) o2) : LcFin S' l B e cd (outCat (.inr y) (fun _ => o2)) := by
  cases o2 with
  | inl g => exact h
  | inr z =>
    obtain ⟨h1, h2⟩ := h
    refine ⟨h1, ?_⟩
    show CKl S' l (cd ++ (y.1 ++ z.1))
    rw [← List.append_assoc]
    exact h2
theorem LmFin_cat {S' : Hp} {o : Int} {cd : List (Int × Int)} {o2 : LOut} {y : List (Int × Int) × Nat} (h : LmFin S' B e (cd ++ y.1) o o2) : LmFin S' B e cd o (outCat (.inr y) (fun _ => o2)) := by
  cases o2 with
  | inl g => exact h
  | inr z =>
    obtain ⟨h1, h2, h3⟩ := h
    refine ⟨h1, ?_, h3⟩
    show MKl S' (cd ++ (y.1 ++ z.1))
    rw [← List.append_assoc]
    exact h2
theorem LcFin_rnd {S' : Hp} {l : Nat} {rk : Int} {cd : List (Int × Int)} {o2 : LOut} {y : List (Int × Int) × Nat} (h : LcFin S' l B e (cd ++ y.1 ++ [(rk, 0)]) o2) : LcFin S' l B e cd (outRnd rk (.inr y) (fun _ => o2)) := by
  cases o2 with
  | inl g => exact h
  | inr z =>
    obtain ⟨h1, h2⟩ := h
    refine ⟨h1, ?_⟩
    show CKl S' l (cd ++ (y.1 ++ ((rk, 0) :: z.1)))
    rw [List.append_assoc, List.append_assoc] at h2
    exact h2
theorem LmFin_rnd {S' : Hp} {o rk : Int} {cd : List (Int × Int)} {o2 : LOut} {y : List (Int × Int) × Nat} (h : LmFin S' B e (cd ++ y.1 ++ [(rk, 0)]) o o2) : LmFin S' B e cd o (outRnd rk (.inr y) (fun _ => o2)) := by
  cases o2 with
  | inl g => exact h
  | inr z =>
    obtain ⟨h1, h2, h3⟩ := h
    refine ⟨h1, ?_, h3⟩
    show MKl S' (cd ++ (y.1 ++ ((rk, 0) :: z.1)))
    rw [List.append_assoc, List.append_assoc] at h2
    exact h2
theorem sg_rnd {rk : Int} {o2 : LOut} {y : List (Int × Int) × Nat} : sg (outRnd rk (.inr y) (fun _ => o2)) = sg o2 := by
  cases o2 <;> rfl
theorem sg_cat {o2 : LOut} {y : List (Int × Int) × Nat} : sg (outCat (.inr y) (fun _ => o2)) = sg o2 := by
  cases o2 <;> rfl
theorem Wf_rnd {q q1 : Nat} {rk : Int} {o2 : LOut} {y : List (Int × Int) × Nat} (hrk : 2 ≤ rk ∧ rk ≤ 8) (hq : q < q1) (h1 : WfU q1 B e (.inr y)) (h2 : WfL y.2 B e o2) : WfL q B e (outRnd rk (.inr y) (fun _ => o2)) := by
  cases o2 with
  | inl g => trivial
  | inr z =>
    obtain ⟨⟨a1, a2, a3, a4⟩, -, a5⟩ := h1
    obtain ⟨⟨b1, b2, b3, b4⟩, b5⟩ := h2
    refine ⟨⟨?_, ?_, b3, b4⟩, StpC_op a5 hrk b5⟩
    · show q ≤ z.2
      omega
    · show (y.1 ++ ((rk, 0) :: z.1)).length + q ≤ z.2
      rw [List.length_append, List.length_cons]
      omega
theorem Wf_cat {q : Nat} {o2 : LOut} {y : List (Int × Int) × Nat} (h1 : WfU q B e (.inr y)) (h2 : WfL y.2 B e o2) : WfU q B e (outCat (.inr y) (fun _ => o2)) := by
  cases o2 with
  | inl g => trivial
  | inr z =>
    obtain ⟨⟨a1, a2, a3, a4⟩, a6, a5⟩ := h1
    obtain ⟨⟨b1, b2, b3, b4⟩, b5⟩ := h2
    refine ⟨⟨?_, ?_, b3, b4⟩, fun z => a6 (List.append_eq_nil_iff.mp z).1, Psh_st a5 b5⟩
    · show q < z.2
      omega
    · show (y.1 ++ z.1).length + q ≤ z.2
      rw [List.length_append]
      omega
def Lp_prod (X : Nat × (Nat → Int32)) (B : Nat → Int) (e : Nat) (bw : Bool) (r q : Nat) (out : LOut) : Prop := (∀ (w : Bool × Bool × Bool) (J : Nat → Nat → Int64) (S : Hp) (cd : List (Int × Int)) (i : Nat), Tp S B e q → CKl S (iW bw) cd → cd.length ≤ q → i ≤ q → ∃ S', (∀ d n, (e - q) + 1 ≤ n → aR X (d + (4 * r + 6)) m_X3_readProduct n 9 [some (.ref ((iW bw))), some (.ref 1), some (.int (zI ((6 - (r : Int))))), some (.int (zI ((i : Int)))), none] (0, 0) (mkS w (hI S) J) = some (.inl (some (.int (zI (sg out)))), (mkS w (hI S') J))) ∧ LcFin S' (iW bw) B e cd (out) ∧ FW (iW bw) S S') ∧ (∀ (w : Bool × Bool × Bool) (J : Nat → Nat → Int64) (S : Hp) (p : Nat) (cd : List (Int × Int)), Mp S B e p → sk B e p = q → S 132 7 = 6 - (r : Int) → MKl S cd → cd.length ≤ q → ∃ S', (∀ d n, 2 * (e - q) + 3 ≤ n → aR X (d + (4 * r + 6)) m_X10_readProduct n 2 [some (.ref 132), none] (0, 0) (mkS w (hI S) J) = some (.inl none, (mkS w (hI S') J))) ∧ LmFin S' B e cd (6 - (r : Int)) (out) ∧ FZ S S')
theorem prod_step0 (he : e ≤ 150) {q : Nat} (hqs : sk B e q = q)  (hq : q < e ∧ B q = 42) {o1 : LOut} (hw : WfU (sk B e (q + 1)) B e o1) (hc : LcC X B e bw 33 (4 * r + 6) r (sk B e (q + 1)) o1) (hm : LmC X B e 186 (4 * r + 6) r (sk B e (q + 1)) o1) (rest : ∀ y, o1 = .inr y → ∃ o2, WfL y.2 B e o2 ∧ Lp_prod X B e bw r y.2 o2) : ∃ out, WfL q B e out ∧ Lp_prod X B e bw r q out := by
  have hsk := sk_ge (B := B) (e := e) (p := q + 1)
  cases o1 with
  | inl g =>
    refine ⟨.inl g, trivial, fun w J S cd i hT hK hl hi => ?_, fun w J S p cd hM hs h7 hK hl => ?_⟩
    · obtain ⟨S', a1, -, a3⟩ := c_prod_0 (X := X) (w := w) (J := J) he hT hK  hq hl hi hw hc
      obtain ⟨b1, b2⟩ := a1 g rfl
      refine ⟨S', fun d n hn => ?_, b2, a3⟩
      obtain ⟨n, rfl⟩ : ∃ m, n = m + 1 := ⟨n - 1, by omega⟩
      exact b1 d n
    · obtain ⟨S', a1, -, a3⟩ := m_prod_0 (X := X) (w := w) (J := J) he hM hs h7 hK  hq hl hw hm
      obtain ⟨b1, b2⟩ := a1 g rfl
      refine ⟨S', fun d n hn => ?_, b2, a3⟩
      obtain ⟨n, rfl⟩ : ∃ m, n = m + 3 := ⟨n - 3, by omega⟩
      exact b1 d n
  | inr y =>
    obtain ⟨⟨w1, w2, w3, w4⟩, -⟩ := id hw
    obtain ⟨o2, h1, h2, h3⟩ := rest y rfl
    refine ⟨outRnd 4 (.inr y) (fun _ => o2), Wf_rnd (by decide) (by omega) hw h1, fun w J S cd i hT hK hl hi => ?_, fun w J S p cd hM hs h7 hK hl => ?_⟩
    · obtain ⟨S1, -, a1, a3⟩ := c_prod_0 (X := X) (w := w) (J := J) he hT hK  hq hl hi hw hc
      obtain ⟨b1, b2, b3⟩ := a1 y rfl
      obtain ⟨S2, c1, c2, c3⟩ := h2 w J S1 _ (i + 1) b2 b3 (by rw [List.length_append, List.length_append]; show cd.length + y.1.length + 1 ≤ y.2; omega) (by omega)
      rw [sg_rnd]
      refine ⟨S2, fun d n hn => ?_, LcFin_rnd c2, FW_tr a3 c3⟩
      obtain ⟨n, rfl⟩ : ∃ m, n = m + 1 := ⟨n - 1, by omega⟩
      exact (b1 d n).trans (c1 d n (by omega))
    · obtain ⟨S1, -, a1, a3⟩ := m_prod_0 (X := X) (w := w) (J := J) he hM hs h7 hK  hq hl hw hm
      obtain ⟨b1, ⟨p', b2, b3⟩, b4, b5⟩ := a1 y rfl
      obtain ⟨S2, c1, c2, c3⟩ := h3 w J S1 p' _ b2 b3 b5 b4 (by rw [List.length_append, List.length_append]; show cd.length + y.1.length + 1 ≤ y.2; omega)
      refine ⟨S2, fun d n hn => ?_, LmFin_rnd c2, FZ_tr a3 c3⟩
      obtain ⟨n, rfl⟩ : ∃ m, n = m + 2 := ⟨n - 2, by omega⟩
      exact (b1 d n).trans (c1 d n (by omega))
theorem prod_step1 (he : e ≤ 150) {q : Nat} (hqs : sk B e q = q) (n0 : ¬ B q = 42) (hq : q < e ∧ B q = 47) {o1 : LOut} (hw : WfU (sk B e (q + 1)) B e o1) (hc : LcC X B e bw 33 (4 * r + 6) r (sk B e (q + 1)) o1) (hm : LmC X B e 186 (4 * r + 6) r (sk B e (q + 1)) o1) (rest : ∀ y, o1 = .inr y → ∃ o2, WfL y.2 B e o2 ∧ Lp_prod X B e bw r y.2 o2) : ∃ out, WfL q B e out ∧ Lp_prod X B e bw r q out := by
  have hsk := sk_ge (B := B) (e := e) (p := q + 1)
  cases o1 with
  | inl g =>
    refine ⟨.inl g, trivial, fun w J S cd i hT hK hl hi => ?_, fun w J S p cd hM hs h7 hK hl => ?_⟩
    · obtain ⟨S', a1, -, a3⟩ := c_prod_1 (X := X) (w := w) (J := J) he hT hK n0 hq hl hi hw hc
      obtain ⟨b1, b2⟩ := a1 g rfl
      refine ⟨S', fun d n hn => ?_, b2, a3⟩
      obtain ⟨n, rfl⟩ : ∃ m, n = m + 1 := ⟨n - 1, by omega⟩
      exact b1 d n
    · obtain ⟨S', a1, -, a3⟩ := m_prod_1 (X := X) (w := w) (J := J) he hM hs h7 hK n0 hq hl hw hm
      obtain ⟨b1, b2⟩ := a1 g rfl
      refine ⟨S', fun d n hn => ?_, b2, a3⟩
      obtain ⟨n, rfl⟩ : ∃ m, n = m + 3 := ⟨n - 3, by omega⟩
      exact b1 d n
  | inr y =>
    obtain ⟨⟨w1, w2, w3, w4⟩, -⟩ := id hw
    obtain ⟨o2, h1, h2, h3⟩ := rest y rfl
    refine ⟨outRnd 5 (.inr y) (fun _ => o2), Wf_rnd (by decide) (by omega) hw h1, fun w J S cd i hT hK hl hi => ?_, fun w J S p cd hM hs h7 hK hl => ?_⟩
    · obtain ⟨S1, -, a1, a3⟩ := c_prod_1 (X := X) (w := w) (J := J) he hT hK n0 hq hl hi hw hc
      obtain ⟨b1, b2, b3⟩ := a1 y rfl
      obtain ⟨S2, c1, c2, c3⟩ := h2 w J S1 _ (i + 1) b2 b3 (by rw [List.length_append, List.length_append]; show cd.length + y.1.length + 1 ≤ y.2; omega) (by omega)
      rw [sg_rnd]
      refine ⟨S2, fun d n hn => ?_, LcFin_rnd c2, FW_tr a3 c3⟩
      obtain ⟨n, rfl⟩ : ∃ m, n = m + 1 := ⟨n - 1, by omega⟩
      exact (b1 d n).trans (c1 d n (by omega))
    · obtain ⟨S1, -, a1, a3⟩ := m_prod_1 (X := X) (w := w) (J := J) he hM hs h7 hK n0 hq hl hw hm
      obtain ⟨b1, ⟨p', b2, b3⟩, b4, b5⟩ := a1 y rfl
      obtain ⟨S2, c1, c2, c3⟩ := h3 w J S1 p' _ b2 b3 b5 b4 (by rw [List.length_append, List.length_append]; show cd.length + y.1.length + 1 ≤ y.2; omega)
      refine ⟨S2, fun d n hn => ?_, LmFin_rnd c2, FZ_tr a3 c3⟩
      obtain ⟨n, rfl⟩ : ∃ m, n = m + 2 := ⟨n - 2, by omega⟩
      exact (b1 d n).trans (c1 d n (by omega))
theorem prod_step2 (he : e ≤ 150) {q : Nat} (hqs : sk B e q = q) (n0 : ¬ B q = 42) (n1 : ¬ B q = 47) (hq : q < e ∧ B q = 37) {o1 : LOut} (hw : WfU (sk B e (q + 1)) B e o1) (hc : LcC X B e bw 33 (4 * r + 6) r (sk B e (q + 1)) o1) (hm : LmC X B e 186 (4 * r + 6) r (sk B e (q + 1)) o1) (rest : ∀ y, o1 = .inr y → ∃ o2, WfL y.2 B e o2 ∧ Lp_prod X B e bw r y.2 o2) : ∃ out, WfL q B e out ∧ Lp_prod X B e bw r q out := by
  have hsk := sk_ge (B := B) (e := e) (p := q + 1)
  cases o1 with
  | inl g =>
    refine ⟨.inl g, trivial, fun w J S cd i hT hK hl hi => ?_, fun w J S p cd hM hs h7 hK hl => ?_⟩
    · obtain ⟨S', a1, -, a3⟩ := c_prod_2 (X := X) (w := w) (J := J) he hT hK n0 n1 hq hl hi hw hc
      obtain ⟨b1, b2⟩ := a1 g rfl
      refine ⟨S', fun d n hn => ?_, b2, a3⟩
      obtain ⟨n, rfl⟩ : ∃ m, n = m + 1 := ⟨n - 1, by omega⟩
      exact b1 d n
    · obtain ⟨S', a1, -, a3⟩ := m_prod_2 (X := X) (w := w) (J := J) he hM hs h7 hK n0 n1 hq hl hw hm
      obtain ⟨b1, b2⟩ := a1 g rfl
      refine ⟨S', fun d n hn => ?_, b2, a3⟩
      obtain ⟨n, rfl⟩ : ∃ m, n = m + 3 := ⟨n - 3, by omega⟩
      exact b1 d n
  | inr y =>
    obtain ⟨⟨w1, w2, w3, w4⟩, -⟩ := id hw
    obtain ⟨o2, h1, h2, h3⟩ := rest y rfl
    refine ⟨outRnd 8 (.inr y) (fun _ => o2), Wf_rnd (by decide) (by omega) hw h1, fun w J S cd i hT hK hl hi => ?_, fun w J S p cd hM hs h7 hK hl => ?_⟩
    · obtain ⟨S1, -, a1, a3⟩ := c_prod_2 (X := X) (w := w) (J := J) he hT hK n0 n1 hq hl hi hw hc
      obtain ⟨b1, b2, b3⟩ := a1 y rfl
      obtain ⟨S2, c1, c2, c3⟩ := h2 w J S1 _ (i + 1) b2 b3 (by rw [List.length_append, List.length_append]; show cd.length + y.1.length + 1 ≤ y.2; omega) (by omega)
      rw [sg_rnd]
      refine ⟨S2, fun d n hn => ?_, LcFin_rnd c2, FW_tr a3 c3⟩
      obtain ⟨n, rfl⟩ : ∃ m, n = m + 1 := ⟨n - 1, by omega⟩
      exact (b1 d n).trans (c1 d n (by omega))
    · obtain ⟨S1, -, a1, a3⟩ := m_prod_2 (X := X) (w := w) (J := J) he hM hs h7 hK n0 n1 hq hl hw hm
      obtain ⟨b1, ⟨p', b2, b3⟩, b4, b5⟩ := a1 y rfl
      obtain ⟨S2, c1, c2, c3⟩ := h3 w J S1 p' _ b2 b3 b5 b4 (by rw [List.length_append, List.length_append]; show cd.length + y.1.length + 1 ≤ y.2; omega)
      refine ⟨S2, fun d n hn => ?_, LmFin_rnd c2, FZ_tr a3 c3⟩
      obtain ⟨n, rfl⟩ : ∃ m, n = m + 2 := ⟨n - 2, by omega⟩
      exact (b1 d n).trans (c1 d n (by omega))
theorem prod_end (he : e ≤ 150) {q : Nat} (hqe : q ≤ e) (hqs : sk B e q = q) (n0 : ¬ (q < e ∧ B q = 42)) (n1 : ¬ (q < e ∧ B q = 47)) (n2 : ¬ (q < e ∧ B q = 37)) : WfL q B e (.inr ([], q)) ∧ Lp_prod X B e bw r q (.inr ([], q)) := by
  refine ⟨⟨⟨Nat.le_refl _, by rw [List.length_nil]; omega, hqs, hqe⟩, StpC_nil⟩, fun w J S cd i hT hK hl hi => ?_, fun w J S p cd hM hs h7 hK hl => ?_⟩
  · refine ⟨S, fun d n hn => ?_, ⟨hT, by rw [List.append_nil]; exact hK⟩, FW_rf _ _⟩
    obtain ⟨n, rfl⟩ : ∃ m, n = m + 1 := ⟨n - 1, by omega⟩
    rw [e_X3_readProduct_9]
    by_cases hi2 : i < 150
    · refine (if_pos ?_).trans ?_
      · simp (disch := omega) only [hk, hu, hI_n, hI_un, z_nat, em_d, zl, z_add, z_sub, z_mul, z_lt, z_eq, gI_mk, gJ_mk, cI_some, cV_some, cJ_some, cI_x, cV_x, cJ_x, uS_self, uS_ne, if_pos, if_neg, b01, b01n, ite_not, if_true, if_false, Bool.false_eq_true, hLL]
        omega
      refine cI_go (r := zI 0) (st := mkS w (hI S) J) ?_ ?_
      · simp only [gI_mk, gJ_mk, zl]
        rw [show d + (4 * r + 6) = (d + (4 * r + 4)) + 2 by omega]
        exact T_takes0 hT (by decide) n0
      refine (if_pos ?_).trans ?_
      · decide
      refine cI_go (r := zI 0) (st := mkS w (hI S) J) ?_ ?_
      · simp only [gI_mk, gJ_mk, zl]
        rw [show d + (4 * r + 6) = (d + (4 * r + 4)) + 2 by omega]
        exact T_takes0 hT (by decide) n1
      refine (if_pos ?_).trans ?_
      · decide
      refine cI_go (r := zI 0) (st := mkS w (hI S) J) ?_ ?_
      · simp only [gI_mk, gJ_mk, zl]
        rw [show d + (4 * r + 6) = (d + (4 * r + 4)) + 2 by omega]
        exact T_takes0 hT (by decide) n2
      refine (if_pos ?_).trans ?_
      · decide
      refine (if_pos rfl).trans ?_
      simp (disch := omega) only [hk, hu, hI_n, hI_un, z_nat, em_d, zl, z_add, z_sub, z_mul, z_lt, z_eq, gI_mk, gJ_mk, cI_some, cV_some, cJ_some, cI_x, cV_x, cJ_x, uS_self, uS_ne, if_pos, if_neg, b01, b01n, ite_not, if_true, if_false, Bool.false_eq_true, hLL, rI_d]
      rfl
    · refine (if_neg ?_).trans ?_
      · simp (disch := omega) only [hk, hu, hI_n, hI_un, z_nat, em_d, zl, z_add, z_sub, z_mul, z_lt, z_eq, gI_mk, gJ_mk, cI_some, cV_some, cJ_some, cI_x, cV_x, cJ_x, uS_self, uS_ne, if_pos, if_neg, b01, b01n, ite_not, if_true, if_false, Bool.false_eq_true, hLL]
        omega
      simp (disch := omega) only [hk, hu, hI_n, hI_un, z_nat, em_d, zl, z_add, z_sub, z_mul, z_lt, z_eq, gI_mk, gJ_mk, cI_some, cV_some, cJ_some, cI_x, cV_x, cJ_x, uS_self, uS_ne, if_pos, if_neg, b01, b01n, ite_not, if_true, if_false, Bool.false_eq_true, hLL, rI_d]
      rfl
  · obtain ⟨S1, g1, g2, g3⟩ := M_here (X := X) w J hM
    rw [hs] at g1 g2
    have hN := fun d => M_hereN (X := X) (d := d) (w := w) (J := J) g2 hqs
    have hr := bt0_r (q := q) g2.1 g2.2.2.1
    refine ⟨S1, fun d n hn => ?_, ⟨⟨q, g2, hqs⟩, by rw [List.append_nil]; exact MKl_m hK g3, (g3.2 7 (by decide)).trans h7⟩, FZ_m g3⟩
    obtain ⟨n, rfl⟩ : ∃ m, n = m + 1 := ⟨n - 1, by omega⟩
    rw [e_X10_readProduct_2]
    refine cI_go (r := zI 1) (st := mkS w (hI S) J) ?_ ?_
    · rw [show d + (4 * r + 6) = (d + (4 * r + 5)) + 1 by omega]
      exact M_fine1 hM
    refine (if_neg ?_).trans ?_
    · decide
    refine cI_go (r := zI (bt0 B e q)) (st := mkS w (hI S1) J) ?_ ?_
    · simp only [gI_mk, gJ_mk]
      rw [show d + (4 * r + 6) = (d + (4 * r + 5)) + 1 by omega]
      exact g1 _
    refine (if_neg ?_).trans ?_
    · simp only [zl]
      rw [z_eq (by omega) (by omega) (by decide) (by decide)]
      exact fun z => n0 ((bt0_c (by decide)).mp z)
    refine cI_go (r := zI (bt0 B e q)) (st := mkS w (hI S1) J) ?_ ?_
    · simp only [gI_mk, gJ_mk]
      rw [show d + (4 * r + 6) = (d + (4 * r + 5)) + 1 by omega]
      exact hN _
    refine (if_neg ?_).trans ?_
    · simp only [zl]
      rw [z_eq (by omega) (by omega) (by decide) (by decide)]
      exact fun z => n1 ((bt0_c (by decide)).mp z)
    refine cI_go (r := zI (bt0 B e q)) (st := mkS w (hI S1) J) ?_ ?_
    · simp only [gI_mk, gJ_mk]
      rw [show d + (4 * r + 6) = (d + (4 * r + 5)) + 1 by omega]
      exact hN _
    refine (if_neg ?_).trans ?_
    · simp only [zl]
      rw [z_eq (by omega) (by omega) (by decide) (by decide)]
      exact fun z => n2 ((bt0_c (by decide)).mp z)
    simp (disch := omega) only [hk, hu, hI_n, hI_un, z_nat, em_d, zl, z_add, z_sub, z_mul, z_lt, z_eq, gI_mk, gJ_mk, cI_some, cV_some, cJ_some, cI_x, cV_x, cJ_x, uS_self, uS_ne, if_pos, if_neg, b01, b01n, ite_not, if_true, if_false, Bool.false_eq_true, rV_d]
theorem prod_loop (he : e ≤ 150) (hU : PU X B e bw r) : ∀ (j q : Nat), e - q ≤ j → q ≤ e → sk B e q = q → ∃ out, WfL q B e out ∧ Lp_prod X B e bw r q out
  | 0, q, h1, h2, h3 => ⟨_, prod_end he h2 h3 (fun z => absurd z.1 (by omega)) (fun z => absurd z.1 (by omega)) (fun z => absurd z.1 (by omega))⟩
  | j + 1, q, h1, h2, h3 => by
    have hsk := sk_ge (B := B) (e := e) (p := q + 1)
    have rest : ∀ o1 : LOut, q < e → WfU (sk B e (q + 1)) B e o1 → ∀ y, o1 = .inr y → ∃ o2, WfL y.2 B e o2 ∧ Lp_prod X B e bw r y.2 o2 := fun o1 hqe hw y hy => by
      rw [hy] at hw
      obtain ⟨⟨w1, w2, w3, w4⟩, -⟩ := hw
      exact prod_loop he hU j y.2 (by omega) w4 w3
    by_cases n0 : q < e ∧ B q = 42
    · have hq := n0
      obtain ⟨o1, u1, u2, u3⟩ := hU (sk B e (q + 1)) (sk_le (by omega)) sk_sk
      exact prod_step0 he h3  hq u1 u2 u3 (rest o1 hq.1 u1)
    · by_cases n1 : q < e ∧ B q = 47
      · have hq := n1
        obtain ⟨o1, u1, u2, u3⟩ := hU (sk B e (q + 1)) (sk_le (by omega)) sk_sk
        exact prod_step1 he h3 (fun z => n0 ⟨hq.1, z⟩) hq u1 u2 u3 (rest o1 hq.1 u1)
      · by_cases n2 : q < e ∧ B q = 37
        · have hq := n2
          obtain ⟨o1, u1, u2, u3⟩ := hU (sk B e (q + 1)) (sk_le (by omega)) sk_sk
          exact prod_step2 he h3 (fun z => n0 ⟨hq.1, z⟩) (fun z => n1 ⟨hq.1, z⟩) hq u1 u2 u3 (rest o1 hq.1 u1)
        · exact ⟨_, prod_end he h2 h3 n0 n1 n2⟩
theorem prod_of (he : e ≤ 150) (hU : PU X B e bw r) : PP X B e bw r := fun q hqe hqs => by
  obtain ⟨o1, u1, u2, u3⟩ := hU q hqe hqs
  cases o1 with
  | inl g =>
    refine ⟨.inl g, trivial, fun w J S cd hT hK hl => ?_, fun w J S p cd hM hs h7 hK hl => ?_⟩
    · obtain ⟨S1, a1, a2, a3⟩ := u2 w J S cd hT hK hl
      refine ⟨S1, fun d => ?_, a2, a3⟩
      rw [show d + (4 * r + 7) = (d + (4 * r + 6)) + 1 by omega, go_X3_readProduct, e_X3_readProduct_0]
      refine cI_go (r := zI 0) (st := mkS w (hI S1) J) (a1 _) ?_
      simp (disch := omega) only [hk, hu, hI_n, hI_un, z_nat, em_d, zl, z_add, z_sub, z_mul, z_lt, z_eq, gI_mk, gJ_mk, cI_some, cV_some, cJ_some, cI_x, cV_x, cJ_x, uS_self, uS_ne, if_pos, if_neg, b01, b01n, ite_not, if_true, if_false, Bool.false_eq_true, hLL, rI_d]
      rfl
    · obtain ⟨S1, a1, a2, a3⟩ := u3 w J S p cd hM hs h7 hK hl
      refine ⟨S1, fun d => ?_, a2, a3⟩
      rw [show d + (4 * r + 7) = (d + (4 * r + 6)) + 1 by omega, go_X10_readProduct, e_X10_readProduct_0]
      refine cV_go (st := mkS w (hI S1) J) (a1 _) ?_
      simp only [gI_mk, gJ_mk]
      rw [show 9999999 = 9999998 + 1 from rfl, e_X10_readProduct_2]
      refine cI_go (r := zI 0) (st := mkS w (hI S1) J) ?_ ?_
      · rw [show d + (4 * r + 6) = (d + (4 * r + 5)) + 1 by omega]
        exact M_fine0 a2
      simp (disch := omega) only [hk, hu, hI_n, hI_un, z_nat, em_d, zl, z_add, z_sub, z_mul, z_lt, z_eq, gI_mk, gJ_mk, cI_some, cV_some, cJ_some, cI_x, cV_x, cJ_x, uS_self, uS_ne, if_pos, if_neg, b01, b01n, ite_not, if_true, if_false, Bool.false_eq_true, rV_d]
  | inr y =>
    obtain ⟨⟨w1, w2, w3, w4⟩, -⟩ := id u1
    obtain ⟨o2, h1, h2, h3⟩ := prod_loop he hU (e - y.2) y.2 (Nat.le_refl _) w4 w3
    refine ⟨outCat (.inr y) (fun _ => o2), Wf_cat u1 h1, fun w J S cd hT hK hl => ?_, fun w J S p cd hM hs h7 hK hl => ?_⟩
    · obtain ⟨S1, a1, ⟨a2, a4⟩, a3⟩ := u2 w J S cd hT hK hl
      obtain ⟨S2, c1, c2, c3⟩ := h2 w J S1 _ 0 a2 a4 (by rw [List.length_append]; omega) (Nat.zero_le _)
      rw [sg_cat]
      refine ⟨S2, fun d => ?_, LcFin_cat (c := []) c2, FW_tr a3 c3⟩
      rw [show d + (4 * r + 7) = (d + (4 * r + 6)) + 1 by omega, go_X3_readProduct, e_X3_readProduct_0]
      refine cI_go (r := zI 1) (st := mkS w (hI S1) J) (a1 _) ?_
      refine (if_neg ?_).trans ?_
      · decide
      simp only [gI_mk, gJ_mk, zl]
      exact c1 d 9999999 (by omega)
    · obtain ⟨S1, a1, ⟨⟨p', a2, a5⟩, a4, a6⟩, a3⟩ := u3 w J S p cd hM hs h7 hK hl
      obtain ⟨S2, c1, c2, c3⟩ := h3 w J S1 p' _ a2 a5 a6 a4 (by rw [List.length_append]; omega)
      refine ⟨S2, fun d => ?_, LmFin_cat c2, FZ_tr a3 c3⟩
      rw [show d + (4 * r + 7) = (d + (4 * r + 6)) + 1 by omega, go_X10_readProduct, e_X10_readProduct_0]
      refine cV_go (st := mkS w (hI S1) J) (a1 _) ?_
      simp only [gI_mk, gJ_mk]
      exact c1 d 9999999 (by omega)
def Lp_sum (X : Nat × (Nat → Int32)) (B : Nat → Int) (e : Nat) (bw : Bool) (r q : Nat) (out : LOut) : Prop := (∀ (w : Bool × Bool × Bool) (J : Nat → Nat → Int64) (S : Hp) (cd : List (Int × Int)) (i : Nat), Tp S B e q → CKl S (iW bw) cd → cd.length ≤ q → i ≤ q → ∃ S', (∀ d n, (e - q) + 1 ≤ n → aR X (d + (4 * r + 7)) m_X3_readSum n 9 [some (.ref ((iW bw))), some (.ref 1), some (.int (zI ((6 - (r : Int))))), some (.int (zI ((i : Int)))), none] (0, 0) (mkS w (hI S) J) = some (.inl (some (.int (zI (sg out)))), (mkS w (hI S') J))) ∧ LcFin S' (iW bw) B e cd (out) ∧ FW (iW bw) S S') ∧ (∀ (w : Bool × Bool × Bool) (J : Nat → Nat → Int64) (S : Hp) (p : Nat) (cd : List (Int × Int)), Mp S B e p → sk B e p = q → S 132 7 = 6 - (r : Int) → MKl S cd → cd.length ≤ q → ∃ S', (∀ d n, 2 * (e - q) + 3 ≤ n → aR X (d + (4 * r + 7)) m_X10_readSum n 2 [some (.ref 132), none] (0, 0) (mkS w (hI S) J) = some (.inl none, (mkS w (hI S') J))) ∧ LmFin S' B e cd (6 - (r : Int)) (out) ∧ FZ S S')
theorem sum_step0 (he : e ≤ 150) {q : Nat} (hqs : sk B e q = q)  (hq : q < e ∧ B q = 43) {o1 : LOut} (hw : WfU (sk B e (q + 1)) B e o1) (hc : LcC X B e bw 32 (4 * r + 7) r (sk B e (q + 1)) o1) (hm : LmC X B e 183 (4 * r + 7) r (sk B e (q + 1)) o1) (rest : ∀ y, o1 = .inr y → ∃ o2, WfL y.2 B e o2 ∧ Lp_sum X B e bw r y.2 o2) : ∃ out, WfL q B e out ∧ Lp_sum X B e bw r q out := by
  have hsk := sk_ge (B := B) (e := e) (p := q + 1)
  cases o1 with
  | inl g =>
    refine ⟨.inl g, trivial, fun w J S cd i hT hK hl hi => ?_, fun w J S p cd hM hs h7 hK hl => ?_⟩
    · obtain ⟨S', a1, -, a3⟩ := c_sum_0 (X := X) (w := w) (J := J) he hT hK  hq hl hi hw hc
      obtain ⟨b1, b2⟩ := a1 g rfl
      refine ⟨S', fun d n hn => ?_, b2, a3⟩
      obtain ⟨n, rfl⟩ : ∃ m, n = m + 1 := ⟨n - 1, by omega⟩
      exact b1 d n
    · obtain ⟨S', a1, -, a3⟩ := m_sum_0 (X := X) (w := w) (J := J) he hM hs h7 hK  hq hl hw hm
      obtain ⟨b1, b2⟩ := a1 g rfl
      refine ⟨S', fun d n hn => ?_, b2, a3⟩
      obtain ⟨n, rfl⟩ : ∃ m, n = m + 3 := ⟨n - 3, by omega⟩
      exact b1 d n
  | inr y =>
    obtain ⟨⟨w1, w2, w3, w4⟩, -⟩ := id hw
    obtain ⟨o2, h1, h2, h3⟩ := rest y rfl
    refine ⟨outRnd 2 (.inr y) (fun _ => o2), Wf_rnd (by decide) (by omega) hw h1, fun w J S cd i hT hK hl hi => ?_, fun w J S p cd hM hs h7 hK hl => ?_⟩
    · obtain ⟨S1, -, a1, a3⟩ := c_sum_0 (X := X) (w := w) (J := J) he hT hK  hq hl hi hw hc
      obtain ⟨b1, b2, b3⟩ := a1 y rfl
      obtain ⟨S2, c1, c2, c3⟩ := h2 w J S1 _ (i + 1) b2 b3 (by rw [List.length_append, List.length_append]; show cd.length + y.1.length + 1 ≤ y.2; omega) (by omega)
      rw [sg_rnd]
      refine ⟨S2, fun d n hn => ?_, LcFin_rnd c2, FW_tr a3 c3⟩
      obtain ⟨n, rfl⟩ : ∃ m, n = m + 1 := ⟨n - 1, by omega⟩
      exact (b1 d n).trans (c1 d n (by omega))
    · obtain ⟨S1, -, a1, a3⟩ := m_sum_0 (X := X) (w := w) (J := J) he hM hs h7 hK  hq hl hw hm
      obtain ⟨b1, ⟨p', b2, b3⟩, b4, b5⟩ := a1 y rfl
      obtain ⟨S2, c1, c2, c3⟩ := h3 w J S1 p' _ b2 b3 b5 b4 (by rw [List.length_append, List.length_append]; show cd.length + y.1.length + 1 ≤ y.2; omega)
      refine ⟨S2, fun d n hn => ?_, LmFin_rnd c2, FZ_tr a3 c3⟩
      obtain ⟨n, rfl⟩ : ∃ m, n = m + 2 := ⟨n - 2, by omega⟩
      exact (b1 d n).trans (c1 d n (by omega))
theorem sum_step1 (he : e ≤ 150) {q : Nat} (hqs : sk B e q = q) (n0 : ¬ B q = 43) (hq : q < e ∧ B q = 45) {o1 : LOut} (hw : WfU (sk B e (q + 1)) B e o1) (hc : LcC X B e bw 32 (4 * r + 7) r (sk B e (q + 1)) o1) (hm : LmC X B e 183 (4 * r + 7) r (sk B e (q + 1)) o1) (rest : ∀ y, o1 = .inr y → ∃ o2, WfL y.2 B e o2 ∧ Lp_sum X B e bw r y.2 o2) : ∃ out, WfL q B e out ∧ Lp_sum X B e bw r q out := by
  have hsk := sk_ge (B := B) (e := e) (p := q + 1)
  cases o1 with
  | inl g =>
    refine ⟨.inl g, trivial, fun w J S cd i hT hK hl hi => ?_, fun w J S p cd hM hs h7 hK hl => ?_⟩
    · obtain ⟨S', a1, -, a3⟩ := c_sum_1 (X := X) (w := w) (J := J) he hT hK n0 hq hl hi hw hc
      obtain ⟨b1, b2⟩ := a1 g rfl
      refine ⟨S', fun d n hn => ?_, b2, a3⟩
      obtain ⟨n, rfl⟩ : ∃ m, n = m + 1 := ⟨n - 1, by omega⟩
      exact b1 d n
    · obtain ⟨S', a1, -, a3⟩ := m_sum_1 (X := X) (w := w) (J := J) he hM hs h7 hK n0 hq hl hw hm
      obtain ⟨b1, b2⟩ := a1 g rfl
      refine ⟨S', fun d n hn => ?_, b2, a3⟩
      obtain ⟨n, rfl⟩ : ∃ m, n = m + 3 := ⟨n - 3, by omega⟩
      exact b1 d n
  | inr y =>
    obtain ⟨⟨w1, w2, w3, w4⟩, -⟩ := id hw
    obtain ⟨o2, h1, h2, h3⟩ := rest y rfl
    refine ⟨outRnd 3 (.inr y) (fun _ => o2), Wf_rnd (by decide) (by omega) hw h1, fun w J S cd i hT hK hl hi => ?_, fun w J S p cd hM hs h7 hK hl => ?_⟩
    · obtain ⟨S1, -, a1, a3⟩ := c_sum_1 (X := X) (w := w) (J := J) he hT hK n0 hq hl hi hw hc
      obtain ⟨b1, b2, b3⟩ := a1 y rfl
      obtain ⟨S2, c1, c2, c3⟩ := h2 w J S1 _ (i + 1) b2 b3 (by rw [List.length_append, List.length_append]; show cd.length + y.1.length + 1 ≤ y.2; omega) (by omega)
      rw [sg_rnd]
      refine ⟨S2, fun d n hn => ?_, LcFin_rnd c2, FW_tr a3 c3⟩
      obtain ⟨n, rfl⟩ : ∃ m, n = m + 1 := ⟨n - 1, by omega⟩
      exact (b1 d n).trans (c1 d n (by omega))
    · obtain ⟨S1, -, a1, a3⟩ := m_sum_1 (X := X) (w := w) (J := J) he hM hs h7 hK n0 hq hl hw hm
      obtain ⟨b1, ⟨p', b2, b3⟩, b4, b5⟩ := a1 y rfl
      obtain ⟨S2, c1, c2, c3⟩ := h3 w J S1 p' _ b2 b3 b5 b4 (by rw [List.length_append, List.length_append]; show cd.length + y.1.length + 1 ≤ y.2; omega)
      refine ⟨S2, fun d n hn => ?_, LmFin_rnd c2, FZ_tr a3 c3⟩
      obtain ⟨n, rfl⟩ : ∃ m, n = m + 2 := ⟨n - 2, by omega⟩
      exact (b1 d n).trans (c1 d n (by omega))
theorem sum_end (he : e ≤ 150) {q : Nat} (hqe : q ≤ e) (hqs : sk B e q = q) (n0 : ¬ (q < e ∧ B q = 43)) (n1 : ¬ (q < e ∧ B q = 45)) : WfL q B e (.inr ([], q)) ∧ Lp_sum X B e bw r q (.inr ([], q)) := by
  refine ⟨⟨⟨Nat.le_refl _, by rw [List.length_nil]; omega, hqs, hqe⟩, StpC_nil⟩, fun w J S cd i hT hK hl hi => ?_, fun w J S p cd hM hs h7 hK hl => ?_⟩
  · refine ⟨S, fun d n hn => ?_, ⟨hT, by rw [List.append_nil]; exact hK⟩, FW_rf _ _⟩
    obtain ⟨n, rfl⟩ : ∃ m, n = m + 1 := ⟨n - 1, by omega⟩
    rw [e_X3_readSum_9]
    by_cases hi2 : i < 150
    · refine (if_pos ?_).trans ?_
      · simp (disch := omega) only [hk, hu, hI_n, hI_un, z_nat, em_d, zl, z_add, z_sub, z_mul, z_lt, z_eq, gI_mk, gJ_mk, cI_some, cV_some, cJ_some, cI_x, cV_x, cJ_x, uS_self, uS_ne, if_pos, if_neg, b01, b01n, ite_not, if_true, if_false, Bool.false_eq_true, hLL]
        omega
      refine cI_go (r := zI 0) (st := mkS w (hI S) J) ?_ ?_
      · simp only [gI_mk, gJ_mk, zl]
        rw [show d + (4 * r + 7) = (d + (4 * r + 5)) + 2 by omega]
        exact T_takes0 hT (by decide) n0
      refine (if_pos ?_).trans ?_
      · decide
      refine cI_go (r := zI 0) (st := mkS w (hI S) J) ?_ ?_
      · simp only [gI_mk, gJ_mk, zl]
        rw [show d + (4 * r + 7) = (d + (4 * r + 5)) + 2 by omega]
        exact T_takes0 hT (by decide) n1
      refine (if_pos ?_).trans ?_
      · decide
      refine (if_pos rfl).trans ?_
      simp (disch := omega) only [hk, hu, hI_n, hI_un, z_nat, em_d, zl, z_add, z_sub, z_mul, z_lt, z_eq, gI_mk, gJ_mk, cI_some, cV_some, cJ_some, cI_x, cV_x, cJ_x, uS_self, uS_ne, if_pos, if_neg, b01, b01n, ite_not, if_true, if_false, Bool.false_eq_true, hLL, rI_d]
      rfl
    · refine (if_neg ?_).trans ?_
      · simp (disch := omega) only [hk, hu, hI_n, hI_un, z_nat, em_d, zl, z_add, z_sub, z_mul, z_lt, z_eq, gI_mk, gJ_mk, cI_some, cV_some, cJ_some, cI_x, cV_x, cJ_x, uS_self, uS_ne, if_pos, if_neg, b01, b01n, ite_not, if_true, if_false, Bool.false_eq_true, hLL]
        omega
      simp (disch := omega) only [hk, hu, hI_n, hI_un, z_nat, em_d, zl, z_add, z_sub, z_mul, z_lt, z_eq, gI_mk, gJ_mk, cI_some, cV_some, cJ_some, cI_x, cV_x, cJ_x, uS_self, uS_ne, if_pos, if_neg, b01, b01n, ite_not, if_true, if_false, Bool.false_eq_true, hLL, rI_d]
      rfl
  · obtain ⟨S1, g1, g2, g3⟩ := M_here (X := X) w J hM
    rw [hs] at g1 g2
    have hN := fun d => M_hereN (X := X) (d := d) (w := w) (J := J) g2 hqs
    have hr := bt0_r (q := q) g2.1 g2.2.2.1
    refine ⟨S1, fun d n hn => ?_, ⟨⟨q, g2, hqs⟩, by rw [List.append_nil]; exact MKl_m hK g3, (g3.2 7 (by decide)).trans h7⟩, FZ_m g3⟩
    obtain ⟨n, rfl⟩ : ∃ m, n = m + 1 := ⟨n - 1, by omega⟩
    rw [e_X10_readSum_2]
    refine cI_go (r := zI 1) (st := mkS w (hI S) J) ?_ ?_
    · rw [show d + (4 * r + 7) = (d + (4 * r + 6)) + 1 by omega]
      exact M_fine1 hM
    refine (if_neg ?_).trans ?_
    · decide
    refine cI_go (r := zI (bt0 B e q)) (st := mkS w (hI S1) J) ?_ ?_
    · simp only [gI_mk, gJ_mk]
      rw [show d + (4 * r + 7) = (d + (4 * r + 6)) + 1 by omega]
      exact g1 _
    refine (if_neg ?_).trans ?_
    · simp only [zl]
      rw [z_eq (by omega) (by omega) (by decide) (by decide)]
      exact fun z => n0 ((bt0_c (by decide)).mp z)
    refine cI_go (r := zI (bt0 B e q)) (st := mkS w (hI S1) J) ?_ ?_
    · simp only [gI_mk, gJ_mk]
      rw [show d + (4 * r + 7) = (d + (4 * r + 6)) + 1 by omega]
      exact hN _
    refine (if_neg ?_).trans ?_
    · simp only [zl]
      rw [z_eq (by omega) (by omega) (by decide) (by decide)]
      exact fun z => n1 ((bt0_c (by decide)).mp z)
    simp (disch := omega) only [hk, hu, hI_n, hI_un, z_nat, em_d, zl, z_add, z_sub, z_mul, z_lt, z_eq, gI_mk, gJ_mk, cI_some, cV_some, cJ_some, cI_x, cV_x, cJ_x, uS_self, uS_ne, if_pos, if_neg, b01, b01n, ite_not, if_true, if_false, Bool.false_eq_true, rV_d]
theorem sum_loop (he : e ≤ 150) (hU : PP X B e bw r) : ∀ (j q : Nat), e - q ≤ j → q ≤ e → sk B e q = q → ∃ out, WfL q B e out ∧ Lp_sum X B e bw r q out
  | 0, q, h1, h2, h3 => ⟨_, sum_end he h2 h3 (fun z => absurd z.1 (by omega)) (fun z => absurd z.1 (by omega))⟩
  | j + 1, q, h1, h2, h3 => by
    have hsk := sk_ge (B := B) (e := e) (p := q + 1)
    have rest : ∀ o1 : LOut, q < e → WfU (sk B e (q + 1)) B e o1 → ∀ y, o1 = .inr y → ∃ o2, WfL y.2 B e o2 ∧ Lp_sum X B e bw r y.2 o2 := fun o1 hqe hw y hy => by
      rw [hy] at hw
      obtain ⟨⟨w1, w2, w3, w4⟩, -⟩ := hw
      exact sum_loop he hU j y.2 (by omega) w4 w3
    by_cases n0 : q < e ∧ B q = 43
    · have hq := n0
      obtain ⟨o1, u1, u2, u3⟩ := hU (sk B e (q + 1)) (sk_le (by omega)) sk_sk
      exact sum_step0 he h3  hq u1 u2 u3 (rest o1 hq.1 u1)
    · by_cases n1 : q < e ∧ B q = 45
      · have hq := n1
        obtain ⟨o1, u1, u2, u3⟩ := hU (sk B e (q + 1)) (sk_le (by omega)) sk_sk
        exact sum_step1 he h3 (fun z => n0 ⟨hq.1, z⟩) hq u1 u2 u3 (rest o1 hq.1 u1)
      · exact ⟨_, sum_end he h2 h3 n0 n1⟩
theorem sum_of (he : e ≤ 150) (hU : PP X B e bw r) : PS X B e bw r := fun q hqe hqs => by
  obtain ⟨o1, u1, u2, u3⟩ := hU q hqe hqs
  cases o1 with
  | inl g =>
    refine ⟨.inl g, trivial, fun w J S cd hT hK hl => ?_, fun w J S p cd hM hs h7 hK hl => ?_⟩
    · obtain ⟨S1, a1, a2, a3⟩ := u2 w J S cd hT hK hl
      refine ⟨S1, fun d => ?_, a2, a3⟩
      rw [show d + (4 * r + 8) = (d + (4 * r + 7)) + 1 by omega, go_X3_readSum, e_X3_readSum_0]
      refine cI_go (r := zI 0) (st := mkS w (hI S1) J) (a1 _) ?_
      simp (disch := omega) only [hk, hu, hI_n, hI_un, z_nat, em_d, zl, z_add, z_sub, z_mul, z_lt, z_eq, gI_mk, gJ_mk, cI_some, cV_some, cJ_some, cI_x, cV_x, cJ_x, uS_self, uS_ne, if_pos, if_neg, b01, b01n, ite_not, if_true, if_false, Bool.false_eq_true, hLL, rI_d]
      rfl
    · obtain ⟨S1, a1, a2, a3⟩ := u3 w J S p cd hM hs h7 hK hl
      refine ⟨S1, fun d => ?_, a2, a3⟩
      rw [show d + (4 * r + 8) = (d + (4 * r + 7)) + 1 by omega, go_X10_readSum, e_X10_readSum_0]
      refine cV_go (st := mkS w (hI S1) J) (a1 _) ?_
      simp only [gI_mk, gJ_mk]
      rw [show 9999999 = 9999998 + 1 from rfl, e_X10_readSum_2]
      refine cI_go (r := zI 0) (st := mkS w (hI S1) J) ?_ ?_
      · rw [show d + (4 * r + 7) = (d + (4 * r + 6)) + 1 by omega]
        exact M_fine0 a2
      simp (disch := omega) only [hk, hu, hI_n, hI_un, z_nat, em_d, zl, z_add, z_sub, z_mul, z_lt, z_eq, gI_mk, gJ_mk, cI_some, cV_some, cJ_some, cI_x, cV_x, cJ_x, uS_self, uS_ne, if_pos, if_neg, b01, b01n, ite_not, if_true, if_false, Bool.false_eq_true, rV_d]
  | inr y =>
    obtain ⟨⟨w1, w2, w3, w4⟩, -⟩ := id u1
    obtain ⟨o2, h1, h2, h3⟩ := sum_loop he hU (e - y.2) y.2 (Nat.le_refl _) w4 w3
    refine ⟨outCat (.inr y) (fun _ => o2), Wf_cat u1 h1, fun w J S cd hT hK hl => ?_, fun w J S p cd hM hs h7 hK hl => ?_⟩
    · obtain ⟨S1, a1, ⟨a2, a4⟩, a3⟩ := u2 w J S cd hT hK hl
      obtain ⟨S2, c1, c2, c3⟩ := h2 w J S1 _ 0 a2 a4 (by rw [List.length_append]; omega) (Nat.zero_le _)
      rw [sg_cat]
      refine ⟨S2, fun d => ?_, LcFin_cat (c := []) c2, FW_tr a3 c3⟩
      rw [show d + (4 * r + 8) = (d + (4 * r + 7)) + 1 by omega, go_X3_readSum, e_X3_readSum_0]
      refine cI_go (r := zI 1) (st := mkS w (hI S1) J) (a1 _) ?_
      refine (if_neg ?_).trans ?_
      · decide
      simp only [gI_mk, gJ_mk, zl]
      exact c1 d 9999999 (by omega)
    · obtain ⟨S1, a1, ⟨⟨p', a2, a5⟩, a4, a6⟩, a3⟩ := u3 w J S p cd hM hs h7 hK hl
      obtain ⟨S2, c1, c2, c3⟩ := h3 w J S1 p' _ a2 a5 a6 a4 (by rw [List.length_append]; omega)
      refine ⟨S2, fun d => ?_, LmFin_cat c2, FZ_tr a3 c3⟩
      rw [show d + (4 * r + 8) = (d + (4 * r + 7)) + 1 by omega, go_X10_readSum, e_X10_readSum_0]
      refine cV_go (st := mkS w (hI S1) J) (a1 _) ?_
      simp only [gI_mk, gJ_mk]
      exact c1 d 9999999 (by omega)
end LW2
