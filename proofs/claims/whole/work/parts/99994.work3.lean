/-! THE WORK'S TEXT: steps in a row -/
def oSgn (B : Nat → Int) (e : Nat) : WOut → WOut
  | .inl f => .inl f
  | .inr y => if y.2 < e ∧ B y.2 = 59 then .inr (y.1, sk B e (y.2 + 1)) else .inl (1, (y.2 : Int))
abbrev Gok (X : Nat × (Nat → Int32)) (B : Nat → Int) (e : Nat) (bl : Bool) (nc nr : Int) (r : Nat) (G : Nat → WOut) : Prop := ∀ q, q ≤ e → sk B e q = q → WfW nc nr r q B e (G q) ∧ CcS X B e bl nc nr 70 (3 * r + 5) r q (G q) ∧ MrS X B e nc nr r q (G q)
theorem PG_G {X : Nat × (Nat → Int32)} {B : Nat → Int} {e : Nat} {bl : Bool} {nc nr : Int} {r : Nat} (h : ∀ q, q ≤ e → sk B e q = q → PG X B e bl nc nr r q) : ∃ G, Gok X B e bl nc nr r G := by
  have h2 : ∀ q, ∃ out, q ≤ e → sk B e q = q → WfW nc nr r q B e out ∧ CcS X B e bl nc nr 70 (3 * r + 5) r q out ∧ MrS X B e nc nr r q out := fun q => by
    by_cases k : q ≤ e ∧ sk B e q = q
    · obtain ⟨o, ho⟩ := h q k.1 k.2
      exact ⟨o, fun _ _ => ho⟩
    · exact ⟨.inl (0, 0), fun a b => absurd ⟨a, b⟩ k⟩
  exact ⟨fun q => Classical.choose (h2 q), fun q => Classical.choose_spec (h2 q)⟩
def wCat : WOut → WOut → WOut
  | .inl f, _ => .inl f
  | .inr _, .inl f => .inl f
  | .inr y, .inr z => .inr (y.1 ++ z.1, z.2)
def wAt (q : Nat) : WOut → Nat
  | .inl _ => q
  | .inr y => y.2
def sqW (B : Nat → Int) (e : Nat) (G : Nat → WOut) : Nat → Nat → WOut
  | 0, q => .inr ([], q)
  | n + 1, q => if q = e ∨ B q = 93 then .inr ([], q) else wCat (oSgn B e (G q)) (sqW B e G n (wAt q (oSgn B e (G q))))
theorem sqW_s (B : Nat → Int) (e : Nat) (G : Nat → WOut) (n q : Nat) : sqW B e G (n + 1) q = if q = e ∨ B q = 93 then .inr ([], q) else wCat (oSgn B e (G q)) (sqW B e G n (wAt q (oSgn B e (G q)))) := rfl
theorem sqW_stop {B : Nat → Int} {e : Nat} {G : Nat → WOut} {q : Nat} (h : q = e ∨ B q = 93) : ∀ n, sqW B e G n q = .inr ([], q)
  | 0 => rfl
  | _ + 1 => if_pos h
section WK3
variable {X : Nat × (Nat → Int32)} {d : Nat} {w : Bool × Bool × Bool} {S : Hp} {J : Nat → Nat → Int64} {B : Nat → Int} {e p q i j r : Nat} {nc nr : Int} {bl : Bool} {G : Nat → WOut}
theorem oSgn_wf {out : WOut} (h : WfW nc nr r q B e out) : WfW nc nr r q B e (oSgn B e out) ∧ ∀ y, oSgn B e out = .inr y → q < y.2 := by
  cases out with
  | inl f => exact ⟨trivial, fun y hy => by cases hy⟩
  | inr y =>
    obtain ⟨⟨h1, h2, h3, h4, h5⟩, h6⟩ := h
    have s1 := sk_ge (B := B) (e := e) (p := y.2 + 1)
    by_cases k : y.2 < e ∧ B y.2 = 59
    · rw [show oSgn B e (.inr y) = .inr (y.1, sk B e (y.2 + 1)) from if_pos k]
      refine ⟨⟨⟨?_, ?_, ?_, sk_sk, sk_le (by omega)⟩, h6⟩, fun y' hy => ?_⟩
      · show q ≤ sk B e (y.2 + 1)
        omega
      · show y.1.length + q ≤ sk B e (y.2 + 1)
        omega
      · show 3 * mL y.1 + q ≤ sk B e (y.2 + 1)
        omega
      · injection hy with hy
        rw [← hy]
        show q < sk B e (y.2 + 1)
        omega
    · rw [show oSgn B e (.inr y) = .inl (1, (y.2 : Int)) from if_neg k]
      exact ⟨trivial, fun y hy => by cases hy⟩
theorem sqW_wf (hG : Gok X B e bl nc nr r G) : ∀ (n q : Nat), e - q ≤ n → q ≤ e → sk B e q = q → WfW nc nr r q B e (sqW B e G n q) ∧ ∀ y, sqW B e G n q = .inr y → y.2 = e ∨ B y.2 = 93
  | 0, q, hn, hq, hs => ⟨⟨⟨Nat.le_refl q, (by show 0 + q ≤ q; omega), (by show 3 * 0 + q ≤ q; omega), hs, hq⟩, ⟨0, rfl⟩⟩, fun y hy => by
      injection hy with hy
      rw [← hy]
      left
      show q = e
      omega⟩
  | n + 1, q, hn, hq, hs => by
    rw [sqW_s]
    by_cases k : q = e ∨ B q = 93
    · rw [if_pos k]
      exact ⟨⟨⟨Nat.le_refl q, (by show 0 + q ≤ q; omega), (by show 3 * 0 + q ≤ q; omega), hs, hq⟩, ⟨0, rfl⟩⟩, fun y hy => by
        injection hy with hy
        rw [← hy]
        exact k⟩
    · rw [if_neg k]
      obtain ⟨w1, w2⟩ := oSgn_wf (hG q hq hs).1
      cases e1 : oSgn B e (G q) with
      | inl f => exact ⟨trivial, fun y hy => by cases hy⟩
      | inr y =>
        have w3 := w2 y e1
        rw [e1] at w1
        obtain ⟨⟨h1, h2, h3, h4, h5⟩, h6⟩ := w1
        obtain ⟨v1, v2⟩ := sqW_wf hG n y.2 (by omega) h5 h4
        show WfW nc nr r q B e (wCat (.inr y) (sqW B e G n y.2)) ∧ ∀ z, wCat (.inr y) (sqW B e G n y.2) = .inr z → _
        cases e2 : sqW B e G n y.2 with
        | inl f => exact ⟨trivial, fun y hy => by cases hy⟩
        | inr z =>
          rw [e2] at v1
          obtain ⟨⟨g1, g2, g3, g4, g5⟩, g6⟩ := v1
          refine ⟨⟨⟨?_, ?_, ?_, g4, g5⟩, OkS_app h6 g6⟩, fun z' hz => ?_⟩
          · show q ≤ z.2
            omega
          · show (y.1 ++ z.1).length + q ≤ z.2
            rw [List.length_append]
            omega
          · show 3 * mL (y.1 ++ z.1) + q ≤ z.2
            rw [mL_app]
            omega
          · injection hz with hz
            rw [← hz]
            exact v2 z e2
/-- what has been read stays, and more is read -/
theorem CF_cat {S1 S2 : Hp} {i : Nat} {y : List Tk × Nat} {o : WOut} (h : CSt S1 y.1 i) (hf : FC (i + y.1.length) S1 S2) (h2 : CF S2 B e (i + y.1.length) o) : CF S2 B e i (wCat (.inr y) o) := by
  cases o with
  | inl f => exact h2
  | inr z =>
    obtain ⟨a1, a2, a3⟩ := h2
    refine ⟨a1, CSt_app y.1 i (CSt_ext y.1 i (fun j _ hj => hf.2.2 j hj) h) a2, ?_⟩
    rw [a3]
    show ((i + y.1.length + z.1.length : Nat) : Int) = ((i + (y.1 ++ z.1).length : Nat) : Int)
    rw [List.length_append]
    omega
theorem MF_cat {S1 S2 : Hp} {j : Nat} {y : List Tk × Nat} {o : WOut} (h : MSt S1 145 y.1 j) (hf : FR (j + mL y.1) S1 S2) (h2 : MF S2 B e r (j + mL y.1) o) : MF S2 B e r j (wCat (.inr y) o) := by
  cases o with
  | inl f => exact h2
  | inr z =>
    obtain ⟨a1, a2, a3, a4⟩ := h2
    refine ⟨a1, MSt_app y.1 j (MSt_ext y.1 j (fun x _ hx => hf.2.2 x hx) h) a2, ?_, a4⟩
    rw [a3]
    show ((3 * (j + mL y.1 + mL z.1) : Nat) : Int) = ((3 * (j + mL (y.1 ++ z.1)) : Nat) : Int)
    rw [mL_app]
    omega
theorem MF_r {S' : Hp} {o : WOut} {r' : Nat} (h : MF S' B e r j o) (hr : r = r') : MF S' B e r' j o := by
  rw [← hr]
  exact h
theorem sgW_cat (y : List Tk × Nat) : ∀ o : WOut, sgW (wCat (.inr y) o) = sgW o
  | .inl _ => rfl
  | .inr _ => rfl
/-- the class's loop -/
theorem c_seq (he : e ≤ 150) (hG : Gok X B e bl nc nr r G) : ∀ (n q t : Nat) (w : Bool × Bool × Bool) (J : Nat → Nat → Int64) (S : Hp) (i : Nat), e - q ≤ n → Tp S B e q → sk B e q = q → t ≤ q → S 3 4 = (i : Int) → i ≤ q → S (iL bl) 7 = nr → S (iL bl) 8 = nc → ∃ S', (∀ d f, aR X (d + (3 * r + 5)) m_X6_readSteps (f + n + 1) 2 [some (.ref 3), some (.ref 1), some (.ref ((iL bl))), some (.int (zI ((6 - (r : Int))))), some (.int (zI t))] (0, 0) (mkS w (hI S) J) = some (.inl (some (.int (zI (sgW (sqW B e G n q))))), (mkS w (hI S') J))) ∧ CF S' B e i (sqW B e G n q) ∧ FC i S S' := by
  intro n
  induction n with
  | zero =>
    intro q t w J S i hn hT hs ht h4 hi h7 h8
    have hq := hT.2.2.2.1
    refine ⟨S, fun d f => ?_, ⟨hT, trivial, by rw [h4]; rfl⟩, FC_rf i S⟩
    rw [show f + 0 + 1 = f + 1 from rfl, e_X6_readSteps_2]
    by_cases kt : (t : Int) < 150
    · refine (if_pos (by simp (disch := omega) only [hk, hu, hI_n, hI_un, z_nat, em_d, zl, z_add, z_sub, z_mul, z_lt, z_eq, gI_mk, gJ_mk, cI_some, cV_some, cJ_some, cI_x, cV_x, cJ_x, uS_self, uS_ne, if_pos, if_neg, b01, b01n, ite_not, if_true, if_false, Bool.false_eq_true, hLL]; exact kt)).trans ?_
      refine cI_go (r := zI 1) (st := mkS w (hI S) J) ?_ ?_
      · have := T_ends (X := X) (d := d + (3 * r + 4)) (w := w) (J := J) hT
        rw [if_neg (by omega)] at this
        exact this
      refine (if_neg (by decide)).trans ?_
      simp (disch := omega) only [hk, hu, hI_n, hI_un, z_nat, em_d, zl, z_add, z_sub, z_mul, z_lt, z_eq, gI_mk, gJ_mk, cI_some, cV_some, cJ_some, cI_x, cV_x, cJ_x, uS_self, uS_ne, if_pos, if_neg, b01, b01n, ite_not, if_true, if_false, Bool.false_eq_true, hLL, rI_d]
      rfl
    · refine (if_neg (by simp (disch := omega) only [hk, hu, hI_n, hI_un, z_nat, em_d, zl, z_add, z_sub, z_mul, z_lt, z_eq, gI_mk, gJ_mk, cI_some, cV_some, cJ_some, cI_x, cV_x, cJ_x, uS_self, uS_ne, if_pos, if_neg, b01, b01n, ite_not, if_true, if_false, Bool.false_eq_true, hLL]; exact kt)).trans ?_
      simp (disch := omega) only [hk, hu, hI_n, hI_un, z_nat, em_d, zl, z_add, z_sub, z_mul, z_lt, z_eq, gI_mk, gJ_mk, cI_some, cV_some, cJ_some, cI_x, cV_x, cJ_x, uS_self, uS_ne, if_pos, if_neg, b01, b01n, ite_not, if_true, if_false, Bool.false_eq_true, hLL, rI_d]
      rfl
  | succ n ih =>
    intro q t w J S i hn hT hs ht h4 hi h7 h8
    have hq := hT.2.2.2.1
    by_cases ke : q = e
    · rw [sqW_stop (Or.inl ke)]
      refine ⟨S, fun d f => ?_, ⟨hT, trivial, by rw [h4]; rfl⟩, FC_rf i S⟩
      rw [e_X6_readSteps_2]
      by_cases kt : (t : Int) < 150
      · refine (if_pos (by simp (disch := omega) only [hk, hu, hI_n, hI_un, z_nat, em_d, zl, z_add, z_sub, z_mul, z_lt, z_eq, gI_mk, gJ_mk, cI_some, cV_some, cJ_some, cI_x, cV_x, cJ_x, uS_self, uS_ne, if_pos, if_neg, b01, b01n, ite_not, if_true, if_false, Bool.false_eq_true, hLL]; exact kt)).trans ?_
        refine cI_go (r := zI 1) (st := mkS w (hI S) J) ?_ ?_
        · have := T_ends (X := X) (d := d + (3 * r + 4)) (w := w) (J := J) hT
          rw [if_neg (by omega)] at this
          exact this
        refine (if_neg (by decide)).trans ?_
        simp (disch := omega) only [hk, hu, hI_n, hI_un, z_nat, em_d, zl, z_add, z_sub, z_mul, z_lt, z_eq, gI_mk, gJ_mk, cI_some, cV_some, cJ_some, cI_x, cV_x, cJ_x, uS_self, uS_ne, if_pos, if_neg, b01, b01n, ite_not, if_true, if_false, Bool.false_eq_true, hLL, rI_d]
        rfl
      · refine (if_neg (by simp (disch := omega) only [hk, hu, hI_n, hI_un, z_nat, em_d, zl, z_add, z_sub, z_mul, z_lt, z_eq, gI_mk, gJ_mk, cI_some, cV_some, cJ_some, cI_x, cV_x, cJ_x, uS_self, uS_ne, if_pos, if_neg, b01, b01n, ite_not, if_true, if_false, Bool.false_eq_true, hLL]; exact kt)).trans ?_
        simp (disch := omega) only [hk, hu, hI_n, hI_un, z_nat, em_d, zl, z_add, z_sub, z_mul, z_lt, z_eq, gI_mk, gJ_mk, cI_some, cV_some, cJ_some, cI_x, cV_x, cJ_x, uS_self, uS_ne, if_pos, if_neg, b01, b01n, ite_not, if_true, if_false, Bool.false_eq_true, hLL, rI_d]
        rfl
    · have hql : q < e := by omega
      have h1 : ∀ d, am_call X aP (d + (3 * r + 5)) 82 [.ref 1] (mkS w (hI S) J) = some (.inl (some (.int (zI 0))), (mkS w (hI S) J)) := fun d => by
        have := T_ends (X := X) (d := d + (3 * r + 4)) (w := w) (J := J) hT
        rw [if_pos hql] at this
        exact this
      by_cases kb : B q = 93
      · rw [sqW_stop (Or.inr kb)]
        refine ⟨S, fun d f => ?_, ⟨hT, trivial, by rw [h4]; rfl⟩, FC_rf i S⟩
        rw [e_X6_readSteps_2]
        refine (if_pos (by simp (disch := omega) only [hk, hu, hI_n, hI_un, z_nat, em_d, zl, z_add, z_sub, z_mul, z_lt, z_eq, gI_mk, gJ_mk, cI_some, cV_some, cJ_some, cI_x, cV_x, cJ_x, uS_self, uS_ne, if_pos, if_neg, b01, b01n, ite_not, if_true, if_false, Bool.false_eq_true, hLL]; omega)).trans ?_
        refine cI_go (r := zI 0) (st := mkS w (hI S) J) (h1 d) ?_
        refine (if_pos (by decide)).trans ?_
        refine cI_go (r := zI 1) (st := mkS w (hI S) J) ?_ ?_
        · have := T_stands (X := X) (d := d + (3 * r + 4)) (w := w) (J := J) hT (c := 93) (by decide)
          rw [if_pos ⟨hql, kb⟩] at this
          exact this
        refine (if_neg (by decide)).trans ?_
        simp (disch := omega) only [hk, hu, hI_n, hI_un, z_nat, em_d, zl, z_add, z_sub, z_mul, z_lt, z_eq, gI_mk, gJ_mk, cI_some, cV_some, cJ_some, cI_x, cV_x, cJ_x, uS_self, uS_ne, if_pos, if_neg, b01, b01n, ite_not, if_true, if_false, Bool.false_eq_true, hLL, rI_d]
        rfl
      · rw [sqW_s, if_neg (fun z => z.elim ke kb)]
        have h2 : ∀ d, am_call X aP (d + (3 * r + 5)) 83 [.ref 1, .int (zI 93)] (mkS w (hI S) J) = some (.inl (some (.int (zI 0))), (mkS w (hI S) J)) := fun d => by
          have := T_stands (X := X) (d := d + (3 * r + 4)) (w := w) (J := J) hT (c := 93) (by decide)
          rw [if_neg (fun z => kb z.2)] at this
          exact this
        obtain ⟨w1, w2, -⟩ := hG q hq hs
        obtain ⟨S1, g1, g2, g3⟩ := w2 w J S i hT h4 hi h7 h8
        have head : ∀ (d f : Nat) (R : aRes), (cI (some (.inl (some (.int (zI (sgW (G q))))), (mkS w (hI S1) J))) (fun r6 s5 => if r6 = nI 0 then (rI (nI 0) (mkS w (gI s5) (gJ s5))) else cI (am_call X aP (d + (3 * r + 5)) 88 [.ref 1, .int (nI 59)] (mkS w (gI s5) (gJ s5))) (fun r8 s7 => if r8 = nI 0 then (rI (nI 0) (mkS w (gI s7) (gJ s7))) else aR X (d + (3 * r + 5)) m_X6_readSteps (f + n + 1) 2 [some (.ref 3), some (.ref 1), some (.ref (iL bl)), some (.int (zI (6 - (r : Int)))), some (.int (zI t + nI 1))] (0, 0) (mkS w (gI s7) (gJ s7))) (fun e9 s7 => rX e9 (mkS w (gI s7) (gJ s7)))) (fun e9 s5 => rX e9 (mkS w (gI s5) (gJ s5)))) = R → aR X (d + (3 * r + 5)) m_X6_readSteps (f + (n + 1) + 1) 2 [some (.ref 3), some (.ref 1), some (.ref ((iL bl))), some (.int (zI ((6 - (r : Int))))), some (.int (zI t))] (0, 0) (mkS w (hI S) J) = R := fun d f R hR => by
          rw [show f + (n + 1) + 1 = (f + n + 1) + 1 by omega, e_X6_readSteps_2]
          refine (if_pos (by simp (disch := omega) only [hk, hu, hI_n, hI_un, z_nat, em_d, zl, z_add, z_sub, z_mul, z_lt, z_eq, gI_mk, gJ_mk, cI_some, cV_some, cJ_some, cI_x, cV_x, cJ_x, uS_self, uS_ne, if_pos, if_neg, b01, b01n, ite_not, if_true, if_false, Bool.false_eq_true, hLL]; omega)).trans ?_
          refine cI_go (r := zI 0) (st := mkS w (hI S) J) (h1 d) ?_
          refine (if_pos (by decide)).trans ?_
          refine cI_go (r := zI 0) (st := mkS w (hI S) J) (h2 d) ?_
          refine (if_pos (by decide)).trans ?_
          rw [← hR]
          simp only [gI_mk, gJ_mk]
          rw [g1]
          rfl
        cases e1 : G q with
        | inl g =>
          rw [e1] at g2 head
          refine ⟨S1, fun d f => head d f _ ?_, g2, g3⟩
          rw [cI_some]
          refine (if_pos rfl).trans ?_
          simp (disch := omega) only [hk, hu, hI_n, hI_un, z_nat, em_d, zl, z_add, z_sub, z_mul, z_lt, z_eq, gI_mk, gJ_mk, cI_some, cV_some, cJ_some, cI_x, cV_x, cJ_x, uS_self, uS_ne, if_pos, if_neg, b01, b01n, ite_not, if_true, if_false, Bool.false_eq_true, hLL, rI_d]
          rfl
        | inr y =>
          rw [e1] at g2 head w1
          obtain ⟨f1, f2, f3⟩ := g2
          obtain ⟨⟨v1, v2, v3, v4, v5⟩, v6⟩ := w1
          by_cases k9 : y.2 < e ∧ B y.2 = 59
          · rw [show oSgn B e (.inr y) = .inr (y.1, sk B e (y.2 + 1)) from if_pos k9]
            obtain ⟨S2, y1, y2, y3⟩ := T_needs1 (X := X) w J f1 (c := 59) (by decide) k9
            have s1 := sk_ge (B := B) (e := e) (p := y.2 + 1)
            have a4 : S2 3 4 = ((i + y.1.length : Nat) : Int) := by
              rw [y3.1 3 (by decide)]
              exact f3
            have a7 : S2 (iL bl) 7 = nr := by
              rw [FT_iL y3, FC_iL g3]
              exact h7
            have a8 : S2 (iL bl) 8 = nc := by
              rw [FT_iL y3, FC_iL g3]
              exact h8
            obtain ⟨S3, z1, z2, z3⟩ := ih (sk B e (y.2 + 1)) (t + 1) w J S2 (i + y.1.length) (by omega) y2 sk_sk (by omega) a4 (by omega) a7 a8
            refine ⟨S3, fun d f => head d f _ ?_, CF_cat (y := (y.1, sk B e (y.2 + 1))) (CSt_ft f2 y3) z3 z2, FC_tr g3 (FC_tr (FC_t y3) z3 (Nat.le_add_right ..)) (Nat.le_refl _)⟩
            rw [cI_some]
            refine (if_neg (show ¬ zI 1 = nI 0 by decide)).trans ?_
            refine cI_go (r := zI 1) (st := mkS w (hI S2) J) ?_ ?_
            · simp only [gI_mk, gJ_mk]
              exact y1 (d + (3 * r + 2))
            refine (if_neg (by decide)).trans ?_
            have := z1 d f
            rw [show ((t + 1 : Nat) : Int) = (t : Int) + 1 by omega] at this
            simp only [gI_mk, gJ_mk, zl, z_add]
            rw [this]
            exact (congrArg (fun v : Int => (some (.inl (some (.int (zI v))), (mkS w (hI S3) J)) : aRes)) (sgW_cat (y.1, sk B e (y.2 + 1)) _)).symm
          · rw [show oSgn B e (.inr y) = .inl (1, (y.2 : Int)) from if_neg k9]
            obtain ⟨S2, y1, y2, y3⟩ := T_needs0 (X := X) w J f1 (c := 59) (by decide) k9
            refine ⟨S2, fun d f => head d f _ ?_, y2, FC_tr g3 (FC_t y3) (Nat.le_refl _)⟩
            rw [cI_some]
            refine (if_neg (show ¬ zI 1 = nI 0 by decide)).trans ?_
            refine cI_go (r := zI 0) (st := mkS w (hI S2) J) ?_ ?_
            · simp only [gI_mk, gJ_mk]
              exact y1 (d + (3 * r + 2))
            refine (if_pos (by decide)).trans ?_
            simp (disch := omega) only [hk, hu, hI_n, hI_un, z_nat, em_d, zl, z_add, z_sub, z_mul, z_lt, z_eq, gI_mk, gJ_mk, cI_some, cV_some, cJ_some, cI_x, cV_x, cJ_x, uS_self, uS_ne, if_pos, if_neg, b01, b01n, ite_not, if_true, if_false, Bool.false_eq_true, hLL, rI_d]
            rfl
end WK3
