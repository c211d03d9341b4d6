/-! THE WORK'S TEXT: all of it -/
def clT (e : Nat) : WOut → WOut
  | .inl f => .inl f
  | .inr y => if y.2 = e then .inr y else .inl (1, (y.2 : Int))
theorem clT_cat {e : Nat} (y : List Tk × Nat) : ∀ o : WOut, clT e (wCat (.inr y) o) = wCat (.inr y) (clT e o)
  | .inl _ => rfl
  | .inr z => by
    show (if z.2 = e then (Sum.inr (y.1 ++ z.1, z.2) : WOut) else .inl (1, (z.2 : Int))) = wCat (.inr y) (if z.2 = e then .inr z else .inl (1, (z.2 : Int)))
    by_cases k : z.2 = e
    · rw [if_pos k, if_pos k]
      rfl
    · rw [if_neg k, if_neg k]
      rfl
section WK8
variable {X : Nat × (Nat → Int32)} {d : Nat} {w : Bool × Bool × Bool} {S : Hp} {J : Nat → Nat → Int64} {B : Nat → Int} {e p q i j r : Nat} {nc nr : Int} {bl : Bool} {G : Nat → WOut} {out : WOut}
theorem m_loopT {k pl : Int} {D f : Nat} (h : Bd S k pl) : aR X (D + 1) m_X10_work (f + 1) 38 [some (.ref 132), none, none, none] (0, 0) (mkS w (hI S) J) = aR X (D + 1) m_X10_work f 47 [some (.ref 132), none, none, none] (0, 0) (mkS w (hI S) J) := by
  rw [e_X10_work_38]
  refine cI_go (r := zI 0) (st := mkS w (hI S) J) (M_fine0 h) ?_
  refine (if_pos (by decide)).trans ?_
  rfl
theorem m_seqT (hG : Gok X B e bl nc nr r G) : ∀ (n q : Nat) (w : Bool × Bool × Bool) (J : Nat → Nat → Int64) (S : Hp) (p j : Nat), e - q ≤ n → Mp S B e p → sk B e p = q → S 132 7 = 6 - (r : Int) → S 132 30 = ((3 * j : Nat) : Int) → 3 * j ≤ q → S 132 18 = nr → S 132 19 = nc → ∃ S', (∀ d f, ∃ f', f ≤ f' ∧ aR X (d + (2 * r + 7)) m_X10_work (f + n + 3) 38 [some (.ref 132), none, none, none] (0, 0) (mkS w (hI S) J) = aR X (d + (2 * r + 7)) m_X10_work (f' + 1) 47 [some (.ref 132), none, none, none] (0, 0) (mkS w (hI S') J)) ∧ MF S' B e r j (clT e (sqW B e G n q)) ∧ FR j S S' := by
  intro n
  induction n with
  | zero =>
    intro q w J S p j hn hM hs h7 h30 hj h18 h19
    have hq : q ≤ e := by rw [← hs]; exact sk_le hM.2.2.2.1
    obtain ⟨S1, g1, g2, g3⟩ := M_isMore (X := X) w J hM
    rw [hs] at g1 g2
    rw [sqW_stop (Or.inl (by omega)), show clT e (.inr ([], q)) = .inr ([], q) from if_pos (show q = e by omega)]
    refine ⟨S1, fun d f => ⟨f + 1, by omega, ?_⟩, ⟨⟨q, g2, by rw [← hs]; exact sk_sk⟩, trivial, (g3.2 30 (by decide)).trans h30, (g3.2 7 (by decide)).trans h7⟩, FR_m g3⟩
    rw [show f + 0 + 3 = (f + 1 + 1) + 1 from rfl, e_X10_work_38]
    refine cI_go (r := zI 1) (st := mkS w (hI S) J) (M_fine1 (d := d + (2 * r + 6)) hM) ?_
    refine (if_neg (by decide)).trans ?_
    have g1 := g1 (d + (2 * r + 5))
    rw [if_neg (by omega)] at g1
    refine cI_go (r := zI 0) (st := mkS w (hI S1) J) g1 ?_
    refine (if_pos (by decide)).trans ?_
    rfl
  | succ n ih =>
    intro q w J S p j hn hM hs h7 h30 hj h18 h19
    have hq : q ≤ e := by rw [← hs]; exact sk_le hM.2.2.2.1
    have hqs : sk B e q = q := by rw [← hs]; exact sk_sk
    obtain ⟨S1, g1, g2, g3⟩ := M_isMore (X := X) w J hM
    rw [hs] at g1 g2
    by_cases ke : q = e
    · rw [sqW_stop (Or.inl ke), show clT e (.inr ([], q)) = .inr ([], q) from if_pos ke]
      refine ⟨S1, fun d f => ⟨f + n + 2, by omega, ?_⟩, ⟨⟨q, g2, hqs⟩, trivial, (g3.2 30 (by decide)).trans h30, (g3.2 7 (by decide)).trans h7⟩, FR_m g3⟩
      rw [show f + (n + 1) + 3 = (f + n + 2 + 1) + 1 by omega, e_X10_work_38]
      refine cI_go (r := zI 1) (st := mkS w (hI S) J) (M_fine1 (d := d + (2 * r + 6)) hM) ?_
      refine (if_neg (by decide)).trans ?_
      have g1 := g1 (d + (2 * r + 5))
      rw [if_neg (by omega)] at g1
      refine cI_go (r := zI 0) (st := mkS w (hI S1) J) g1 ?_
      refine (if_pos (by decide)).trans ?_
      rfl
    · have hql : q < e := by omega
      have b30 : S1 132 30 = ((3 * j : Nat) : Int) := (g3.2 30 (by decide)).trans h30
      have b7 : S1 132 7 = 6 - (r : Int) := (g3.2 7 (by decide)).trans h7
      have head : ∀ (S2 : Hp), (∀ d, am_call X aP (d + (2 * r + 7)) 194 [.ref 132] (mkS w (hI S1) J) = some (.inl none, (mkS w (hI S2) J))) → ∀ (d f : Nat), aR X (d + (2 * r + 7)) m_X10_work (f + (n + 1) + 3) 38 [some (.ref 132), none, none, none] (0, 0) (mkS w (hI S) J) = aR X (d + (2 * r + 7)) m_X10_work (f + n + 3) 38 [some (.ref 132), none, none, none] (0, 0) (mkS w (hI S2) J) := fun S2 f1 d f => by
        rw [show f + (n + 1) + 3 = (f + n + 3) + 1 by omega, e_X10_work_38]
        refine cI_go (r := zI 1) (st := mkS w (hI S) J) (M_fine1 (d := d + (2 * r + 6)) hM) ?_
        refine (if_neg (by decide)).trans ?_
        have g1 := g1 (d + (2 * r + 5))
        rw [if_pos hql] at g1
        refine cI_go (r := zI 1) (st := mkS w (hI S1) J) g1 ?_
        refine (if_neg (by decide)).trans ?_
        refine cV_go (st := mkS w (hI S2) J) (f1 d) ?_
        rfl
      by_cases kb : B q = 93
      · rw [sqW_stop (Or.inr kb), show clT e (.inr ([], q)) = .inl (1, (q : Int)) from if_neg ke]
        have hnl : ¬ isL (B q) = true := fun z => by
          have := isL_r z
          omega
        obtain ⟨S2, f1, f2, f3⟩ := m_stp (m_none (X := X) (nc := nc) (nr := nr) (r := r) (B := B) (e := e) (q := q) hq hqs (wd_no (fun _ => hnl))) w J S1 q j g2 hqs b7 b30 hj ((g3.2 18 (by decide)).trans h18) ((g3.2 19 (by decide)).trans h19)
        refine ⟨S2, fun d f => ⟨f + n + 1, by omega, (head S2 f1 d f).trans ?_⟩, f2, FR_tr (FR_m g3) f3 (Nat.le_refl _)⟩
        exact m_loopT (D := d + (2 * r + 6)) (f := f + n + 2) f2
      · rw [sqW_s, if_neg (fun z => z.elim ke kb)]
        obtain ⟨w1, -, w2⟩ := hG q hq hqs
        obtain ⟨S2, f1, f2, f3⟩ := m_stp w2 w J S1 q j g2 hqs b7 b30 hj ((g3.2 18 (by decide)).trans h18) ((g3.2 19 (by decide)).trans h19)
        obtain ⟨w3, w4⟩ := oSgn_wf w1
        cases e1 : oSgn B e (G q) with
        | inl g =>
          rw [e1] at f2
          refine ⟨S2, fun d f => ⟨f + n + 1, by omega, (head S2 f1 d f).trans ?_⟩, f2, FR_tr (FR_m g3) f3 (Nat.le_refl _)⟩
          exact m_loopT (D := d + (2 * r + 6)) (f := f + n + 2) f2
        | inr y =>
          rw [e1] at f2 w3
          obtain ⟨⟨p', a1, a2⟩, a3, a4, a5⟩ := f2
          obtain ⟨⟨v1, v2, v3, v4, v5⟩, v6⟩ := w3
          have w5 := w4 y e1
          obtain ⟨S3, z1, z2, z3⟩ := ih y.2 w J S2 p' (j + mL y.1) (by omega) a1 a2 a5 a4 (by omega) ((f3.2.1 18 (by decide)).trans ((g3.2 18 (by decide)).trans h18)) ((f3.2.1 19 (by decide)).trans ((g3.2 19 (by decide)).trans h19))
          refine ⟨S3, fun d f => ?_, ?_, FR_tr (FR_m g3) (FR_tr f3 z3 (Nat.le_add_right ..)) (Nat.le_refl _)⟩
          · obtain ⟨f', hf'⟩ := z1 d f
            exact ⟨f', hf'.1, (head S2 f1 d f).trans hf'.2⟩
          · show MF S3 B e r j (clT e (wCat (.inr y) (sqW B e G n y.2)))
            rw [clT_cat]
            exact MF_cat a3 z3 z2
/-- both readings of a work -/
theorem wk_both (X : Nat × (Nat → Int32)) (B : Nat → Int) (bl : Bool) (he : e ≤ 150) (hnc : 0 ≤ nc ∧ nc ≤ 100) (hnr : 0 ≤ nr ∧ nr ≤ 100) : ∃ out : WOut, (WfW nc nr 6 (sk B e 0) B e out) ∧ (∀ (w : Bool × Bool × Bool) (J : Nat → Nat → Int64) (S : Hp), Tp S B e (sk B e 0) → S (iL bl) 7 = nr → S (iL bl) 8 = nc → ∃ S', (∀ d, am_call X aP (d + 25) 68 [.ref 3, .ref 1, .ref ((iL bl))] (mkS w (hI S) J) = some (.inl (some (.int (zI (sgW out)))), (mkS w (hI S') J))) ∧ CF S' B e 0 out ∧ FC 0 S S') ∧ ∀ (w : Bool × Bool × Bool) (J : Nat → Nat → Int64) (S : Hp) (p : Nat), Mp S B e p → sk B e p = sk B e 0 → S 132 7 = 0 → S 132 30 = 0 → S 132 18 = nr → S 132 19 = nc → ∃ S', (∀ d f, ∃ f', f ≤ f' ∧ aR X (d + 19) m_X10_work (f + e + 3) 38 [some (.ref 132), none, none, none] (0, 0) (mkS w (hI S) J) = aR X (d + 19) m_X10_work (f' + 1) 47 [some (.ref 132), none, none, none] (0, 0) (mkS w (hI S') J)) ∧ MF S' B e 6 0 out ∧ FR 0 S S' := by
  obtain ⟨G, hG⟩ := PG_G (stp_all (X := X) (bl := bl) he hnc hnr 6 (Nat.le_refl _))
  have hq0 : sk B e 0 ≤ e := sk_le (Nat.zero_le _)
  obtain ⟨v1, v2⟩ := sqW_wf hG e (sk B e 0) (by omega) hq0 sk_sk
  refine ⟨clT e (sqW B e G e (sk B e 0)), ?_, fun w J S hT h7 h8 => ?_, fun w J S p hM hs h7 h30 h18 h19 => ?_⟩
  · cases e1 : sqW B e G e (sk B e 0) with
    | inl f => trivial
    | inr y =>
      rw [e1] at v1
      by_cases k : y.2 = e
      · rw [show clT e (.inr y) = .inr y from if_pos k]
        exact v1
      · rw [show clT e (.inr y) = .inl (1, (y.2 : Int)) from if_neg k]
        trivial
  · have hT0 : Tp (uS S 3 4 0) B e (sk B e 0) := Tp_o hT (uS_row _ _ _ (by decide)) (uS_row _ _ _ (by decide))
    have hl : iL bl ≠ 3 := by cases bl <;> decide
    obtain ⟨S1, g1, g2, g3⟩ := c_steps he hG sk_sk w J (uS S 3 4 0) 0 hT0 (uS_self _ _ _ _) (Nat.zero_le _) (by rw [uS_row _ _ _ hl]; exact h7) (by rw [uS_row _ _ _ hl]; exact h8)
    have hF0 : FC 0 S S1 := FC_tr ⟨fun o ho => uS_row _ _ _ (fun z => ho (by rw [z]; decide)), fun k _ => uS_ne _ _ (Or.inl (by decide)), fun j hj => absurd hj (Nat.not_lt_zero _)⟩ g3 (Nat.le_refl _)
    have head : ∀ (d : Nat) (R : aRes), (cI (some (.inl (some (.int (zI (sgW (sqW B e G e (sk B e 0)))))), (mkS w (hI S1) J))) (fun r2 s1 => if r2 = nI 0 then (rI (nI 0) (mkS w (gI s1) (gJ s1))) else cI (am_call X aP (d + 24) 82 [.ref 1] (mkS w (gI s1) (gJ s1))) (fun r4 s3 => if r4 = nI 0 then (cI (am_call X aP (d + 24) 91 [.ref 1, .int (nI 1)] (mkS w (gI s3) (gJ s3))) (fun r6 s5 => if r6 = nI 0 then (rI (nI 0) (mkS w (gI s5) (gJ s5))) else rI (nI 1) (mkS w (gI s5) (gJ s5))) (fun e9 s5 => rX e9 (mkS w (gI s5) (gJ s5)))) else rI (nI 1) (mkS w (gI s3) (gJ s3))) (fun e9 s3 => rX e9 (mkS w (gI s3) (gJ s3)))) (fun e9 s1 => rX e9 (mkS w (gI s1) (gJ s1)))) = R → am_call X aP (d + 25) 68 [.ref 3, .ref 1, .ref ((iL bl))] (mkS w (hI S) J) = R := fun d R hR => by
      rw [show d + 25 = (d + 24) + 1 from rfl, go_X6_readFrom, e_X6_readFrom_0]
      rw [← hR]
      have g1 := g1 d
      rw [show d + (3 * 6 + 6) = d + 24 from rfl, show (6 : Int) - ((6 : Nat) : Int) = 0 from rfl] at g1
      simp (disch := omega) only [hk, hu, hI_n, hI_un, z_nat, em_d, zl, z_add, z_sub, z_mul, z_lt, z_eq, gI_mk, gJ_mk, cI_some, cV_some, cJ_some, cI_x, cV_x, cJ_x, uS_self, uS_ne, if_pos, if_neg, b01, b01n, ite_not, if_true, if_false, Bool.false_eq_true, hLL]
      rw [g1]
      rfl
    cases e1 : sqW B e G e (sk B e 0) with
    | inl f =>
      rw [e1] at g2 head
      refine ⟨S1, fun d => head d _ ?_, g2, hF0⟩
      rw [cI_some]
      refine (if_pos rfl).trans ?_
      simp (disch := omega) only [hk, hu, hI_n, hI_un, z_nat, em_d, zl, z_add, z_sub, z_mul, z_lt, z_eq, gI_mk, gJ_mk, cI_some, cV_some, cJ_some, cI_x, cV_x, cJ_x, uS_self, uS_ne, if_pos, if_neg, b01, b01n, ite_not, if_true, if_false, Bool.false_eq_true, hLL, rI_d]
      rfl
    | inr y =>
      rw [e1] at g2 head
      have hy : y.2 ≤ e := g2.1.2.2.2.1
      have hE := fun d => T_ends (X := X) (d := d) (w := w) (J := J) g2.1
      by_cases k : y.2 = e
      · rw [show clT e (.inr y) = .inr y from if_pos k]
        refine ⟨S1, fun d => head d _ ?_, g2, hF0⟩
        rw [cI_some]
        refine (if_neg (show ¬ zI 1 = nI 0 by decide)).trans ?_
        have hE := hE (d + 23)
        rw [if_neg (by omega)] at hE
        refine cI_go (r := zI 1) (st := mkS w (hI S1) J) hE ?_
        refine (if_neg (by decide)).trans ?_
        simp (disch := omega) only [hk, hu, hI_n, hI_un, z_nat, em_d, zl, z_add, z_sub, z_mul, z_lt, z_eq, gI_mk, gJ_mk, cI_some, cV_some, cJ_some, cI_x, cV_x, cJ_x, uS_self, uS_ne, if_pos, if_neg, b01, b01n, ite_not, if_true, if_false, Bool.false_eq_true, hLL, rI_d]
        rfl
      · rw [show clT e (.inr y) = .inl (1, (y.2 : Int)) from if_neg k]
        obtain ⟨S2, f1, f2, f3⟩ := T_failHere (X := X) w J g2.1 1
        refine ⟨S2, fun d => head d _ ?_, f2, FC_tr hF0 (FC_t f3) (Nat.le_refl _)⟩
        rw [cI_some]
        refine (if_neg (show ¬ zI 1 = nI 0 by decide)).trans ?_
        have hE := hE (d + 23)
        rw [if_pos (by omega)] at hE
        refine cI_go (r := zI 0) (st := mkS w (hI S1) J) hE ?_
        refine (if_pos (by decide)).trans ?_
        refine cI_go (r := zI 0) (st := mkS w (hI S2) J) ?_ ?_
        · simp only [gI_mk, gJ_mk, zl]
          exact f1 (d + 23)
        refine (if_pos (by decide)).trans ?_
        simp (disch := omega) only [hk, hu, hI_n, hI_un, z_nat, em_d, zl, z_add, z_sub, z_mul, z_lt, z_eq, gI_mk, gJ_mk, cI_some, cV_some, cJ_some, cI_x, cV_x, cJ_x, uS_self, uS_ne, if_pos, if_neg, b01, b01n, ite_not, if_true, if_false, Bool.false_eq_true, hLL, rI_d]
        rfl
  · obtain ⟨S1, g1, g2, g3⟩ := m_seqT hG e (sk B e 0) w J S p 0 (by omega) hM hs (by rw [h7]; rfl) h30 (Nat.zero_le _) h18 h19
    exact ⟨S1, g1, g2, g3⟩
end WK8
