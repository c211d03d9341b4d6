/-! THE WORK'S TEXT: the reference's steps in a row, and an again of the class -/
def clA (B : Nat → Int) (e : Nat) : WOut → WOut
  | .inl f => .inl f
  | .inr y => if y.2 < e ∧ B y.2 = 93 then .inr y else .inl (1, (y.2 : Int))
theorem clA_cat {B : Nat → Int} {e : Nat} (y : List Tk × Nat) : ∀ o : WOut, clA B e (wCat (.inr y) o) = wCat (.inr y) (clA B e o)
  | .inl _ => rfl
  | .inr z => by
    show (if z.2 < e ∧ B z.2 = 93 then (Sum.inr (y.1 ++ z.1, z.2) : WOut) else .inl (1, (z.2 : Int))) = wCat (.inr y) (if z.2 < e ∧ B z.2 = 93 then .inr z else .inl (1, (z.2 : Int)))
    by_cases k : z.2 < e ∧ B z.2 = 93
    · rw [if_pos k, if_pos k]
      rfl
    · rw [if_neg k, if_neg k]
      rfl
def agF (B : Nat → Int) (e : Nat) (m : Int) : WOut → WOut
  | .inl f => .inl f
  | .inr y => .inr (agn m y.1, sk B e (y.2 + 1))
/-- an again, its number at p -/
def oAgn (B : Nat → Int) (e : Nat) (G : Nat → WOut) (p : Nat) : WOut :=
  if numK B e p 0 60 = 0 then (if sk B e (numE B e p) < e ∧ B (sk B e (numE B e p)) = 91 then agF B e (numV B e p) (clA B e (sqW B e G e (sk B e (sk B e (numE B e p) + 1)))) else .inl (1, (sk B e (numE B e p) : Nat))) else .inl (numK B e p 0 60, (p : Int))
theorem wd_no {B : Nat → Int} {e q : Nat} (h : q < e → ¬ isL (B q) = true) : ∀ k, k ∈ [12, 13, 7, 14, 9, 15] → ¬ wd B e q = sx k := fun k hk9 z => by
  have h16 : k < 16 := by
    simp only [List.mem_cons, List.not_mem_nil, or_false] at hk9
    omega
  have h2 := (sx_ok k h16).2.2
  rw [← z, wd_stop B e q h] at h2
  exact absurd h2 (by decide)
section WK4
variable {X : Nat × (Nat → Int32)} {d : Nat} {w : Bool × Bool × Bool} {S : Hp} {J : Nat → Nat → Int64} {B : Nat → Int} {e p q i j r : Nat} {nc nr : Int} {bl : Bool} {G : Nat → WOut} {out : WOut}
theorem m_stp (h : MrS X B e nc nr r q out) : McS X B e nc nr 194 (2 * r + 7) r q (oSgn B e out) := fun w J S p j hM hs h7 h30 hj h18 h19 => by
  obtain ⟨S1, g1, g2, g3⟩ := h w J S p j hM hs h7 h30 hj h18 h19
  cases out with
  | inl f =>
    refine ⟨S1, fun d => ?_, g2, g3⟩
    rw [show d + (2 * r + 7) = (d + (2 * r + 6)) + 1 from rfl, go_X10_readStep]
    refine (g1 d 9999999).trans ?_
    rw [show 9999999 = 9999998 + 1 from rfl, e_X10_readStep_71]
    refine cV_go (st := mkS w (hI S1) J) ?_ ?_
    · simp only [gI_mk, gJ_mk, zl]
      exact M_signB (d := d + (2 * r + 4)) (c := 59) g2
    simp (disch := omega) only [hk, hu, hI_n, hI_un, z_nat, em_d, zl, z_add, z_sub, z_mul, z_lt, z_eq, gI_mk, gJ_mk, cI_some, cV_some, cJ_some, cI_x, cV_x, cJ_x, uS_self, uS_ne, if_pos, if_neg, b01, b01n, ite_not, if_true, if_false, Bool.false_eq_true, rV_d]
  | inr y =>
    obtain ⟨⟨p', f1, f2⟩, f3, f4, f5⟩ := g2
    by_cases k : y.2 < e ∧ B y.2 = 59
    · rw [show oSgn B e (.inr y) = .inr (y.1, sk B e (y.2 + 1)) from if_pos k]
      obtain ⟨S2, y1, y2, y3⟩ := M_sign1 (X := X) w J f1 (c := 59) (by decide) (by rw [f2]; exact k)
      refine ⟨S2, fun d => ?_, ⟨⟨_, y2, by rw [f2]⟩, MSt_m f3 y3, (y3.2 30 (by decide)).trans f4, (y3.2 7 (by decide)).trans f5⟩, FR_tr g3 (FR_m y3) (Nat.le_refl _)⟩
      rw [show d + (2 * r + 7) = (d + (2 * r + 6)) + 1 from rfl, go_X10_readStep]
      refine (g1 d 9999999).trans ?_
      rw [show 9999999 = 9999998 + 1 from rfl, e_X10_readStep_71]
      refine cV_go (st := mkS w (hI S2) J) ?_ ?_
      · simp only [gI_mk, gJ_mk, zl]
        exact y1 (d + (2 * r + 4))
      simp (disch := omega) only [hk, hu, hI_n, hI_un, z_nat, em_d, zl, z_add, z_sub, z_mul, z_lt, z_eq, gI_mk, gJ_mk, cI_some, cV_some, cJ_some, cI_x, cV_x, cJ_x, uS_self, uS_ne, if_pos, if_neg, b01, b01n, ite_not, if_true, if_false, Bool.false_eq_true, rV_d]
    · rw [show oSgn B e (.inr y) = .inl (1, (y.2 : Int)) from if_neg k]
      obtain ⟨S2, y1, y2, y3⟩ := M_sign0 (X := X) w J f1 (c := 59) (by decide) (by rw [f2]; exact k)
      rw [f2] at y2
      refine ⟨S2, fun d => ?_, y2, FR_tr g3 (FR_m y3) (Nat.le_refl _)⟩
      rw [show d + (2 * r + 7) = (d + (2 * r + 6)) + 1 from rfl, go_X10_readStep]
      refine (g1 d 9999999).trans ?_
      rw [show 9999999 = 9999998 + 1 from rfl, e_X10_readStep_71]
      refine cV_go (st := mkS w (hI S2) J) ?_ ?_
      · simp only [gI_mk, gJ_mk, zl]
        exact y1 (d + (2 * r + 4))
      simp (disch := omega) only [hk, hu, hI_n, hI_un, z_nat, em_d, zl, z_add, z_sub, z_mul, z_lt, z_eq, gI_mk, gJ_mk, cI_some, cV_some, cJ_some, cI_x, cV_x, cJ_x, uS_self, uS_ne, if_pos, if_neg, b01, b01n, ite_not, if_true, if_false, Bool.false_eq_true, rV_d]
/-- wrong: the loop is left -/
theorem m_loopB {k pl x2 : Int} {D f : Nat} (h : Bd S k pl) : aR X (D + 1) m_X10_readAgain (f + 1) 19 [some (.ref 132), none, some (.int (zI x2))] (0, 0) (mkS w (hI S) J) = aR X (D + 1) m_X10_readAgain f 29 [some (.ref 132), none, some (.int (zI x2))] (0, 0) (mkS w (hI S) J) := by
  rw [e_X10_readAgain_19]
  refine cI_go (r := zI 0) (st := mkS w (hI S) J) (M_fine0 h) ?_
  refine (if_pos (by decide)).trans ?_
  rfl
/-- where no step stands -/
theorem m_seqE (hqs : sk B e q = q) (hM : Mp S B e p) (hs : sk B e p = q) (h7 : S 132 7 = 6 - (r : Int)) (h30 : S 132 30 = ((3 * j : Nat) : Int)) (hj : 3 * j ≤ q) (h18 : S 132 18 = nr) (h19 : S 132 19 = nc) (hq : q = e) (w : Bool × Bool × Bool) (J : Nat → Nat → Int64) : ∃ S', (∀ d f x2, aR X (d + (2 * r + 7)) m_X10_readAgain (f + 2) 19 [some (.ref 132), none, some (.int (zI x2))] (0, 0) (mkS w (hI S) J) = aR X (d + (2 * r + 7)) m_X10_readAgain f 29 [some (.ref 132), none, some (.int (zI x2))] (0, 0) (mkS w (hI S') J)) ∧ Bd S' 1 (q : Int) ∧ FR j S S' := by
  obtain ⟨S1, g1, g2, g3⟩ := M_here (X := X) w J hM
  rw [hs] at g1 g2
  obtain ⟨S2, f1, f2, f3⟩ := m_stp (m_none (X := X) (nc := nc) (nr := nr) (r := r) (B := B) (e := e) (q := q) (by omega) hqs (wd_no (fun z => by omega))) w J S1 q j g2 hqs ((g3.2 7 (by decide)).trans h7) ((g3.2 30 (by decide)).trans h30) hj ((g3.2 18 (by decide)).trans h18) ((g3.2 19 (by decide)).trans h19)
  refine ⟨S2, fun d f x2 => ?_, f2, FR_tr (FR_m g3) f3 (Nat.le_refl _)⟩
  rw [show f + 2 = (f + 1) + 1 from rfl, e_X10_readAgain_19]
  refine cI_go (r := zI 1) (st := mkS w (hI S) J) (M_fine1 (d := d + (2 * r + 6)) hM) ?_
  refine (if_neg (by decide)).trans ?_
  refine cI_go (r := zI (bt0 B e q)) (st := mkS w (hI S1) J) (g1 (d + (2 * r + 6))) ?_
  refine (if_neg ?_).trans ?_
  · unfold bt0
    rw [if_neg (by omega)]
    decide
  refine cV_go (st := mkS w (hI S2) J) (f1 d) ?_
  exact m_loopB (D := d + (2 * r + 6)) f2
theorem m_seqA (hG : Gok X B e bl nc nr r G) : ∀ (n q : Nat) (w : Bool × Bool × Bool) (J : Nat → Nat → Int64) (S : Hp) (p j : Nat), e - q ≤ n → Mp S B e p → sk B e p = q → S 132 7 = 6 - (r : Int) → S 132 30 = ((3 * j : Nat) : Int) → 3 * j ≤ q → S 132 18 = nr → S 132 19 = nc → ∃ S', (∀ d f x2, ∃ f', aR X (d + (2 * r + 7)) m_X10_readAgain (f + n + 3) 19 [some (.ref 132), none, some (.int (zI x2))] (0, 0) (mkS w (hI S) J) = aR X (d + (2 * r + 7)) m_X10_readAgain (f' + 1) 29 [some (.ref 132), none, some (.int (zI x2))] (0, 0) (mkS w (hI S') J)) ∧ MF S' B e r j (clA B e (sqW B e G n q)) ∧ FR j S S' := by
  intro n
  induction n with
  | zero =>
    intro q w J S p j hn hM hs h7 h30 hj h18 h19
    have hq : q ≤ e := by rw [← hs]; exact sk_le hM.2.2.2.1
    have hqs : sk B e q = q := by rw [← hs]; exact sk_sk
    obtain ⟨S', g1, g2, g3⟩ := m_seqE hqs hM hs h7 h30 hj h18 h19 (by omega) w J
    refine ⟨S', fun d f x2 => ⟨f, g1 d (f + 1) x2⟩, ?_, g3⟩
    rw [sqW_stop (Or.inl (by omega))]
    rw [show clA B e (.inr ([], q)) = .inl (1, (q : Int)) from if_neg (fun z => by have := z.1; omega)]
    exact g2
  | succ n ih =>
    intro q w J S p j hn hM hs h7 h30 hj h18 h19
    have hq : q ≤ e := by rw [← hs]; exact sk_le hM.2.2.2.1
    have hqs : sk B e q = q := by rw [← hs]; exact sk_sk
    by_cases ke : q = e
    · obtain ⟨S', g1, g2, g3⟩ := m_seqE hqs hM hs h7 h30 hj h18 h19 ke w J
      refine ⟨S', fun d f x2 => ⟨f + n + 1, g1 d (f + n + 2) x2⟩, ?_, g3⟩
      rw [sqW_stop (Or.inl ke)]
      rw [show clA B e (.inr ([], q)) = .inl (1, (q : Int)) from if_neg (fun z => by have := z.1; omega)]
      exact g2
    · have hql : q < e := by omega
      obtain ⟨S1, g1, g2, g3⟩ := M_here (X := X) w J hM
      rw [hs] at g1 g2
      have b30 : S1 132 30 = ((3 * j : Nat) : Int) := (g3.2 30 (by decide)).trans h30
      have b7 : S1 132 7 = 6 - (r : Int) := (g3.2 7 (by decide)).trans h7
      by_cases kb : B q = 93
      · refine ⟨S1, fun d f x2 => ⟨f + n + 2, ?_⟩, ?_, FR_m g3⟩
        · rw [show f + (n + 1) + 3 = (f + n + 2 + 1) + 1 by omega, e_X10_readAgain_19]
          refine cI_go (r := zI 1) (st := mkS w (hI S) J) (M_fine1 (d := d + (2 * r + 6)) hM) ?_
          refine (if_neg (by decide)).trans ?_
          refine cI_go (r := zI (bt0 B e q)) (st := mkS w (hI S1) J) (g1 (d + (2 * r + 6))) ?_
          refine (if_pos ?_).trans ?_
          · rw [(bt0_c (by decide)).mpr ⟨hql, kb⟩]
            rfl
          rfl
        · rw [sqW_stop (Or.inr kb), show clA B e (.inr ([], q)) = .inr ([], q) from if_pos ⟨hql, kb⟩]
          exact ⟨⟨q, g2, hqs⟩, trivial, b30, b7⟩
      · rw [sqW_s, if_neg (fun z => z.elim ke kb)]
        obtain ⟨w1, -, w2⟩ := hG q hq hqs
        obtain ⟨S2, f1, f2, f3⟩ := m_stp w2 w J S1 q j g2 hqs b7 b30 hj ((g3.2 18 (by decide)).trans h18) ((g3.2 19 (by decide)).trans h19)
        obtain ⟨w3, w4⟩ := oSgn_wf w1
        have hbr : 0 ≤ bt0 B e q ∧ bt0 B e q < 256 := bt0_r g2.1 g2.2.2.1
        have head : ∀ (d f : Nat) (x2 : Int), aR X (d + (2 * r + 7)) m_X10_readAgain (f + (n + 1) + 3) 19 [some (.ref 132), none, some (.int (zI x2))] (0, 0) (mkS w (hI S) J) = aR X (d + (2 * r + 7)) m_X10_readAgain (f + n + 3) 19 [some (.ref 132), none, some (.int (zI x2))] (0, 0) (mkS w (hI S2) J) := fun d f x2 => by
          rw [show f + (n + 1) + 3 = (f + n + 3) + 1 by omega, e_X10_readAgain_19]
          refine cI_go (r := zI 1) (st := mkS w (hI S) J) (M_fine1 (d := d + (2 * r + 6)) hM) ?_
          refine (if_neg (by decide)).trans ?_
          refine cI_go (r := zI (bt0 B e q)) (st := mkS w (hI S1) J) (g1 (d + (2 * r + 6))) ?_
          refine (if_neg ?_).trans ?_
          · simp only [zl]
            rw [z_eq (by omega) (by omega) (by decide) (by decide)]
            exact fun z => kb ((bt0_c (by decide)).mp z).2
          refine cV_go (st := mkS w (hI S2) J) (f1 d) ?_
          rfl
        cases e1 : oSgn B e (G q) with
        | inl g =>
          rw [e1] at f2
          refine ⟨S2, fun d f x2 => ⟨f + n + 1, (head d f x2).trans ?_⟩, f2, FR_tr (FR_m g3) f3 (Nat.le_refl _)⟩
          exact m_loopB (D := d + (2 * r + 6)) (f := f + n + 2) f2
        | inr y =>
          rw [e1] at f2 w3
          obtain ⟨⟨p', a1, a2⟩, a3, a4, a5⟩ := f2
          obtain ⟨⟨v1, v2, v3, v4, v5⟩, v6⟩ := w3
          have w5 := w4 y e1
          obtain ⟨S3, z1, z2, z3⟩ := ih y.2 w J S2 p' (j + mL y.1) (by omega) a1 a2 a5 a4 (by omega) ((f3.2.1 18 (by decide)).trans ((g3.2 18 (by decide)).trans h18)) ((f3.2.1 19 (by decide)).trans ((g3.2 19 (by decide)).trans h19))
          refine ⟨S3, fun d f x2 => ?_, ?_, FR_tr (FR_m g3) (FR_tr f3 z3 (Nat.le_add_right ..)) (Nat.le_refl _)⟩
          · obtain ⟨f', hf'⟩ := z1 d f x2
            exact ⟨f', (head d f x2).trans hf'⟩
          · show MF S3 B e r j (clA B e (wCat (.inr y) (sqW B e G n y.2)))
            rw [clA_cat]
            exact MF_cat a3 z3 z2
/-- the class's steps in a row, as a call -/
theorem c_steps (he : e ≤ 150) (hG : Gok X B e bl nc nr r G) (hqs : sk B e q = q) : CcS X B e bl nc nr 69 (3 * r + 6) r q (sqW B e G e q) := fun w J S i hT h4 hi h7 h8 => by
  obtain ⟨S', g1, g2, g3⟩ := c_seq he hG e q 0 w J S i (by omega) hT hqs (Nat.zero_le _) h4 hi h7 h8
  refine ⟨S', fun d => ?_, g2, g3⟩
  rw [show d + (3 * r + 6) = (d + (3 * r + 5)) + 1 from rfl, go_X6_readSteps, e_X6_readSteps_0]
  have := g1 d (9999998 - e)
  rw [show 9999998 - e + e + 1 = 9999999 by omega] at this
  exact this
end WK4
