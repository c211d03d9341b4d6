/-! THE SOONEST WAYS: the reference -/
def unS (nT : Int) (Z : Nat) : Int := sumZ (fun t => if Z.testBit t.toNat = true then 0 else 1) nT.toNat
theorem testBit_or_pow (Z k i : Nat) : (Z ||| 2 ^ k).testBit i = (Z.testBit i || decide (k = i)) := by
  rw [Nat.testBit_or, Nat.testBit_two_pow]
theorem unS_r (Z : Nat) : ∀ n : Nat, 0 ≤ sumZ (fun t => if Z.testBit t.toNat = true then (0 : Int) else 1) n
  | 0 => Int.le_refl _
  | n + 1 => by
    have := unS_r Z n
    show 0 ≤ sumZ _ n + (if Z.testBit (n : Int).toNat = true then (0 : Int) else 1)
    split <;> omega
theorem unS_less (Z : Nat) {b : Int} (hb : 0 ≤ b) (hZ : Z.testBit b.toNat = false) : ∀ n : Nat, sumZ (fun t => if (Z ||| 2 ^ b.toNat).testBit t.toNat = true then (0 : Int) else 1) n = sumZ (fun t => if Z.testBit t.toNat = true then (0 : Int) else 1) n - (if b < n then 1 else 0)
  | 0 => by rw [if_neg (by omega)]; rfl
  | n + 1 => by
    have ih := unS_less Z hb hZ n
    show sumZ _ n + (if (Z ||| 2 ^ b.toNat).testBit (n : Int).toNat = true then (0 : Int) else 1) = (sumZ _ n + (if Z.testBit (n : Int).toNat = true then (0 : Int) else 1)) - _
    rw [ih, testBit_or_pow, Int.toNat_natCast]
    by_cases e : b.toNat = n
    · have e2 : Z.testBit n = false := by rw [← e]; exact hZ
      rw [e2]
      simp only [e, decide_true, Bool.or_true, if_true, Bool.false_eq_true, if_false]
      rw [if_neg (show ¬ b < (n : Int) by omega), if_pos (show b < ((n + 1 : Nat) : Int) by omega)]
      omega
    · simp only [e, decide_false, Bool.or_false]
      by_cases q : b < (n : Int)
      · rw [if_pos q, if_pos (show b < ((n + 1 : Nat) : Int) by omega)]
        omega
      · rw [if_neg q, if_neg (show ¬ b < ((n + 1 : Nat) : Int) by omega)]
        omega
/-- nobody is left: no nearest one -/
theorem near_none (nT : Int) (D : Int → Int) (Z : Nat) (hT : 0 ≤ nT) (h : unS nT Z = 0) : nearF nT D Z = -1 := by
  rcases nearF_r nT D Z hT with g | ⟨g1, g2, g3, -⟩
  · exact g
  · have h1 := unS_less Z g1 g3 nT.toNat
    rw [if_pos (by omega)] at h1
    have h2 := unS_r (Z ||| 2 ^ (nearF nT D Z).toNat) nT.toNat
    have h : sumZ (fun t => if Z.testBit t.toNat = true then (0 : Int) else 1) nT.toNat = 0 := h
    omega
/-- the reference's rows for it -/
def WM (S : Hp) (nT nR : Int) (pl D : Int → Int) (Z : Nat) : Prop := (∀ r, 0 ≤ r → r < nR → S 153 r = pl r) ∧ (∀ t, 0 ≤ t → t < 7 → S 154 t = D t) ∧ (∀ t, 0 ≤ t → t < nT → S 155 t = if Z.testBit t.toNat = true then 1 else 0)
section MWY
variable {X : Nat × (Nat → Int32)} {d : Nat} {w : Bool × Bool × Bool} {S : Hp} {J : Nat → Nat → Int64} {nT nR nC : Int} {rd s pl D : Int → Int} {cd : List (Int × Int)}
theorem m_laysPlain (hL : LdP S nT nR nC rd) (hc : CdP S cd) : ∃ S', am_call X aP (d + 6) 223 [.ref 132] (mkS w (hI S) J) = some (.inl none, (mkS w (hI S') J)) ∧ (∀ r, 0 ≤ r → r < nR → S' 153 r = plainZ cd rd r) ∧ Fr [153, 143, 144] S S' := by
  obtain ⟨-, -, -, -, -, -, a7, a8, a9, a10, a11⟩ := id hL
  rw [go_X10_laysPlain, e_X10_laysPlain_0, z_0]
  obtain ⟨T, ⟨v1, v2⟩, k1⟩ := loopE (fun n k T => aR X (d + 5) m_X10_laysPlain n 2 [some (.ref 132), some (.int (zI k))] (0, 0) (mkS w (hI T) J)) (fun k T => Fr [153, 143, 144] S T ∧ ∀ r, 0 ≤ r → r < k → T 153 r = plainZ cd rd r) nR 1 (fun k T q1 q2 q3 => by
    obtain ⟨q3, q4⟩ := q3
    obtain ⟨T1, h1, h2⟩ := m_plainOf (X := X) (d := d) (w := w) (J := J) (LdP_fr hL q3 (by decide) (by decide)) (CdP_fr hc q3 (by decide) (by decide) (by decide)) (r := k) ⟨q1, q2⟩
    have t7 : T 132 18 = nR := by rw [q3 132 (by decide)]; exact hL.2.1
    refine ⟨uS T1 153 k (plainZ cd rd k), ⟨Fr_tr q3 (Fr_tr h2 (Fr_u T1 (L := [153]) _ _ (by decide)) (L := [153, 143, 144]) (by decide) (by decide)) (fun _ z => z) (fun _ z => z), fun r r1 r2 => ?_⟩, fun n hn => ?_⟩
    · by_cases e : r = k
      · rw [e, uS_self]
      · rw [uS_ne _ _ (Or.inr e), h2 153 (by decide)]
        exact q4 r r1 (by omega)
    · obtain ⟨n, rfl⟩ : ∃ n', n = n' + 1 := ⟨n - 1, by omega⟩
      refine ⟨n, by omega, ?_⟩
      show aR X (d + 5) m_X10_laysPlain (n + 1) 2 [some (.ref 132), some (.int (zI k))] (0, 0) (mkS w (hI T) J) = aR X (d + 5) m_X10_laysPlain n 2 [some (.ref 132), some (.int (zI ((k + 1))))] (0, 0) (mkS w (hI (uS T1 153 k (plainZ cd rd k))) J)
      rw [e_X10_laysPlain_2]
      simp (disch := omega) only [hk, hu, hI_n, hI_un, z_nat, em_d, zl, z_add, z_sub, z_mul, z_lt, z_eq, gI_mk, gJ_mk, cI_some, cV_some, cJ_some, cI_x, cV_x, cJ_x, uS_self, uS_ne, if_pos, if_neg, b01, b01n, ite_not, if_true, if_false, t7]
      rw [h1]
      simp (disch := omega) only [hk, hu, hI_n, hI_un, z_nat, em_d, zl, z_add, z_sub, z_mul, z_lt, z_eq, gI_mk, gJ_mk, cI_some, cV_some, cJ_some, cI_x, cV_x, cJ_x, uS_self, uS_ne, if_pos, if_neg, b01, b01n, ite_not, if_true, if_false]) nR.toNat 0 S (by omega) (by omega) ⟨Fr_rf _ _, fun r _ _ => by omega⟩
  obtain ⟨n1, k2, k3⟩ := k1 9999999 (by omega)
  obtain ⟨n1, rfl⟩ : ∃ n', n1 = n' + 1 := ⟨n1 - 1, by omega⟩
  have t7 : T 132 18 = nR := by rw [v1 132 (by decide)]; exact hL.2.1
  refine ⟨T, ?_, v2, v1⟩
  rw [k3]
  show aR X (d + 5) m_X10_laysPlain (n1 + 1) 2 [some (.ref 132), some (.int (zI nR))] (0, 0) (mkS w (hI T) J) = _
  rw [e_X10_laysPlain_2]
  simp (disch := omega) only [hk, hu, hI_n, hI_un, z_nat, em_d, zl, z_add, z_sub, z_mul, z_lt, z_eq, gI_mk, gJ_mk, cI_some, cV_some, cJ_some, cI_x, cV_x, cJ_x, uS_self, uS_ne, if_pos, if_neg, b01, b01n, ite_not, if_true, if_false, t7, rV_d]
theorem m_takenOf (hL : LdP S nT nR nC rd) (hs : ScP nR nC S s) (hoff : ∀ r, 0 ≤ r → r < nR → 0 ≤ s r ∧ s r < 7) (hpl : ∀ r, 0 ≤ r → r < nR → S 153 r = pl r) (hP : PL nR pl) {r h m : Int} (hr : 0 ≤ r ∧ r < nR) (hh : 0 ≤ h ∧ h ≤ 7000) (hm : 0 ≤ m ∧ m ≤ 999) : am_call X aP (d + 3) 224 [.ref 132, .int (zI r), .int (zI h), .int (zI m)] (mkS w (hI S) J) = some (.inl (some (.int (zI (tkM (rd (4 * r + 2)) (pl r) (s r) h m.toNat)))), (mkS w (hI S) J)) := by
  obtain ⟨a1, a2, a3, a4, a5, a6, a7, a8, a9, a10, a11⟩ := id hL
  have e1 := a4 (4 * r + 2) (by omega) (by omega)
  obtain ⟨-, -, -, -, l1, l2⟩ := a11 r hr.1 hr.2
  have ep := hpl r hr.1 hr.2
  have hp := hP r hr.1 hr.2
  have ho := hoff r hr.1 hr.2
  rw [go_X10_takenOf, e_X10_takenOf_0, z_0, z_1]
  by_cases q : 0 < pl r
  · have key : ∀ (j : Nat) (n : Nat) (f : Nat), (n : Int) + j = m → j + 1 ≤ f → aR X (d + 2) m_X10_takenOf f 4 [some (.ref 132), some (.int (zI r)), some (.int (zI h)), some (.int (zI m)), some (.int (zI ((pl r * wk (s r) h n)))), some (.int (zI ((n + 1))))] (0, 0) (mkS w (hI S) J) = some (.inl (some (.int (zI (srch (fun n => decide (rd (4 * r + 2) ≤ pl r * wk (s r) h n.toNat)) j (n + 1))))), (mkS w (hI S) J)) := by
      intro j
      induction j with
      | zero =>
        intro n f hn hf
        obtain ⟨f, rfl⟩ : ∃ f', f = f' + 1 := ⟨f - 1, by omega⟩
        rw [e_X10_takenOf_4]
        have e0 : srch (fun n => decide (rd (4 * r + 2) ≤ pl r * wk (s r) h n.toNat)) 0 ((n : Int) + 1) = -1 := rfl
        rw [e0]
        simp (disch := omega) only [hk, hu, hI_n, hI_un, z_nat, em_d, zl, z_add, z_sub, z_mul, z_lt, z_eq, gI_mk, gJ_mk, cI_some, cV_some, cJ_some, cI_x, cV_x, cJ_x, uS_self, uS_ne, if_pos, if_neg, b01, b01n, ite_not, if_true, if_false, rI_d]
      | succ j ih =>
        intro n f hn hf
        obtain ⟨f, rfl⟩ : ∃ f', f = f' + 1 := ⟨f - 1, by omega⟩
        have ih := ih (n + 1) f (by omega) (by omega)
        rw [show ((n + 1 : Nat) : Int) = (n : Int) + 1 by omega, wk_succ] at ih
        have hw : 0 ≤ wk (s r) h n ∧ wk (s r) h n ≤ n := by
          have := sumZ_r (f := fun k => if s r = dayOf (h + k) then (0 : Int) else 1) (a := 0) (b := 1) n (fun k _ _ => by show 0 ≤ (if s r = dayOf (h + k) then (0 : Int) else 1) ∧ (if s r = dayOf (h + k) then (0 : Int) else 1) ≤ 1; split <;> omega)
          have h0 : (n : Int) * 0 = 0 := Int.mul_zero _
          have h1 : (n : Int) * 1 = n := Int.mul_one _
          show 0 ≤ sumZ _ n ∧ sumZ _ n ≤ n
          omega
        have hw2 : 0 ≤ pl r * wk (s r) h n ∧ pl r * wk (s r) h n ≤ 9 * 1000 := ⟨Int.mul_nonneg (by omega) hw.1, Int.mul_le_mul (by omega) (by omega) hw.1 (by decide)⟩
        have es : srch (fun n => decide (rd (4 * r + 2) ≤ pl r * wk (s r) h n.toNat)) (j + 1) ((n : Int) + 1) = if rd (4 * r + 2) ≤ pl r * (wk (s r) h n + (if s r = dayOf (h + n) then 0 else 1)) then (n : Int) + 1 else srch (fun n => decide (rd (4 * r + 2) ≤ pl r * wk (s r) h n.toNat)) j ((n : Int) + 1 + 1) := by
          show (if decide (rd (4 * r + 2) ≤ pl r * wk (s r) h ((n : Int) + 1).toNat) = true then (n : Int) + 1 else _) = _
          rw [show ((n : Int) + 1).toNat = n + 1 by omega, wk_succ]
          simp only [decide_eq_true_eq]
        have eh : h + ((n : Int) + 1) - 1 = h + n := by omega
        rw [es, e_X10_takenOf_4]
        simp (disch := omega) only [hk, hu, hI_n, hI_un, z_nat, em_d, zl, z_add, z_sub, z_mul, z_lt, z_eq, gI_mk, gJ_mk, cI_some, cV_some, cJ_some, cI_x, cV_x, cJ_x, uS_self, uS_ne, if_pos, if_neg, b01, b01n, ite_not, if_true, if_false, ep, eh]
        rw [m_rests a8 hs hr ho (by omega)]
        by_cases q2 : s r = dayOf (h + n)
        · simp only [if_pos q2, Int.add_zero] at ih ⊢
          by_cases q3 : rd (4 * r + 2) ≤ pl r * wk (s r) h n
          · simp (disch := omega) only [hk, hu, hI_n, hI_un, z_nat, em_d, zl, z_add, z_sub, z_mul, z_lt, z_eq, gI_mk, gJ_mk, cI_some, cV_some, cJ_some, cI_x, cV_x, cJ_x, uS_self, uS_ne, if_pos, if_neg, b01, b01n, ite_not, if_true, if_false, e1, Int.add_zero, rI_d]
          · rw [if_neg q3]
            simp (disch := omega) only [hk, hu, hI_n, hI_un, z_nat, em_d, zl, z_add, z_sub, z_mul, z_lt, z_eq, gI_mk, gJ_mk, cI_some, cV_some, cJ_some, cI_x, cV_x, cJ_x, uS_self, uS_ne, if_pos, if_neg, b01, b01n, ite_not, if_true, if_false, e1, Int.add_zero]
            exact ih
        · simp only [if_neg q2, Int.mul_add, Int.mul_one] at ih ⊢
          by_cases q3 : rd (4 * r + 2) ≤ pl r * wk (s r) h n + pl r
          · simp (disch := omega) only [hk, hu, hI_n, hI_un, z_nat, em_d, zl, z_add, z_sub, z_mul, z_lt, z_eq, gI_mk, gJ_mk, cI_some, cV_some, cJ_some, cI_x, cV_x, cJ_x, uS_self, uS_ne, if_pos, if_neg, b01, b01n, ite_not, if_true, if_false, e1, ep, rI_d]
          · rw [if_neg q3]
            simp (disch := omega) only [hk, hu, hI_n, hI_un, z_nat, em_d, zl, z_add, z_sub, z_mul, z_lt, z_eq, gI_mk, gJ_mk, cI_some, cV_some, cJ_some, cI_x, cV_x, cJ_x, uS_self, uS_ne, if_pos, if_neg, b01, b01n, ite_not, if_true, if_false, e1, ep]
            exact ih
    have := key m.toNat 0 9999999 (by omega) (by omega)
    have e0 : wk (s r) h 0 = 0 := rfl
    rw [e0, Int.mul_zero] at this
    unfold tkM
    rw [if_pos q]
    exact this
  · have e0 : tkM (rd (4 * r + 2)) (pl r) (s r) h m.toNat = -1 := by
      unfold tkM
      rw [if_neg q]
    rw [e0, show 9999999 = 9999998 + 1 from rfl, e_X10_takenOf_4]
    by_cases q2 : m < 1
    · simp (disch := omega) only [hk, hu, hI_n, hI_un, z_nat, em_d, zl, z_add, z_sub, z_mul, z_lt, z_eq, gI_mk, gJ_mk, cI_some, cV_some, cJ_some, cI_x, cV_x, cJ_x, uS_self, uS_ne, if_pos, if_neg, b01, b01n, ite_not, if_true, if_false, rI_d]
    · simp (disch := omega) only [hk, hu, hI_n, hI_un, z_nat, em_d, zl, z_add, z_sub, z_mul, z_lt, z_eq, gI_mk, gJ_mk, cI_some, cV_some, cJ_some, cI_x, cV_x, cJ_x, uS_self, uS_ne, if_pos, if_neg, b01, b01n, ite_not, if_true, if_false, ep, rI_d]
end MWY
