/-! THE SOONEST WAYS: what is asked; the class -/
/-- behind how many hours one is across who takes road r as soon as he can be at t -/
def byF (rd s pl : Int → Int) (h : Int) (D : Int → Int) (r t : Int) : Int := if D t = -1 then -1 else if tk (rd (4 * r + 2)) (pl r) (s r) (h + D t) = -1 ∨ 999 < D t + tk (rd (4 * r + 2)) (pl r) (s r) (h + D t) then -1 else D t + tk (rd (4 * r + 2)) (pl r) (s r) (h + D t)
def relaxF (rd s pl : Int → Int) (h t : Int) (r : Int) (D : Int → Int) : Int → Int := if goesF rd r t ∧ ¬ byF rd s pl h D r t = -1 ∧ (D (othF rd r t) = -1 ∨ byF rd s pl h D r t < D (othF rd r t)) then pu D (othF rd r t) (byF rd s pl h D r t) else D
def leaveF (rd s pl : Int → Int) (nR h t : Int) (D : Int → Int) : Int → Int := fold (relaxF rd s pl h t) nR.toNat 0 D
def nearG (D : Int → Int) (Z : Nat) (t b : Int) : Int := if Z.testBit t.toNat = false ∧ ¬ D t = -1 ∧ (b = -1 ∨ D t < D b) then t else b
def nearF (nT : Int) (D : Int → Int) (Z : Nat) : Int := fold (nearG D Z) nT.toNat 0 (-1)
def dijN (rd s pl : Int → Int) (nT nR h : Int) : Nat → (Int → Int) → Nat → (Int → Int)
  | 0, D, _ => D
  | j + 1, D, Z => if nearF nT D Z = -1 then D else dijN rd s pl nT nR h j (leaveF rd s pl nR h (nearF nT D Z) D) (Z ||| 2 ^ (nearF nT D Z).toNat)
def D0 (t : Int) : Int → Int := pu (fun _ => -1) t 0
def soonF (rd s pl : Int → Int) (nT nR t h : Int) : Int → Int := dijN rd s pl nT nR h nT.toNat (D0 t) 0
/-- hours: none, or 0 to 999 -/
def DR (D : Int → Int) : Prop := ∀ t, -1 ≤ D t ∧ D t ≤ 999
theorem byF_r (rd s pl : Int → Int) (h : Int) {D : Int → Int} (hD : DR D) (r t : Int) : -1 ≤ byF rd s pl h D r t ∧ byF rd s pl h D r t ≤ 999 ∧ (byF rd s pl h D r t = -1 ∨ (¬ D t = -1 ∧ D t < byF rd s pl h D r t)) := by
  have := hD t
  rcases tkM_r (rd (4 * r + 2)) (pl r) (s r) (h + D t) 999 with g | ⟨g1, g2⟩
  · have g : tk (rd (4 * r + 2)) (pl r) (s r) (h + D t) = -1 := g
    unfold byF
    by_cases q : D t = -1
    · rw [if_pos q]; omega
    · rw [if_neg q, if_pos (Or.inl g)]; omega
  · have g1 : 1 ≤ tk (rd (4 * r + 2)) (pl r) (s r) (h + D t) := g1
    unfold byF
    by_cases q : D t = -1
    · rw [if_pos q]; omega
    · rw [if_neg q]
      split
      · omega
      · omega
theorem relaxF_DR {rd s pl : Int → Int} {h t r : Int} {D : Int → Int} (hD : DR D) : DR (relaxF rd s pl h t r D) := fun x => by
  unfold relaxF
  split
  · have := byF_r rd s pl h hD r t
    by_cases e : x = othF rd r t
    · rw [e, pu_s]; omega
    · rw [pu_o _ e]; exact hD x
  · exact hD x
theorem leaveF_DR {rd s pl : Int → Int} {nR h t : Int} {D : Int → Int} (hR : 0 ≤ nR) (hD : DR D) : DR (leaveF rd s pl nR h t D) := fold_V (relaxF rd s pl h t) (fun _ D => DR D) nR (fun k a _ _ h3 => relaxF_DR h3) nR.toNat 0 D (by omega) (by omega) hD
theorem D0_DR (t : Int) : DR (D0 t) := fun x => by
  unfold D0
  by_cases e : x = t
  · rw [e, pu_s]; omega
  · rw [pu_o _ e]; omega
theorem nearF_r (nT : Int) (D : Int → Int) (Z : Nat) (hT : 0 ≤ nT) : nearF nT D Z = -1 ∨ (0 ≤ nearF nT D Z ∧ nearF nT D Z < nT ∧ Z.testBit (nearF nT D Z).toNat = false ∧ ¬ D (nearF nT D Z) = -1) := by
  have := fold_V (nearG D Z) (fun k b => b = -1 ∨ (0 ≤ b ∧ b < k ∧ Z.testBit b.toNat = false ∧ ¬ D b = -1)) nT (fun k b h1 h2 h3 => by
    show nearG D Z k b = -1 ∨ (0 ≤ nearG D Z k b ∧ nearG D Z k b < k + 1 ∧ Z.testBit (nearG D Z k b).toNat = false ∧ ¬ D (nearG D Z k b) = -1)
    unfold nearG
    by_cases q : Z.testBit k.toNat = false ∧ ¬ D k = -1 ∧ (b = -1 ∨ D k < D b)
    · rw [if_pos q]
      exact Or.inr ⟨h1, by omega, q.1, q.2.1⟩
    · rw [if_neg q]
      rcases h3 with h3 | ⟨g1, g2, g3, g4⟩
      · exact Or.inl h3
      · exact Or.inr ⟨g1, by omega, g3, g4⟩) nT.toNat 0 (-1) (by omega) (by omega) (Or.inl rfl)
  exact this
/-- the class's rows for it -/
def WP (S : Hp) (nR : Int) (pl D : Int → Int) : Prop := (∀ r, 0 ≤ r → r < nR → S 98 r = pl r) ∧ (∀ t, 0 ≤ t → t < 7 → S 99 t = D t)
/-- speeds -/
def PL (nR : Int) (pl : Int → Int) : Prop := ∀ r, 0 ≤ r → r < nR → 0 ≤ pl r ∧ pl r ≤ 9
section CWY
variable {X : Nat × (Nat → Int32)} {d : Nat} {w : Bool × Bool × Bool} {S : Hp} {J : Nat → Nat → Int64} {nT nR nC : Int} {rd s pl D : Int → Int} {cd : List (Int × Int)} {bl bs bw : Bool}
theorem c_measure (hL : CL S (iL bl) nT nR nC rd) (hc : CW S (iW bw) cd) : ∃ S', am_call X aP (d + 4) 95 [.ref 97, .ref ((iL bl)), .ref ((iW bw))] (mkS w (hI S) J) = some (.inl none, (mkS w (hI S') J)) ∧ (∀ r, 0 ≤ r → r < nR → S' 98 r = plainZ cd rd r) ∧ Fr [98, iW bw + 3, iW bw + 4] S S' := by
  have hw := iW_c bw
  have hl := iL_c bl
  obtain ⟨-, -, -, -, -, -, a7, a8, a9, a10, a11⟩ := id hL
  rw [go_X8_measure, e_X8_measure_0, z_0]
  obtain ⟨T, ⟨v1, v2⟩, k1⟩ := loopE (fun n k T => aR X (d + 3) m_X8_measure n 2 [some (.ref 97), some (.ref ((iL bl))), some (.ref ((iW bw))), some (.int (zI k))] (0, 0) (mkS w (hI T) J)) (fun k T => Fr [98, iW bw + 3, iW bw + 4] S T ∧ ∀ r, 0 ≤ r → r < k → T 98 r = plainZ cd rd r) nR 1 (fun k T q1 q2 q3 => by
    obtain ⟨q3, q4⟩ := q3
    have hL1 : CL T (iL bl) nT nR nC rd := CL_fr hL q3 (fun i hi => by simp; omega)
    have hc1 : CW T (iW bw) cd := CW_fr hc q3 (fun i hi => by simp; omega)
    obtain ⟨T1, h1, h2⟩ := c_plain (X := X) (d := d) (w := w) (J := J) hL1 hc1 (r := k) ⟨q1, q2⟩
    have t7 := hL1.2.1
    refine ⟨uS T1 98 k (plainZ cd rd k), ⟨Fr_tr q3 (Fr_tr h2 (Fr_u T1 (L := [98]) _ _ (by decide)) (L := [98, iW bw + 3, iW bw + 4]) (by simp) (by simp)) (fun _ z => z) (fun _ z => z), fun r r1 r2 => ?_⟩, fun n hn => ?_⟩
    · by_cases e : r = k
      · rw [e, uS_self]
      · rw [uS_ne _ _ (Or.inr e), h2 98 (by simp; omega)]
        exact q4 r r1 (by omega)
    · obtain ⟨n, rfl⟩ : ∃ n', n = n' + 1 := ⟨n - 1, by omega⟩
      refine ⟨n, by omega, ?_⟩
      show aR X (d + 3) m_X8_measure (n + 1) 2 [some (.ref 97), some (.ref ((iL bl))), some (.ref ((iW bw))), some (.int (zI k))] (0, 0) (mkS w (hI T) J) = aR X (d + 3) m_X8_measure n 2 [some (.ref 97), some (.ref ((iL bl))), some (.ref ((iW bw))), some (.int (zI ((k + 1))))] (0, 0) (mkS w (hI (uS T1 98 k (plainZ cd rd k))) J)
      rw [e_X8_measure_2]
      simp (disch := omega) only [hk, hu, hI_n, hI_un, z_nat, em_d, zl, z_add, z_sub, z_mul, z_lt, z_eq, gI_mk, gJ_mk, cI_some, cV_some, cJ_some, cI_x, cV_x, cJ_x, uS_self, uS_ne, if_pos, if_neg, b01, b01n, ite_not, if_true, if_false, hLL, t7]
      rw [h1]
      simp (disch := omega) only [hk, hu, hI_n, hI_un, z_nat, em_d, zl, z_add, z_sub, z_mul, z_lt, z_eq, gI_mk, gJ_mk, cI_some, cV_some, cJ_some, cI_x, cV_x, cJ_x, uS_self, uS_ne, if_pos, if_neg, b01, b01n, ite_not, if_true, if_false, hLL]) nR.toNat 0 S (by omega) (by omega) ⟨Fr_rf _ _, fun r _ _ => by omega⟩
  obtain ⟨n1, k2, k3⟩ := k1 9999999 (by omega)
  obtain ⟨n1, rfl⟩ : ∃ n', n1 = n' + 1 := ⟨n1 - 1, by omega⟩
  have t7 : T (iL bl) 7 = nR := by rw [v1 (iL bl) (by simp; omega)]; exact hL.2.1
  refine ⟨T, ?_, v2, v1⟩
  rw [k3]
  show aR X (d + 3) m_X8_measure (n1 + 1) 2 [some (.ref 97), some (.ref ((iL bl))), some (.ref ((iW bw))), some (.int (zI nR))] (0, 0) (mkS w (hI T) J) = _
  rw [e_X8_measure_2]
  simp (disch := omega) only [hk, hu, hI_n, hI_un, z_nat, em_d, zl, z_add, z_sub, z_mul, z_lt, z_eq, gI_mk, gJ_mk, cI_some, cV_some, cJ_some, cI_x, cV_x, cJ_x, uS_self, uS_ne, if_pos, if_neg, b01, b01n, ite_not, if_true, if_false, hLL, t7, rV_d]
theorem c_by (hL : CL S (iL bl) nT nR nC rd) (hE : Ends nT nR rd) (hs : CS nR nC S (iS bs) s) (hoff : ∀ r, 0 ≤ r → r < nR → 0 ≤ s r ∧ s r < 7) (hW : WP S nR pl D) (hP : PL nR pl) (hD : DR D) {r t h : Int} (hr : 0 ≤ r ∧ r < nR) (ht : 0 ≤ t ∧ t < 7) (hh : 0 ≤ h ∧ h ≤ 6000) : am_call X aP (d + 2) 99 [.ref 97, .ref ((iL bl)), .ref ((iS bs)), .int (zI r), .int (zI t), .int (zI h)] (mkS w (hI S) J) = some (.inl (some (.int (zI (byF rd s pl h D r t)))), (mkS w (hI S) J)) := by
  obtain ⟨a1, a2, a3, a4, a5, a6, a7, a8, a9, a10, a11⟩ := hL
  obtain ⟨-, -, e3⟩ := a4 r hr.1 hr.2
  obtain ⟨-, -, -, -, -, l2⟩ := a11 r hr.1 hr.2
  obtain ⟨-, -, -, -, -, l1⟩ := hE r hr.1 hr.2
  obtain ⟨e1, -⟩ := hs.1 r hr.1 hr.2
  have e4 := hW.1 r hr.1 hr.2
  have e5 := hW.2 t ht.1 ht.2
  have hp := hP r hr.1 hr.2
  have ho := hoff r hr.1 hr.2
  have hd := hD t
  rw [go_X8_by, e_X8_by_0]
  unfold byF
  by_cases q : D t = -1
  · simp (disch := omega) only [hk, hu, hI_n, hI_un, z_nat, em_d, zl, z_add, z_sub, z_mul, z_lt, z_eq, gI_mk, gJ_mk, cI_some, cV_some, cJ_some, cI_x, cV_x, cJ_x, uS_self, uS_ne, if_pos, if_neg, b01, b01n, ite_not, if_true, if_false, hLL, e5, q, rI_d]
  · have hx : tk (rd (4 * r + 2)) (pl r) (s r) (h + D t) = -1 ∨ (1 ≤ tk (rd (4 * r + 2)) (pl r) (s r) (h + D t) ∧ tk (rd (4 * r + 2)) (pl r) (s r) (h + D t) ≤ 999) := by
      have := tkM_r (rd (4 * r + 2)) (pl r) (s r) (h + D t) 999
      exact this
    have ht := fun d => c_taken (X := X) (d := d) (w := w) (S := S) (J := J) (L := rd (4 * r + 2)) (p := pl r) (off := s r) (h := h + D t) ⟨l1, l2⟩ hp ho (by omega)
    generalize tk (rd (4 * r + 2)) (pl r) (s r) (h + D t) = x at hx ht
    rw [if_neg q]
    simp (disch := omega) only [hk, hu, hI_n, hI_un, z_nat, em_d, zl, z_add, z_sub, z_mul, z_lt, z_eq, gI_mk, gJ_mk, cI_some, cV_some, cJ_some, cI_x, cV_x, cJ_x, uS_self, uS_ne, if_pos, if_neg, b01, b01n, ite_not, if_true, if_false, hLL, e1, e3, e4, e5]
    rw [ht]
    by_cases q2 : x = -1
    · rw [if_pos (show x = -1 ∨ 999 < D t + x from Or.inl q2)]
      simp (disch := omega) only [hk, hu, hI_n, hI_un, z_nat, em_d, zl, z_add, z_sub, z_mul, z_lt, z_eq, gI_mk, gJ_mk, cI_some, cV_some, cJ_some, cI_x, cV_x, cJ_x, uS_self, uS_ne, if_pos, if_neg, b01, b01n, ite_not, if_true, if_false, hLL, e5, rI_d]
    · by_cases q3 : 999 < D t + x
      · rw [if_pos (show x = -1 ∨ 999 < D t + x from Or.inr q3)]
        simp (disch := omega) only [hk, hu, hI_n, hI_un, z_nat, em_d, zl, z_add, z_sub, z_mul, z_lt, z_eq, gI_mk, gJ_mk, cI_some, cV_some, cJ_some, cI_x, cV_x, cJ_x, uS_self, uS_ne, if_pos, if_neg, b01, b01n, ite_not, if_true, if_false, hLL, e5, rI_d]
      · rw [if_neg (show ¬ (x = -1 ∨ 999 < D t + x) by omega)]
        simp (disch := omega) only [hk, hu, hI_n, hI_un, z_nat, em_d, zl, z_add, z_sub, z_mul, z_lt, z_eq, gI_mk, gJ_mk, cI_some, cV_some, cJ_some, cI_x, cV_x, cJ_x, uS_self, uS_ne, if_pos, if_neg, b01, b01n, ite_not, if_true, if_false, hLL, e5, rI_d]
theorem WP_u (hW : WP S nR pl D) {t v : Int} : WP (uS S 99 t v) nR pl (pu D t v) := by
  refine ⟨fun r r1 r2 => ?_, fun x x1 x2 => ?_⟩
  · rw [uS_ne _ _ (Or.inl (by decide))]
    exact hW.1 r r1 r2
  · by_cases e : x = t
    · rw [e, uS_self, pu_s]
    · rw [uS_ne _ _ (Or.inr e), pu_o _ e]
      exact hW.2 x x1 x2
theorem c_leave (hL : CL S (iL bl) nT nR nC rd) (hE : Ends nT nR rd) (hs : CS nR nC S (iS bs) s) (hoff : ∀ r, 0 ≤ r → r < nR → 0 ≤ s r ∧ s r < 7) (hW : WP S nR pl D) (hP : PL nR pl) (hD : DR D) {t h : Int} (ht : 0 ≤ t ∧ t < 7) (hh : 0 ≤ h ∧ h ≤ 6000) : ∃ S', am_call X aP (d + 3) 98 [.ref 97, .ref ((iL bl)), .ref ((iS bs)), .int (zI t), .int (zI h)] (mkS w (hI S) J) = some (.inl none, (mkS w (hI S') J)) ∧ WP S' nR pl (leaveF rd s pl nR h t D) ∧ Fr [99] S S' := by
  have hl := iL_c bl
  have hsb := iS_c bs
  obtain ⟨-, -, -, -, -, -, a7, a8, a9, a10, a11⟩ := id hL
  rw [go_X8_leave, e_X8_leave_0, z_0]
  obtain ⟨T, ⟨v1, v2⟩, k1⟩ := loopE (fun n k T => aR X (d + 2) m_X8_leave n 2 [some (.ref 97), some (.ref ((iL bl))), some (.ref ((iS bs))), some (.int (zI t)), some (.int (zI h)), some (.int (zI k)), none, none] (0, 0) (mkS w (hI T) J)) (fun k T => Fr [99] S T ∧ WP T nR pl (fold (relaxF rd s pl h t) k.toNat 0 D)) nR 2 (fun k T q1 q2 q3 => by
    obtain ⟨q3, q4⟩ := q3
    have hL1 : CL T (iL bl) nT nR nC rd := CL_fr hL q3 (fun i hi => by simp; omega)
    have hs1 : CS nR nC T (iS bs) s := CS_fr hs q3 (fun i hi => by simp; omega)
    have hDk : DR (fold (relaxF rd s pl h t) k.toNat 0 D) := fold_V (relaxF rd s pl h t) (fun _ D => DR D) k (fun k a _ _ h3 => relaxF_DR h3) k.toNat 0 D (by omega) (by omega) hD
    have ek : fold (relaxF rd s pl h t) (k + 1).toNat 0 D = relaxF rd s pl h t k (fold (relaxF rd s pl h t) k.toNat 0 D) := by
      rw [show (k + 1).toNat = k.toNat + 1 by omega, fold_succ, show (0 : Int) + (k.toNat : Int) = k by omega]
    generalize fold (relaxF rd s pl h t) k.toNat 0 D = E at q4 hDk ek
    have t7 := hL1.2.1
    have hb := byF_r rd s pl h hDk k t
    have hby := fun d => c_by (X := X) (d := d) (w := w) (J := J) hL1 hE hs1 hoff q4 hP hDk ⟨q1, q2⟩ ht hh
    have hac := fun d => c_across (X := X) (d := d) (w := w) (J := J) hL1 (r := k) (t := t) ⟨q1, q2⟩ (by omega)
    have hto := fun d => c_touches (X := X) (d := d) (w := w) (J := J) hL1 (r := k) (t := t) ⟨q1, q2⟩ (by omega)
    have ho := othF_r a11 (t := t) ⟨q1, q2⟩
    have e99 := q4.2 _ ho.1 ho.2
    have hdo := hDk (othF rd k t)
    by_cases p : goesF rd k t ∧ ¬ byF rd s pl h E k t = -1 ∧ (E (othF rd k t) = -1 ∨ byF rd s pl h E k t < E (othF rd k t))
    · have er : relaxF rd s pl h t k E = pu E (othF rd k t) (byF rd s pl h E k t) := by
        unfold relaxF
        rw [if_pos p]
      refine ⟨uS T 99 (othF rd k t) (byF rd s pl h E k t), ⟨Fr_tr q3 (Fr_u T (L := [99]) _ _ (by decide)) (fun _ z => z) (fun _ z => z), by rw [ek, er]; exact WP_u q4⟩, fun n hn => ?_⟩
      obtain ⟨n, rfl⟩ : ∃ n', n = n' + 1 + 1 := ⟨n - 2, by omega⟩
      refine ⟨n, by omega, ?_⟩
      show aR X (d + 2) m_X8_leave (n + 1 + 1) 2 [some (.ref 97), some (.ref ((iL bl))), some (.ref ((iS bs))), some (.int (zI t)), some (.int (zI h)), some (.int (zI k)), none, none] (0, 0) (mkS w (hI T) J) = aR X (d + 2) m_X8_leave n 2 [some (.ref 97), some (.ref ((iL bl))), some (.ref ((iS bs))), some (.int (zI t)), some (.int (zI h)), some (.int (zI ((k + 1)))), none, none] (0, 0) (mkS w (hI (uS T 99 (othF rd k t) (byF rd s pl h E k t))) J)
      obtain ⟨p1, p2, p3⟩ := p
      rw [e_X8_leave_2]
      simp (disch := omega) only [hk, hu, hI_n, hI_un, z_nat, em_d, zl, z_add, z_sub, z_mul, z_lt, z_eq, gI_mk, gJ_mk, cI_some, cV_some, cJ_some, cI_x, cV_x, cJ_x, uS_self, uS_ne, if_pos, if_neg, b01, b01n, ite_not, if_true, if_false, hLL, t7]
      rw [hto, if_pos p1]
      simp (disch := omega) only [hk, hu, hI_n, hI_un, z_nat, em_d, zl, z_add, z_sub, z_mul, z_lt, z_eq, gI_mk, gJ_mk, cI_some, cV_some, cJ_some, cI_x, cV_x, cJ_x, uS_self, uS_ne, if_pos, if_neg, b01, b01n, ite_not, if_true, if_false, hLL, show (zI 1 = zI 0) = False from eq_false (by decide)]
      rw [hac]
      simp (disch := omega) only [hk, hu, hI_n, hI_un, z_nat, em_d, zl, z_add, z_sub, z_mul, z_lt, z_eq, gI_mk, gJ_mk, cI_some, cV_some, cJ_some, cI_x, cV_x, cJ_x, uS_self, uS_ne, if_pos, if_neg, b01, b01n, ite_not, if_true, if_false, hLL]
      rw [hby]
      rcases p3 with p3 | p3
      · simp (disch := omega) only [hk, hu, hI_n, hI_un, z_nat, em_d, zl, z_add, z_sub, z_mul, z_lt, z_eq, gI_mk, gJ_mk, cI_some, cV_some, cJ_some, cI_x, cV_x, cJ_x, uS_self, uS_ne, if_pos, if_neg, b01, b01n, ite_not, if_true, if_false, hLL, e99]
        rw [e_X8_leave_39]
        simp (disch := omega) only [hk, hu, hI_n, hI_un, z_nat, em_d, zl, z_add, z_sub, z_mul, z_lt, z_eq, gI_mk, gJ_mk, cI_some, cV_some, cJ_some, cI_x, cV_x, cJ_x, uS_self, uS_ne, if_pos, if_neg, b01, b01n, ite_not, if_true, if_false, hLL]
      · by_cases p4 : E (othF rd k t) = -1
        · exact absurd p3 (by omega)
        · simp (disch := omega) only [hk, hu, hI_n, hI_un, z_nat, em_d, zl, z_add, z_sub, z_mul, z_lt, z_eq, gI_mk, gJ_mk, cI_some, cV_some, cJ_some, cI_x, cV_x, cJ_x, uS_self, uS_ne, if_pos, if_neg, b01, b01n, ite_not, if_true, if_false, hLL, e99]
          rw [e_X8_leave_39]
          simp (disch := omega) only [hk, hu, hI_n, hI_un, z_nat, em_d, zl, z_add, z_sub, z_mul, z_lt, z_eq, gI_mk, gJ_mk, cI_some, cV_some, cJ_some, cI_x, cV_x, cJ_x, uS_self, uS_ne, if_pos, if_neg, b01, b01n, ite_not, if_true, if_false, hLL]
    · have er : relaxF rd s pl h t k E = E := by
        unfold relaxF
        rw [if_neg p]
      refine ⟨T, ⟨q3, by rw [ek, er]; exact q4⟩, fun n hn => ?_⟩
      obtain ⟨n, rfl⟩ : ∃ n', n = n' + 1 := ⟨n - 1, by omega⟩
      refine ⟨n, by omega, ?_⟩
      show aR X (d + 2) m_X8_leave (n + 1) 2 [some (.ref 97), some (.ref ((iL bl))), some (.ref ((iS bs))), some (.int (zI t)), some (.int (zI h)), some (.int (zI k)), none, none] (0, 0) (mkS w (hI T) J) = aR X (d + 2) m_X8_leave n 2 [some (.ref 97), some (.ref ((iL bl))), some (.ref ((iS bs))), some (.int (zI t)), some (.int (zI h)), some (.int (zI ((k + 1)))), none, none] (0, 0) (mkS w (hI T) J)
      rw [e_X8_leave_2]
      simp (disch := omega) only [hk, hu, hI_n, hI_un, z_nat, em_d, zl, z_add, z_sub, z_mul, z_lt, z_eq, gI_mk, gJ_mk, cI_some, cV_some, cJ_some, cI_x, cV_x, cJ_x, uS_self, uS_ne, if_pos, if_neg, b01, b01n, ite_not, if_true, if_false, hLL, t7]
      rw [hto]
      by_cases p1 : goesF rd k t
      · rw [if_pos p1]
        simp (disch := omega) only [hk, hu, hI_n, hI_un, z_nat, em_d, zl, z_add, z_sub, z_mul, z_lt, z_eq, gI_mk, gJ_mk, cI_some, cV_some, cJ_some, cI_x, cV_x, cJ_x, uS_self, uS_ne, if_pos, if_neg, b01, b01n, ite_not, if_true, if_false, hLL, show (zI 1 = zI 0) = False from eq_false (by decide)]
        rw [hac]
        simp (disch := omega) only [hk, hu, hI_n, hI_un, z_nat, em_d, zl, z_add, z_sub, z_mul, z_lt, z_eq, gI_mk, gJ_mk, cI_some, cV_some, cJ_some, cI_x, cV_x, cJ_x, uS_self, uS_ne, if_pos, if_neg, b01, b01n, ite_not, if_true, if_false, hLL]
        rw [hby]
        by_cases p2 : byF rd s pl h E k t = -1
        · simp (disch := omega) only [hk, hu, hI_n, hI_un, z_nat, em_d, zl, z_add, z_sub, z_mul, z_lt, z_eq, gI_mk, gJ_mk, cI_some, cV_some, cJ_some, cI_x, cV_x, cJ_x, uS_self, uS_ne, if_pos, if_neg, b01, b01n, ite_not, if_true, if_false, hLL]
        · have p3 : ¬ E (othF rd k t) = -1 := fun z => p ⟨p1, p2, Or.inl z⟩
          have p4 : ¬ byF rd s pl h E k t < E (othF rd k t) := fun z => p ⟨p1, p2, Or.inr z⟩
          simp (disch := omega) only [hk, hu, hI_n, hI_un, z_nat, em_d, zl, z_add, z_sub, z_mul, z_lt, z_eq, gI_mk, gJ_mk, cI_some, cV_some, cJ_some, cI_x, cV_x, cJ_x, uS_self, uS_ne, if_pos, if_neg, b01, b01n, ite_not, if_true, if_false, hLL, e99]
      · rw [if_neg p1]
        simp (disch := omega) only [hk, hu, hI_n, hI_un, z_nat, em_d, zl, z_add, z_sub, z_mul, z_lt, z_eq, gI_mk, gJ_mk, cI_some, cV_some, cJ_some, cI_x, cV_x, cJ_x, uS_self, uS_ne, if_pos, if_neg, b01, b01n, ite_not, if_true, if_false, hLL]) nR.toNat 0 S (by omega) (by omega) ⟨Fr_rf _ _, hW⟩
  obtain ⟨n1, k2, k3⟩ := k1 9999999 (by omega)
  obtain ⟨n1, rfl⟩ : ∃ n', n1 = n' + 1 := ⟨n1 - 1, by omega⟩
  have t7 : T (iL bl) 7 = nR := by rw [v1 (iL bl) (by simp; omega)]; exact hL.2.1
  refine ⟨T, ?_, v2, v1⟩
  rw [k3]
  show aR X (d + 2) m_X8_leave (n1 + 1) 2 [some (.ref 97), some (.ref ((iL bl))), some (.ref ((iS bs))), some (.int (zI t)), some (.int (zI h)), some (.int (zI nR)), none, none] (0, 0) (mkS w (hI T) J) = _
  rw [e_X8_leave_2]
  simp (disch := omega) only [hk, hu, hI_n, hI_un, z_nat, em_d, zl, z_add, z_sub, z_mul, z_lt, z_eq, gI_mk, gJ_mk, cI_some, cV_some, cJ_some, cI_x, cV_x, cJ_x, uS_self, uS_ne, if_pos, if_neg, b01, b01n, ite_not, if_true, if_false, hLL, t7, rV_d]
theorem c_nearest (hL : CL S (iL bl) nT nR nC rd) (hW : WP S nR pl D) (hD : DR D) {Z : Nat} (hZ : Z < 2147483648) : am_call X aP (d + 1) 97 [.ref 97, .ref ((iL bl)), .int (zI ((Z : Int)))] (mkS w (hI S) J) = some (.inl (some (.int (zI (nearF nT D Z)))), (mkS w (hI S) J)) := by
  obtain ⟨a1, a2, a3, a4, a5, a6, a7, a8, a9, a10, a11⟩ := id hL
  rw [go_X8_nearest, e_X8_nearest_0, z_0]
  have h := loopB (fun n k b => aR X d m_X8_nearest n 4 [some (.ref 97), some (.ref ((iL bl))), some (.int (zI ((Z : Int)))), some (.int (zI b)), some (.int (zI k)), none] (0, 0) (mkS w (hI S) J)) (nearG D Z) (fun k b => b = -1 ∨ (0 ≤ b ∧ b < k)) nT 1 2 (fun b => some (.inl (some (.int (zI b))), (mkS w (hI S) J))) (fun n k b q1 q2 q3 h9 => by
    obtain ⟨n, rfl⟩ : ∃ m, n = m + 2 := ⟨n - 2, by omega⟩
    have e99 := hW.2 k q1 (by omega)
    have hd := hD k
    have hdb := hD b
    have e22 : ∀ m, aR X d m_X8_nearest (m + 1) 22 [some (.ref 97), some (.ref ((iL bl))), some (.int (zI ((Z : Int)))), some (.int (zI b)), some (.int (zI k)), none] (0, 0) (mkS w (hI S) J) = aR X d m_X8_nearest m 4 [some (.ref 97), some (.ref ((iL bl))), some (.int (zI ((Z : Int)))), some (.int (zI b)), some (.int (zI ((k + 1)))), none] (0, 0) (mkS w (hI S) J) := fun m => by
      rw [e_X8_nearest_22]
      simp (disch := omega) only [hk, hu, hI_n, hI_un, z_nat, em_d, zl, z_add, z_sub, z_mul, z_lt, z_eq, gI_mk, gJ_mk, cI_some, cV_some, cJ_some, cI_x, cV_x, cJ_x, uS_self, uS_ne, if_pos, if_neg, b01, b01n, ite_not, if_true, if_false, hLL]
    show ∃ n', n + 2 ≤ n' + 2 ∧ aR X d m_X8_nearest (n + 1 + 1) 4 [some (.ref 97), some (.ref ((iL bl))), some (.int (zI ((Z : Int)))), some (.int (zI b)), some (.int (zI k)), none] (0, 0) (mkS w (hI S) J) = aR X d m_X8_nearest n' 4 [some (.ref 97), some (.ref ((iL bl))), some (.int (zI ((Z : Int)))), some (.int (zI ((nearG D Z k b)))), some (.int (zI ((k + 1)))), none] (0, 0) (mkS w (hI S) J)
    by_cases p1 : Z.testBit k.toNat = true
    · have en : nearG D Z k b = b := if_neg (fun z => by rw [p1] at z; exact absurd z.1 (by decide))
      refine ⟨n, by omega, ?_⟩
      rw [en, e_X8_nearest_4]
      simp (disch := omega) only [hk, hu, hI_n, hI_un, z_nat, em_d, zl, z_add, z_sub, z_mul, z_lt, z_eq, gI_mk, gJ_mk, cI_some, cV_some, cJ_some, cI_x, cV_x, cJ_x, uS_self, uS_ne, if_pos, if_neg, b01, b01n, ite_not, if_true, if_false, hLL, a1, z_bit hZ, p1, if_true]
      rw [e22]
    · have p1' : Z.testBit k.toNat = false := Bool.eq_false_iff.mpr p1
      by_cases p2 : D k = -1
      · have en : nearG D Z k b = b := if_neg (fun z => z.2.1 p2)
        refine ⟨n, by omega, ?_⟩
        rw [en, e_X8_nearest_4]
        simp (disch := omega) only [hk, hu, hI_n, hI_un, z_nat, em_d, zl, z_add, z_sub, z_mul, z_lt, z_eq, gI_mk, gJ_mk, cI_some, cV_some, cJ_some, cI_x, cV_x, cJ_x, uS_self, uS_ne, if_pos, if_neg, b01, b01n, ite_not, if_true, if_false, hLL, a1, z_bit hZ, p1', Bool.false_eq_true, eq_self, e99, p2]
        rw [e22]
      · refine ⟨n + 1, by omega, ?_⟩
        rcases q3 with q3 | ⟨q3, q4⟩
        · have en : nearG D Z k b = k := if_pos ⟨p1', p2, Or.inl q3⟩
          rw [en, e_X8_nearest_4]
          simp (disch := omega) only [hk, hu, hI_n, hI_un, z_nat, em_d, zl, z_add, z_sub, z_mul, z_lt, z_eq, gI_mk, gJ_mk, cI_some, cV_some, cJ_some, cI_x, cV_x, cJ_x, uS_self, uS_ne, if_pos, if_neg, b01, b01n, ite_not, if_true, if_false, hLL, a1, z_bit hZ, p1', Bool.false_eq_true, eq_self, e99]
        · have e9b := hW.2 b q3 (by omega)
          by_cases p3 : D k < D b
          · have en : nearG D Z k b = k := if_pos ⟨p1', p2, Or.inr p3⟩
            rw [en, e_X8_nearest_4]
            simp (disch := omega) only [hk, hu, hI_n, hI_un, z_nat, em_d, zl, z_add, z_sub, z_mul, z_lt, z_eq, gI_mk, gJ_mk, cI_some, cV_some, cJ_some, cI_x, cV_x, cJ_x, uS_self, uS_ne, if_pos, if_neg, b01, b01n, ite_not, if_true, if_false, hLL, a1, z_bit hZ, p1', Bool.false_eq_true, eq_self, e99, e9b]
          · have en : nearG D Z k b = b := if_neg (fun z => by rcases z.2.2 with z | z; omega; exact p3 z)
            rw [en, e_X8_nearest_4]
            simp (disch := omega) only [hk, hu, hI_n, hI_un, z_nat, em_d, zl, z_add, z_sub, z_mul, z_lt, z_eq, gI_mk, gJ_mk, cI_some, cV_some, cJ_some, cI_x, cV_x, cJ_x, uS_self, uS_ne, if_pos, if_neg, b01, b01n, ite_not, if_true, if_false, hLL, a1, z_bit hZ, p1', Bool.false_eq_true, eq_self, e99, e9b]) (fun k b q1 q2 q3 => by
    show nearG D Z k b = -1 ∨ (0 ≤ nearG D Z k b ∧ nearG D Z k b < k + 1)
    unfold nearG
    split
    · exact Or.inr ⟨q1, by omega⟩
    · rcases q3 with q3 | q3
      · exact Or.inl q3
      · exact Or.inr ⟨q3.1, by omega⟩) (fun n b q1 _ => by
    obtain ⟨n, rfl⟩ : ∃ n', n = n' + 1 := ⟨n - 1, by omega⟩
    show aR X d m_X8_nearest (n + 1) 4 [some (.ref 97), some (.ref ((iL bl))), some (.int (zI ((Z : Int)))), some (.int (zI b)), some (.int (zI nT)), none] (0, 0) (mkS w (hI S) J) = _
    rw [e_X8_nearest_4]
    simp (disch := omega) only [hk, hu, hI_n, hI_un, z_nat, em_d, zl, z_add, z_sub, z_mul, z_lt, z_eq, gI_mk, gJ_mk, cI_some, cV_some, cJ_some, cI_x, cV_x, cJ_x, uS_self, uS_ne, if_pos, if_neg, b01, b01n, ite_not, if_true, if_false, hLL, a1, rI_d]) nT.toNat 0 (-1) (by omega) (by omega) (Or.inl rfl) 9999999 (by omega)
  simp only [zl]
  exact h
theorem c_search (hL : CL S (iL bl) nT nR nC rd) (hE : Ends nT nR rd) (hs : CS nR nC S (iS bs) s) (hoff : ∀ r, 0 ≤ r → r < nR → 0 ≤ s r ∧ s r < 7) (hpl : ∀ r, 0 ≤ r → r < nR → S 98 r = pl r) (hP : PL nR pl) {t h : Int} (ht : 0 ≤ t ∧ t < nT) (hh : 0 ≤ h ∧ h ≤ 6000) : ∃ S', am_call X aP (d + 4) 96 [.ref 97, .ref ((iL bl)), .ref ((iS bs)), .int (zI t), .int (zI h)] (mkS w (hI S) J) = some (.inl none, (mkS w (hI S') J)) ∧ WP S' nR pl (soonF rd s pl nT nR t h) ∧ Fr [99] S S' := by
  have hl := iL_c bl
  have hsb := iS_c bs
  obtain ⟨a1, -, -, -, a5, a6, a7, a8, a9, a10, a11⟩ := id hL
  have key : ∀ (j : Nat) (i : Int) (T : Hp) (E : Int → Int) (Z : Nat), 0 ≤ i → i + j = nT → Fr [99] S T → WP T nR pl E → DR E → Z < 2 ^ 7 → ∃ S', (∀ n, j + 1 ≤ n → aR X (d + 3) m_X8_search n 13 [some (.ref 97), some (.ref ((iL bl))), some (.ref ((iS bs))), none, some (.int (zI h)), some (.int (zI ((Z : Int)))), some (.int (zI i)), none] (0, 0) (mkS w (hI T) J) = some (.inl none, (mkS w (hI S') J))) ∧ WP S' nR pl (dijN rd s pl nT nR h j E Z) ∧ Fr [99] S S' := by
    intro j
    induction j with
    | zero =>
      intro i T E Z hi0 hi hF hW hD hZ
      have t6 : T (iL bl) 6 = nT := by rw [hF (iL bl) (by simp; omega)]; exact a1
      refine ⟨T, fun n hn => ?_, hW, hF⟩
      obtain ⟨n, rfl⟩ : ∃ n', n = n' + 1 := ⟨n - 1, by omega⟩
      rw [e_X8_search_13]
      simp (disch := omega) only [hk, hu, hI_n, hI_un, z_nat, em_d, zl, z_add, z_sub, z_mul, z_lt, z_eq, gI_mk, gJ_mk, cI_some, cV_some, cJ_some, cI_x, cV_x, cJ_x, uS_self, uS_ne, if_pos, if_neg, b01, b01n, ite_not, if_true, if_false, hLL, t6, rV_d]
    | succ j ih =>
      intro i T E Z hi0 hi hF hW hD hZ
      have t6 : T (iL bl) 6 = nT := by rw [hF (iL bl) (by simp; omega)]; exact a1
      have hL1 : CL T (iL bl) nT nR nC rd := CL_fr hL hF (fun i hi => by simp; omega)
      have hs1 : CS nR nC T (iS bs) s := CS_fr hs hF (fun i hi => by simp; omega)
      have hne := fun d => c_nearest (X := X) (d := d) (w := w) (J := J) hL1 hW hD (Z := Z) (by omega)
      have hnr := nearF_r nT E Z a5
      by_cases q : nearF nT E Z = -1
      · refine ⟨T, fun n hn => ?_, by unfold dijN; rw [if_pos q]; exact hW, hF⟩
        obtain ⟨n, rfl⟩ : ∃ n', n = n' + 1 := ⟨n - 1, by omega⟩
        rw [e_X8_search_13]
        simp (disch := omega) only [hk, hu, hI_n, hI_un, z_nat, em_d, zl, z_add, z_sub, z_mul, z_lt, z_eq, gI_mk, gJ_mk, cI_some, cV_some, cJ_some, cI_x, cV_x, cJ_x, uS_self, uS_ne, if_pos, if_neg, b01, b01n, ite_not, if_true, if_false, hLL, t6]
        rw [hne, q]
        simp (disch := omega) only [hk, hu, hI_n, hI_un, z_nat, em_d, zl, z_add, z_sub, z_mul, z_lt, z_eq, gI_mk, gJ_mk, cI_some, cV_some, cJ_some, cI_x, cV_x, cJ_x, uS_self, uS_ne, if_pos, if_neg, b01, b01n, ite_not, if_true, if_false, hLL, rV_d]
      · have hnr : 0 ≤ nearF nT E Z ∧ nearF nT E Z < nT := by rcases hnr with hnr | hnr; exact absurd hnr q; exact ⟨hnr.1, hnr.2.1⟩
        obtain ⟨T1, h1, h2, h3⟩ := c_leave (X := X) (d := d) (w := w) (J := J) hL1 hE hs1 hoff hW hP hD (t := nearF nT E Z) (h := h) ⟨hnr.1, by omega⟩ hh
        have hZ2 : Z ||| 2 ^ (nearF nT E Z).toNat < 2 ^ 7 := Nat.or_lt_two_pow hZ (Nat.pow_lt_pow_right (by decide) (by omega))
        obtain ⟨S', g1, g2, g3⟩ := ih (i + 1) T1 (leaveF rd s pl nR h (nearF nT E Z) E) (Z ||| 2 ^ (nearF nT E Z).toNat) (by omega) (by omega) (Fr_tr hF h3 (fun _ z => z) (fun _ z => z)) h2 (leaveF_DR a7 hD) hZ2
        refine ⟨S', fun n hn => ?_, by unfold dijN; rw [if_neg q]; exact g2, g3⟩
        obtain ⟨n, rfl⟩ : ∃ n', n = n' + 1 := ⟨n - 1, by omega⟩
        rw [e_X8_search_13]
        simp (disch := omega) only [hk, hu, hI_n, hI_un, z_nat, em_d, zl, z_add, z_sub, z_mul, z_lt, z_eq, gI_mk, gJ_mk, cI_some, cV_some, cJ_some, cI_x, cV_x, cJ_x, uS_self, uS_ne, if_pos, if_neg, b01, b01n, ite_not, if_true, if_false, hLL, t6]
        rw [hne]
        simp (disch := omega) only [hk, hu, hI_n, hI_un, z_nat, em_d, zl, z_add, z_sub, z_mul, z_lt, z_eq, gI_mk, gJ_mk, cI_some, cV_some, cJ_some, cI_x, cV_x, cJ_x, uS_self, uS_ne, if_pos, if_neg, b01, b01n, ite_not, if_true, if_false, hLL]
        rw [h1]
        simp (disch := omega) only [hk, hu, hI_n, hI_un, z_nat, em_d, zl, z_add, z_sub, z_mul, z_lt, z_eq, gI_mk, gJ_mk, cI_some, cV_some, cJ_some, cI_x, cV_x, cJ_x, uS_self, uS_ne, if_pos, if_neg, b01, b01n, ite_not, if_true, if_false, hLL, z_shl1, z_or]
        exact g1 n (by omega)
  have f0 : Fr [99] S (uS (fillS S 99 7 (-1)) 99 t 0) := Fr_tr (fillS_fr S 99 7 (-1)) (Fr_u _ _ _ (by decide)) (fun _ z => z) (fun _ z => z)
  have w0 : WP (uS (fillS S 99 7 (-1)) 99 t 0) nR pl (D0 t) := by
    refine ⟨fun r r1 r2 => ?_, fun x x1 x2 => ?_⟩
    · rw [f0 98 (by decide)]
      exact hpl r r1 r2
    · unfold D0
      by_cases e : x = t
      · rw [e, uS_self, pu_s]
      · rw [uS_ne _ _ (Or.inr e), pu_o _ e]
        unfold fillS
        rw [if_pos ⟨rfl, x1, x2⟩]
  obtain ⟨S', g1, g2, g3⟩ := key nT.toNat 0 _ (D0 t) 0 (by omega) (by omega) f0 w0 (D0_DR t) (by decide)
  refine ⟨S', ?_, g2, g3⟩
  rw [go_X8_search, e_X8_search_0]
  simp only [zl]
  rw [c_fill (n := 7) rfl (by decide) rfl (by decide)]
  simp (disch := omega) only [hk, hu, hI_n, hI_un, z_nat, em_d, zl, z_add, z_sub, z_mul, z_lt, z_eq, gI_mk, gJ_mk, cI_some, cV_some, cJ_some, cI_x, cV_x, cJ_x, uS_self, uS_ne, if_pos, if_neg, b01, b01n, ite_not, if_true, if_false, hLL]
  exact g1 9999999 (by omega)
end CWY
