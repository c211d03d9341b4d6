/-! THE SOONEST WAYS: the reference's loops -/
theorem byF_M {rd s pl D : Int → Int} {h r t : Int} (hD : DR D) (ht : ¬ D t = -1) : (tkM (rd (4 * r + 2)) (pl r) (s r) (h + D t) (999 - D t).toNat = -1 ∧ byF rd s pl h D r t = -1) ∨ (1 ≤ tkM (rd (4 * r + 2)) (pl r) (s r) (h + D t) (999 - D t).toNat ∧ tkM (rd (4 * r + 2)) (pl r) (s r) (h + D t) (999 - D t).toNat ≤ 999 ∧ byF rd s pl h D r t = D t + tkM (rd (4 * r + 2)) (pl r) (s r) (h + D t) (999 - D t).toNat) := by
  have hd := hD t
  have e := tkM_eq (rd (4 * r + 2)) (pl r) (s r) (h + D t) (999 - D t).toNat (by omega)
  have hx : tk (rd (4 * r + 2)) (pl r) (s r) (h + D t) = -1 ∨ (1 ≤ tk (rd (4 * r + 2)) (pl r) (s r) (h + D t) ∧ tk (rd (4 * r + 2)) (pl r) (s r) (h + D t) ≤ 999) := by
    have := tkM_r (rd (4 * r + 2)) (pl r) (s r) (h + D t) 999
    exact this
  unfold byF
  rw [if_neg ht, e]
  generalize tk (rd (4 * r + 2)) (pl r) (s r) (h + D t) = x at hx
  by_cases q : x = -1 ∨ (((999 - D t).toNat : Nat) : Int) < x
  · rw [if_pos q, if_pos (show x = -1 ∨ 999 < D t + x by omega)]
    exact Or.inl ⟨rfl, rfl⟩
  · rw [if_neg q, if_neg (show ¬ (x = -1 ∨ 999 < D t + x) by omega)]
    exact Or.inr ⟨by omega, by omega, rfl⟩
section MSO
variable {X : Nat × (Nat → Int32)} {d : Nat} {w : Bool × Bool × Bool} {S : Hp} {J : Nat → Nat → Int64} {nT nR nC : Int} {rd s pl D : Int → Int} {cd : List (Int × Int)}
theorem WM_u {Z : Nat} (hW : WM S nT nR pl D Z) {t v : Int} : WM (uS S 154 t v) nT nR pl (pu D t v) Z := by
  refine ⟨fun r r1 r2 => ?_, fun x x1 x2 => ?_, fun x x1 x2 => ?_⟩
  · rw [uS_ne _ _ (Or.inl (by decide))]
    exact hW.1 r r1 r2
  · by_cases e : x = t
    · rw [e, uS_self, pu_s]
    · rw [uS_ne _ _ (Or.inr e), pu_o _ e]
      exact hW.2.1 x x1 x2
  · rw [uS_ne _ _ (Or.inl (by decide))]
    exact hW.2.2 x x1 x2
theorem WM_set {Z : Nat} (hW : WM S nT nR pl D Z) {b : Int} (hb : 0 ≤ b) : WM (uS S 155 b 1) nT nR pl D (Z ||| 2 ^ b.toNat) := by
  refine ⟨fun r r1 r2 => ?_, fun x x1 x2 => ?_, fun x x1 x2 => ?_⟩
  · rw [uS_ne _ _ (Or.inl (by decide))]
    exact hW.1 r r1 r2
  · rw [uS_ne _ _ (Or.inl (by decide))]
    exact hW.2.1 x x1 x2
  · rw [testBit_or_pow]
    by_cases e : x = b
    · rw [e, uS_self]
      simp
    · rw [uS_ne _ _ (Or.inr e)]
      have : ¬ b.toNat = x.toNat := by omega
      simp only [this, decide_false, Bool.or_false]
      exact hW.2.2 x x1 x2
theorem m_leave (hL : LdP S nT nR nC rd) (hs : ScP nR nC S s) (hoff : ∀ r, 0 ≤ r → r < nR → 0 ≤ s r ∧ s r < 7) {Z : Nat} (hW : WM S nT nR pl D Z) (hP : PL nR pl) (hD : DR D) {t h : Int} (ht : 0 ≤ t ∧ t < 7) (htD : ¬ D t = -1) (hh : 0 ≤ h ∧ h ≤ 6000) : ∃ S', (∀ n, 2 * nR.toNat + 1 ≤ n → ∃ n', n ≤ n' + (2 * nR.toNat + 1) ∧ aR X (d + 3) m_X10_laysSoon n 68 [some (.ref 132), none, some (.int (zI h)), some (.int (zI t)), some (.int (zI 0)), none, none] (0, 0) (mkS w (hI S) J) = aR X (d + 3) m_X10_laysSoon n' 22 [some (.ref 132), none, some (.int (zI h)), none, none, none, none] (0, 0) (mkS w (hI S') J)) ∧ WM S' nT nR pl (leaveF rd s pl nR h t D) Z ∧ Fr [154] S S' := by
  obtain ⟨-, -, -, -, -, -, a7, a8, a9, a10, a11⟩ := id hL
  obtain ⟨T, ⟨v1, v2⟩, k1⟩ := loopE (fun n k T => aR X (d + 3) m_X10_laysSoon n 68 [some (.ref 132), none, some (.int (zI h)), some (.int (zI t)), some (.int (zI k)), none, none] (0, 0) (mkS w (hI T) J)) (fun k T => Fr [154] S T ∧ WM T nT nR pl (fold (relaxF rd s pl h t) k.toNat 0 D) Z) nR 2 (fun k T q1 q2 q3 => by
    obtain ⟨q3, q4⟩ := q3
    have hL1 : LdP T nT nR nC rd := LdP_fr hL q3 (by decide) (by decide)
    have hs1 : ScP nR nC T s := ScP_fr hs q3 (by decide)
    obtain ⟨hDk, htk⟩ := fold_V (relaxF rd s pl h t) (fun _ D => DR D ∧ ¬ D t = -1) k (fun k a _ _ h3 => ⟨relaxF_DR h3.1, by
      unfold relaxF
      split
      · next z =>
        by_cases e : t = othF rd k t
        · rw [← e, pu_s]; exact z.2.1
        · rw [pu_o _ e]; exact h3.2
      · exact h3.2⟩) k.toNat 0 D (by omega) (by omega) ⟨hD, htD⟩
    have ek : fold (relaxF rd s pl h t) (k + 1).toNat 0 D = relaxF rd s pl h t k (fold (relaxF rd s pl h t) k.toNat 0 D) := by
      rw [show (k + 1).toNat = k.toNat + 1 by omega, fold_succ, show (0 : Int) + (k.toNat : Int) = k by omega]
    generalize fold (relaxF rd s pl h t) k.toNat 0 D = E at q4 hDk ek htk
    have t7 := hL1.2.1
    have hdt := hDk t
    have eE := q4.2.1 t ht.1 ht.2
    have hmt := fun d => m_takenOf (X := X) (d := d) (w := w) (J := J) hL1 hs1 hoff q4.1 hP (r := k) (h := h + E t) (m := 999 - E t) ⟨q1, q2⟩ (by omega) (by omega)
    have hac := fun d => m_otherOf (X := X) (d := d) (w := w) (J := J) hL1 (r := k) (t := t) ⟨q1, q2⟩ (by omega)
    have hto := fun d => m_goesFrom (X := X) (d := d) (w := w) (J := J) hL1 (r := k) (t := t) ⟨q1, q2⟩ (by omega)
    have ho := othF_r a11 (t := t) ⟨q1, q2⟩
    have e99 := q4.2.1 _ ho.1 ho.2
    have hdo := hDk (othF rd k t)
    have hbm := byF_M (rd := rd) (s := s) (pl := pl) (h := h) (r := k) hDk htk
    generalize tkM (rd (4 * k + 2)) (pl k) (s k) (h + E t) (999 - E t).toNat = x at hmt hbm
    by_cases p : goesF rd k t ∧ ¬ byF rd s pl h E k t = -1 ∧ (E (othF rd k t) = -1 ∨ byF rd s pl h E k t < E (othF rd k t))
    · have er : relaxF rd s pl h t k E = pu E (othF rd k t) (byF rd s pl h E k t) := by
        unfold relaxF
        rw [if_pos p]
      obtain ⟨p1, p2, p3⟩ := p
      have hbm : 1 ≤ x ∧ x ≤ 999 ∧ byF rd s pl h E k t = E t + x := by rcases hbm with hbm | hbm; exact absurd hbm.2 p2; exact hbm
      refine ⟨uS T 154 (othF rd k t) (byF rd s pl h E k t), ⟨Fr_tr q3 (Fr_u T (L := [154]) _ _ (by decide)) (fun _ z => z) (fun _ z => z), by rw [ek, er]; exact WM_u q4⟩, fun n hn => ?_⟩
      obtain ⟨n, rfl⟩ : ∃ n', n = n' + 1 + 1 := ⟨n - 2, by omega⟩
      refine ⟨n, by omega, ?_⟩
      show aR X (d + 3) m_X10_laysSoon (n + 1 + 1) 68 [some (.ref 132), none, some (.int (zI h)), some (.int (zI t)), some (.int (zI k)), none, none] (0, 0) (mkS w (hI T) J) = aR X (d + 3) m_X10_laysSoon n 68 [some (.ref 132), none, some (.int (zI h)), some (.int (zI t)), some (.int (zI ((k + 1)))), none, none] (0, 0) (mkS w (hI (uS T 154 (othF rd k t) (byF rd s pl h E k t))) J)
      rw [e_X10_laysSoon_68]
      simp (disch := omega) only [hk, hu, hI_n, hI_un, z_nat, em_d, zl, z_add, z_sub, z_mul, z_lt, z_eq, gI_mk, gJ_mk, cI_some, cV_some, cJ_some, cI_x, cV_x, cJ_x, uS_self, uS_ne, if_pos, if_neg, b01, b01n, ite_not, if_true, if_false, t7]
      rw [hto, if_pos p1]
      simp (disch := omega) only [hk, hu, hI_n, hI_un, z_nat, em_d, zl, z_add, z_sub, z_mul, z_lt, z_eq, gI_mk, gJ_mk, cI_some, cV_some, cJ_some, cI_x, cV_x, cJ_x, uS_self, uS_ne, if_pos, if_neg, b01, b01n, ite_not, if_true, if_false, eE, show (zI 1 = zI 0) = False from eq_false (by decide)]
      rw [hmt]
      simp (disch := omega) only [hk, hu, hI_n, hI_un, z_nat, em_d, zl, z_add, z_sub, z_mul, z_lt, z_eq, gI_mk, gJ_mk, cI_some, cV_some, cJ_some, cI_x, cV_x, cJ_x, uS_self, uS_ne, if_pos, if_neg, b01, b01n, ite_not, if_true, if_false]
      rw [hac]
      by_cases p4 : E (othF rd k t) = -1
      · simp (disch := omega) only [hk, hu, hI_n, hI_un, z_nat, em_d, zl, z_add, z_sub, z_mul, z_lt, z_eq, gI_mk, gJ_mk, cI_some, cV_some, cJ_some, cI_x, cV_x, cJ_x, uS_self, uS_ne, if_pos, if_neg, b01, b01n, ite_not, if_true, if_false, e99]
        rw [e_X10_laysSoon_119]
        simp (disch := omega) only [hk, hu, hI_n, hI_un, z_nat, em_d, zl, z_add, z_sub, z_mul, z_lt, z_eq, gI_mk, gJ_mk, cI_some, cV_some, cJ_some, cI_x, cV_x, cJ_x, uS_self, uS_ne, if_pos, if_neg, b01, b01n, ite_not, if_true, if_false, eE, hbm.2.2]
      · simp (disch := omega) only [hk, hu, hI_n, hI_un, z_nat, em_d, zl, z_add, z_sub, z_mul, z_lt, z_eq, gI_mk, gJ_mk, cI_some, cV_some, cJ_some, cI_x, cV_x, cJ_x, uS_self, uS_ne, if_pos, if_neg, b01, b01n, ite_not, if_true, if_false, e99, eE]
        rw [e_X10_laysSoon_119]
        simp (disch := omega) only [hk, hu, hI_n, hI_un, z_nat, em_d, zl, z_add, z_sub, z_mul, z_lt, z_eq, gI_mk, gJ_mk, cI_some, cV_some, cJ_some, cI_x, cV_x, cJ_x, uS_self, uS_ne, if_pos, if_neg, b01, b01n, ite_not, if_true, if_false, eE, hbm.2.2]
    · have er : relaxF rd s pl h t k E = E := by
        unfold relaxF
        rw [if_neg p]
      refine ⟨T, ⟨q3, by rw [ek, er]; exact q4⟩, fun n hn => ?_⟩
      obtain ⟨n, rfl⟩ : ∃ n', n = n' + 1 := ⟨n - 1, by omega⟩
      refine ⟨n, by omega, ?_⟩
      show aR X (d + 3) m_X10_laysSoon (n + 1) 68 [some (.ref 132), none, some (.int (zI h)), some (.int (zI t)), some (.int (zI k)), none, none] (0, 0) (mkS w (hI T) J) = aR X (d + 3) m_X10_laysSoon n 68 [some (.ref 132), none, some (.int (zI h)), some (.int (zI t)), some (.int (zI ((k + 1)))), none, none] (0, 0) (mkS w (hI T) J)
      rw [e_X10_laysSoon_68]
      simp (disch := omega) only [hk, hu, hI_n, hI_un, z_nat, em_d, zl, z_add, z_sub, z_mul, z_lt, z_eq, gI_mk, gJ_mk, cI_some, cV_some, cJ_some, cI_x, cV_x, cJ_x, uS_self, uS_ne, if_pos, if_neg, b01, b01n, ite_not, if_true, if_false, t7]
      rw [hto]
      by_cases p1 : goesF rd k t
      · rw [if_pos p1]
        simp (disch := omega) only [hk, hu, hI_n, hI_un, z_nat, em_d, zl, z_add, z_sub, z_mul, z_lt, z_eq, gI_mk, gJ_mk, cI_some, cV_some, cJ_some, cI_x, cV_x, cJ_x, uS_self, uS_ne, if_pos, if_neg, b01, b01n, ite_not, if_true, if_false, eE, show (zI 1 = zI 0) = False from eq_false (by decide)]
        rw [hmt]
        simp (disch := omega) only [hk, hu, hI_n, hI_un, z_nat, em_d, zl, z_add, z_sub, z_mul, z_lt, z_eq, gI_mk, gJ_mk, cI_some, cV_some, cJ_some, cI_x, cV_x, cJ_x, uS_self, uS_ne, if_pos, if_neg, b01, b01n, ite_not, if_true, if_false]
        rw [hac]
        by_cases p2 : byF rd s pl h E k t = -1
        · have : x = -1 := by omega
          simp (disch := omega) only [hk, hu, hI_n, hI_un, z_nat, em_d, zl, z_add, z_sub, z_mul, z_lt, z_eq, gI_mk, gJ_mk, cI_some, cV_some, cJ_some, cI_x, cV_x, cJ_x, uS_self, uS_ne, if_pos, if_neg, b01, b01n, ite_not, if_true, if_false]
        · have hbm : 1 ≤ x ∧ x ≤ 999 ∧ byF rd s pl h E k t = E t + x := by rcases hbm with hbm | hbm; exact absurd hbm.2 p2; exact hbm
          have p3 : ¬ E (othF rd k t) = -1 := fun z => p ⟨p1, p2, Or.inl z⟩
          have p4 : ¬ byF rd s pl h E k t < E (othF rd k t) := fun z => p ⟨p1, p2, Or.inr z⟩
          simp (disch := omega) only [hk, hu, hI_n, hI_un, z_nat, em_d, zl, z_add, z_sub, z_mul, z_lt, z_eq, gI_mk, gJ_mk, cI_some, cV_some, cJ_some, cI_x, cV_x, cJ_x, uS_self, uS_ne, if_pos, if_neg, b01, b01n, ite_not, if_true, if_false, e99, eE]
      · rw [if_neg p1]
        simp (disch := omega) only [hk, hu, hI_n, hI_un, z_nat, em_d, zl, z_add, z_sub, z_mul, z_lt, z_eq, gI_mk, gJ_mk, cI_some, cV_some, cJ_some, cI_x, cV_x, cJ_x, uS_self, uS_ne, if_pos, if_neg, b01, b01n, ite_not, if_true, if_false]) nR.toNat 0 S (by omega) (by omega) ⟨Fr_rf _ _, hW⟩
  have t7 : T 132 18 = nR := by rw [v1 132 (by decide)]; exact hL.2.1
  refine ⟨T, fun n hn => ?_, v2, v1⟩
  obtain ⟨n1, k2, k3⟩ := k1 n (by omega)
  obtain ⟨n1, rfl⟩ : ∃ n', n1 = n' + 1 := ⟨n1 - 1, by omega⟩
  refine ⟨n1, by omega, k3.trans ?_⟩
  show aR X (d + 3) m_X10_laysSoon (n1 + 1) 68 [some (.ref 132), none, some (.int (zI h)), some (.int (zI t)), some (.int (zI nR)), none, none] (0, 0) (mkS w (hI T) J) = _
  rw [e_X10_laysSoon_68]
  simp (disch := omega) only [hk, hu, hI_n, hI_un, z_nat, em_d, zl, z_add, z_sub, z_mul, z_lt, z_eq, gI_mk, gJ_mk, cI_some, cV_some, cJ_some, cI_x, cV_x, cJ_x, uS_self, uS_ne, if_pos, if_neg, b01, b01n, ite_not, if_true, if_false, t7]
theorem m_near (hL : LdP S nT nR nC rd) {Z : Nat} (hW : WM S nT nR pl D Z) (hD : DR D) {h : Int} : ∀ n, nT.toNat + 1 ≤ n → ∃ n', n ≤ n' + nT.toNat + 1 ∧ aR X (d + 3) m_X10_laysSoon n 26 [some (.ref 132), none, some (.int (zI h)), some (.int (zI ((-1)))), some (.int (zI 0)), none, none] (0, 0) (mkS w (hI S) J) = if nearF nT D Z = -1 then some (.inl none, (mkS w (hI S) J)) else aR X (d + 3) m_X10_laysSoon n' 68 [some (.ref 132), none, some (.int (zI h)), some (.int (zI ((nearF nT D Z)))), some (.int (zI 0)), none, none] (0, 0) (mkS w (hI (uS S 155 (nearF nT D Z) 1)) J) := by
  intro n hn
  obtain ⟨a1, a2, a3, a4, a5, a6, a7, a8, a9, a10, a11⟩ := id hL
  obtain ⟨v, g⟩ := loopG (fun n k b => aR X (d + 3) m_X10_laysSoon n 26 [some (.ref 132), none, some (.int (zI h)), some (.int (zI b)), some (.int (zI k)), none, none] (0, 0) (mkS w (hI S) J)) (nearG D Z) (fun k b => b = -1 ∨ (0 ≤ b ∧ b < k)) nT 1 (fun n k b q1 q2 q3 h9 => by
    obtain ⟨n, rfl⟩ : ∃ m, n = m + 1 := ⟨n - 1, by omega⟩
    refine ⟨n, by omega, ?_⟩
    show aR X (d + 3) m_X10_laysSoon (n + 1) 26 [some (.ref 132), none, some (.int (zI h)), some (.int (zI b)), some (.int (zI k)), none, none] (0, 0) (mkS w (hI S) J) = aR X (d + 3) m_X10_laysSoon n 26 [some (.ref 132), none, some (.int (zI h)), some (.int (zI ((nearG D Z k b)))), some (.int (zI ((k + 1)))), none, none] (0, 0) (mkS w (hI S) J)
    have e99 := hW.2.1 k q1 (by omega)
    have e55 := hW.2.2 k q1 q2
    have hd := hD k
    have hdb := hD b
    by_cases p1 : Z.testBit k.toNat = true
    · have en : nearG D Z k b = b := if_neg (fun z => by rw [p1] at z; exact absurd z.1 (by decide))
      rw [if_pos p1] at e55
      rw [en, e_X10_laysSoon_26]
      simp (disch := omega) only [hk, hu, hI_n, hI_un, z_nat, em_d, zl, z_add, z_sub, z_mul, z_lt, z_eq, gI_mk, gJ_mk, cI_some, cV_some, cJ_some, cI_x, cV_x, cJ_x, uS_self, uS_ne, if_pos, if_neg, b01, b01n, ite_not, if_true, if_false, a1, e55]
    · have p1' : Z.testBit k.toNat = false := Bool.eq_false_iff.mpr p1
      rw [if_neg p1] at e55
      by_cases p2 : D k = -1
      · have en : nearG D Z k b = b := if_neg (fun z => z.2.1 p2)
        rw [en, e_X10_laysSoon_26]
        simp (disch := omega) only [hk, hu, hI_n, hI_un, z_nat, em_d, zl, z_add, z_sub, z_mul, z_lt, z_eq, gI_mk, gJ_mk, cI_some, cV_some, cJ_some, cI_x, cV_x, cJ_x, uS_self, uS_ne, if_pos, if_neg, b01, b01n, ite_not, if_true, if_false, a1, e55, e99, p2]
      · rcases q3 with q3 | ⟨q3, q4⟩
        · have en : nearG D Z k b = k := if_pos ⟨p1', p2, Or.inl q3⟩
          rw [en, e_X10_laysSoon_26]
          simp (disch := omega) only [hk, hu, hI_n, hI_un, z_nat, em_d, zl, z_add, z_sub, z_mul, z_lt, z_eq, gI_mk, gJ_mk, cI_some, cV_some, cJ_some, cI_x, cV_x, cJ_x, uS_self, uS_ne, if_pos, if_neg, b01, b01n, ite_not, if_true, if_false, a1, e55, e99]
        · have e9b := hW.2.1 b q3 (by omega)
          by_cases p3 : D k < D b
          · have en : nearG D Z k b = k := if_pos ⟨p1', p2, Or.inr p3⟩
            rw [en, e_X10_laysSoon_26]
            simp (disch := omega) only [hk, hu, hI_n, hI_un, z_nat, em_d, zl, z_add, z_sub, z_mul, z_lt, z_eq, gI_mk, gJ_mk, cI_some, cV_some, cJ_some, cI_x, cV_x, cJ_x, uS_self, uS_ne, if_pos, if_neg, b01, b01n, ite_not, if_true, if_false, a1, e55, e99, e9b]
          · have en : nearG D Z k b = b := if_neg (fun z => by rcases z.2.2 with z | z; omega; exact p3 z)
            rw [en, e_X10_laysSoon_26]
            simp (disch := omega) only [hk, hu, hI_n, hI_un, z_nat, em_d, zl, z_add, z_sub, z_mul, z_lt, z_eq, gI_mk, gJ_mk, cI_some, cV_some, cJ_some, cI_x, cV_x, cJ_x, uS_self, uS_ne, if_pos, if_neg, b01, b01n, ite_not, if_true, if_false, a1, e55, e99, e9b]) (fun k b q1 q2 q3 => by
    show nearG D Z k b = -1 ∨ (0 ≤ nearG D Z k b ∧ nearG D Z k b < k + 1)
    unfold nearG
    split
    · exact Or.inr ⟨q1, by omega⟩
    · rcases q3 with q3 | q3
      · exact Or.inl q3
      · exact Or.inr ⟨q3.1, by omega⟩) nT.toNat 0 (-1) (by omega) (by omega) (Or.inl rfl)
  obtain ⟨n1, g1, g2⟩ := g n (by omega)
  obtain ⟨n1, rfl⟩ : ∃ n', n1 = n' + 1 := ⟨n1 - 1, by omega⟩
  refine ⟨n1, by omega, g2.trans ?_⟩
  have v : nearF nT D Z = -1 ∨ (0 ≤ nearF nT D Z ∧ nearF nT D Z < nT) := v
  show aR X (d + 3) m_X10_laysSoon (n1 + 1) 26 [some (.ref 132), none, some (.int (zI h)), some (.int (zI ((nearF nT D Z)))), some (.int (zI nT)), none, none] (0, 0) (mkS w (hI S) J) = _
  rw [e_X10_laysSoon_26]
  by_cases q : nearF nT D Z = -1
  · simp (disch := omega) only [hk, hu, hI_n, hI_un, z_nat, em_d, zl, z_add, z_sub, z_mul, z_lt, z_eq, gI_mk, gJ_mk, cI_some, cV_some, cJ_some, cI_x, cV_x, cJ_x, uS_self, uS_ne, if_pos, if_neg, b01, b01n, ite_not, if_true, if_false, a1, q, if_true, rV_d]
  · rw [if_neg q]
    simp (disch := omega) only [hk, hu, hI_n, hI_un, z_nat, em_d, zl, z_add, z_sub, z_mul, z_lt, z_eq, gI_mk, gJ_mk, cI_some, cV_some, cJ_some, cI_x, cV_x, cJ_x, uS_self, uS_ne, if_pos, if_neg, b01, b01n, ite_not, if_true, if_false, a1]
theorem m_dij (hL : LdP S nT nR nC rd) (hs : ScP nR nC S s) (hoff : ∀ r, 0 ≤ r → r < nR → 0 ≤ s r ∧ s r < 7) (hP : PL nR pl) {h : Int} (hh : 0 ≤ h ∧ h ≤ 6000) : ∀ (j : Nat) (T : Hp) (E : Int → Int) (Z : Nat), Fr [154, 155] S T → WM T nT nR pl E Z → DR E → unS nT Z ≤ j → ∃ S', (∀ n, 50 * j + 50 ≤ n → aR X (d + 3) m_X10_laysSoon n 22 [some (.ref 132), none, some (.int (zI h)), none, none, none, none] (0, 0) (mkS w (hI T) J) = some (.inl none, (mkS w (hI S') J))) ∧ (∃ Z', WM S' nT nR pl (dijN rd s pl nT nR h j E Z) Z') ∧ Fr [154, 155] S S' := by
  obtain ⟨-, -, -, -, a5, a6, a7, a8, a9, a10, a11⟩ := id hL
  have stop : ∀ (T : Hp) (E : Int → Int) (Z : Nat), Fr [154, 155] S T → WM T nT nR pl E Z → DR E → nearF nT E Z = -1 → ∀ n, 50 ≤ n → aR X (d + 3) m_X10_laysSoon n 22 [some (.ref 132), none, some (.int (zI h)), none, none, none, none] (0, 0) (mkS w (hI T) J) = some (.inl none, (mkS w (hI T) J)) := by
    intro T E Z hF hW hD hn n hn2
    obtain ⟨n, rfl⟩ : ∃ n', n = n' + 1 := ⟨n - 1, by omega⟩
    obtain ⟨n', -, g⟩ := m_near (X := X) (d := d) (w := w) (J := J) (LdP_fr hL hF (by decide) (by decide)) hW hD (h := h) n (by omega)
    rw [hn, if_pos rfl] at g
    rw [e_X10_laysSoon_22]
    simp only [zl]
    exact g
  intro j
  induction j with
  | zero =>
    intro T E Z hF hW hD hu
    have h0 : unS nT Z = 0 := by
      have := unS_r Z nT.toNat
      have h1 : 0 ≤ unS nT Z := this
      omega
    exact ⟨T, fun n hn => stop T E Z hF hW hD (near_none nT E Z a5 h0) n (by omega), ⟨Z, hW⟩, hF⟩
  | succ j ih =>
    intro T E Z hF hW hD hu
    have hL1 := LdP_fr hL hF (by decide) (by decide)
    by_cases q : nearF nT E Z = -1
    · refine ⟨T, fun n hn => stop T E Z hF hW hD q n (by omega), ⟨Z, ?_⟩, hF⟩
      unfold dijN
      rw [if_pos q]
      exact hW
    · obtain ⟨b1, b2, b3, b4⟩ : 0 ≤ nearF nT E Z ∧ nearF nT E Z < nT ∧ Z.testBit (nearF nT E Z).toNat = false ∧ ¬ E (nearF nT E Z) = -1 := by
        rcases nearF_r nT E Z a5 with g | g
        · exact absurd g q
        · exact g
      have hF1 : Fr [154, 155] S (uS T 155 (nearF nT E Z) 1) := Fr_tr hF (Fr_u T (L := [155]) _ _ (by decide)) (fun _ z => z) (by decide)
      obtain ⟨T1, g1, g2, g3⟩ := m_leave (X := X) (d := d) (w := w) (J := J) (LdP_fr hL hF1 (by decide) (by decide)) (ScP_fr hs hF1 (by decide)) hoff (WM_set hW b1) hP hD (t := nearF nT E Z) (h := h) ⟨b1, by omega⟩ b4 hh
      have hu2 : unS nT (Z ||| 2 ^ (nearF nT E Z).toNat) ≤ j := by
        have := unS_less Z b1 b3 nT.toNat
        rw [if_pos (by omega)] at this
        have e1 : unS nT (Z ||| 2 ^ (nearF nT E Z).toNat) = unS nT Z - 1 := this
        omega
      obtain ⟨S', y1, y2, y3⟩ := ih T1 (leaveF rd s pl nR h (nearF nT E Z) E) (Z ||| 2 ^ (nearF nT E Z).toNat) (Fr_tr hF1 g3 (fun _ z => z) (by decide)) g2 (leaveF_DR a7 hD) hu2
      refine ⟨S', fun n hn => ?_, ?_, y3⟩
      · obtain ⟨n, rfl⟩ : ∃ n', n = n' + 1 := ⟨n - 1, by omega⟩
        obtain ⟨n1, z1, z2⟩ := m_near (X := X) (d := d) (w := w) (J := J) hL1 hW hD (h := h) n (by omega)
        rw [if_neg q] at z2
        obtain ⟨n2, z3, z4⟩ := g1 n1 (by omega)
        rw [e_X10_laysSoon_22]
        simp only [zl]
        rw [z2, z4]
        exact y1 n2 (by omega)
      · unfold dijN
        rw [if_neg q]
        exact y2
theorem m_laysSoon (hL : LdP S nT nR nC rd) (hs : ScP nR nC S s) (hoff : ∀ r, 0 ≤ r → r < nR → 0 ≤ s r ∧ s r < 7) (hpl : ∀ r, 0 ≤ r → r < nR → S 153 r = pl r) (hP : PL nR pl) {t h : Int} (ht : 0 ≤ t ∧ t < nT) (hh : 0 ≤ h ∧ h ≤ 6000) : ∃ S', am_call X aP (d + 4) 226 [.ref 132, .int (zI t), .int (zI h)] (mkS w (hI S) J) = some (.inl none, (mkS w (hI S') J)) ∧ (∀ k, 0 ≤ k → k < 7 → S' 154 k = soonF rd s pl nT nR t h k) ∧ (∀ r, 0 ≤ r → r < nR → S' 153 r = pl r) ∧ Fr [154, 155] S S' := by
  obtain ⟨-, -, -, -, a5, a6, a7, a8, a9, a10, a11⟩ := id hL
  rw [go_X10_laysSoon, e_X10_laysSoon_0, z_0]
  obtain ⟨T, ⟨v1, v2, v3⟩, k1⟩ := loopE (fun n k T => aR X (d + 3) m_X10_laysSoon n 2 [some (.ref 132), some (.int (zI t)), some (.int (zI h)), some (.int (zI k)), none, none, none] (0, 0) (mkS w (hI T) J)) (fun k T => Fr [154, 155] S T ∧ (∀ x, 0 ≤ x → x < k → T 154 x = D0 t x) ∧ (∀ x, 0 ≤ x → x < k → T 155 x = 0)) 7 1 (fun k T q1 q2 q3 => by
    obtain ⟨q3, q4, q5⟩ := q3
    have eD : D0 t k = if k = t then 0 else -1 := rfl
    refine ⟨uS (uS T 154 k (D0 t k)) 155 k 0, ⟨Fr_tr q3 (Fr_tr (Fr_u T (L := [154]) _ _ (by decide)) (Fr_u _ (L := [155]) _ _ (by decide)) (L := [154, 155]) (by decide) (by decide)) (fun _ z => z) (fun _ z => z), fun x x1 x2 => ?_, fun x x1 x2 => ?_⟩, fun n hn => ?_⟩
    · rw [uS_ne _ _ (Or.inl (by decide))]
      by_cases e : x = k
      · rw [e, uS_self]
      · rw [uS_ne _ _ (Or.inr e)]
        exact q4 x x1 (by omega)
    · by_cases e : x = k
      · rw [e, uS_self]
      · rw [uS_ne _ _ (Or.inr e), uS_ne _ _ (Or.inl (by decide))]
        exact q5 x x1 (by omega)
    · obtain ⟨n, rfl⟩ : ∃ n', n = n' + 1 := ⟨n - 1, by omega⟩
      refine ⟨n, by omega, ?_⟩
      show aR X (d + 3) m_X10_laysSoon (n + 1) 2 [some (.ref 132), some (.int (zI t)), some (.int (zI h)), some (.int (zI k)), none, none, none] (0, 0) (mkS w (hI T) J) = aR X (d + 3) m_X10_laysSoon n 2 [some (.ref 132), some (.int (zI t)), some (.int (zI h)), some (.int (zI ((k + 1)))), none, none, none] (0, 0) (mkS w (hI (uS (uS T 154 k (D0 t k)) 155 k 0)) J)
      rw [e_X10_laysSoon_2, eD]
      by_cases e : k = t
      · simp (disch := omega) only [hk, hu, hI_n, hI_un, z_nat, em_d, zl, z_add, z_sub, z_mul, z_lt, z_eq, gI_mk, gJ_mk, cI_some, cV_some, cJ_some, cI_x, cV_x, cJ_x, uS_self, uS_ne, if_pos, if_neg, b01, b01n, ite_not, if_true, if_false]
      · simp (disch := omega) only [hk, hu, hI_n, hI_un, z_nat, em_d, zl, z_add, z_sub, z_mul, z_lt, z_eq, gI_mk, gJ_mk, cI_some, cV_some, cJ_some, cI_x, cV_x, cJ_x, uS_self, uS_ne, if_pos, if_neg, b01, b01n, ite_not, if_true, if_false]) 7 0 S (by omega) (by omega) ⟨Fr_rf _ _, fun x _ _ => by omega, fun x _ _ => by omega⟩
  obtain ⟨n1, k2, k3⟩ := k1 9999999 (by omega)
  obtain ⟨n1, rfl⟩ : ∃ n', n1 = n' + 1 := ⟨n1 - 1, by omega⟩
  have w0 : WM T nT nR pl (D0 t) 0 := ⟨fun r r1 r2 => by rw [v1 153 (by decide)]; exact hpl r r1 r2, v2, fun x x1 x2 => by rw [v3 x x1 (by omega), Nat.zero_testBit]; rfl⟩
  have hu : unS nT 0 ≤ nT.toNat := by
    have := sumZ_r (f := fun t => if Nat.testBit 0 t.toNat = true then (0 : Int) else 1) (a := 0) (b := 1) nT.toNat (fun k _ _ => by show 0 ≤ (if Nat.testBit 0 k.toNat = true then (0 : Int) else 1) ∧ (if Nat.testBit 0 k.toNat = true then (0 : Int) else 1) ≤ 1; split <;> omega)
    have h1 : (nT.toNat : Int) * 1 = nT.toNat := Int.mul_one _
    show sumZ _ nT.toNat ≤ _
    omega
  obtain ⟨S', g1, ⟨Z', g2⟩, g3⟩ := m_dij (X := X) (d := d) (w := w) (J := J) (LdP_fr hL v1 (by decide) (by decide)) (ScP_fr hs v1 (by decide)) hoff hP (h := h) hh nT.toNat T (D0 t) 0 (Fr_rf _ _) w0 (D0_DR t) hu
  refine ⟨S', ?_, g2.2.1, g2.1, Fr_tr v1 g3 (fun _ z => z) (fun _ z => z)⟩
  rw [k3]
  show aR X (d + 3) m_X10_laysSoon (n1 + 1) 2 [some (.ref 132), some (.int (zI t)), some (.int (zI h)), some (.int (zI 7)), none, none, none] (0, 0) (mkS w (hI T) J) = _
  rw [e_X10_laysSoon_2]
  simp (disch := omega) only [hk, hu, hI_n, hI_un, z_nat, em_d, zl, z_add, z_sub, z_mul, z_lt, z_eq, gI_mk, gJ_mk, cI_some, cV_some, cJ_some, cI_x, cV_x, cJ_x, uS_self, uS_ne, if_pos, if_neg, b01, b01n, ite_not, if_true, if_false]
  exact g1 n1 (by omega)
end MSO
