/-! LOOK and FITS, both sides -/
abbrev Fb (l : Nat) (S S' : Hp) : Prop := Fr [l, l + 3] S S' ∧ ∀ k, k ≠ 4 → k ≠ 5 → S' l k = S l k
theorem Fb_rf (l : Nat) (S : Hp) : Fb l S S := ⟨fun _ _ => rfl, fun _ _ _ => rfl⟩
theorem Fb_tr {l : Nat} {S S1 S2 : Hp} (h : Fb l S S1) (h2 : Fb l S1 S2) : Fb l S S2 := ⟨fun o ho => (h2.1 o ho).trans (h.1 o ho), fun k a b => (h2.2 k a b).trans (h.2 k a b)⟩
theorem Fb_3 {l : Nat} {S S1 : Hp} (h : Fr [l + 3] S S1) : Fb l S S1 := ⟨fun o ho => h o (fun z => ho (by rw [List.mem_singleton.mp z]; exact List.mem_cons_of_mem _ (List.mem_singleton.mpr rfl))), fun k _ _ => by rw [h l (fun z => by have := List.mem_singleton.mp z; omega)]⟩
theorem Fb_u {l : Nat} (S : Hp) {k : Int} (v : Int) (h : k = 4 ∨ k = 5) : Fb l S (uS S l k v) := ⟨fun o ho => uS_row _ _ _ (fun z => ho (by rw [z]; exact List.mem_cons_self ..)), fun x a b => uS_ne _ _ (Or.inr (by rcases h with h | h <;> omega))⟩
theorem CB_fb {l : Nat} {S S1 : Hp} {nB : Int} {bk : Int → Int} (h : CB S l nB bk) (hF : Fb l S S1) : CB S1 l nB bk := CB_of h (hF.2 3 (by decide) (by decide)) (hF.1 _ (by simp)) (hF.1 _ (by simp))
section LOK
variable {X : Nat × (Nat → Int32)} {d : Nat} {w : Bool × Bool × Bool} {S : Hp} {J : Nat → Nat → Int64} {nT nR nC nB : Int} {rd s bk : Int → Int} {cd : List (Int × Int)} {bb : Bool}
theorem l_lk26 {len p h : Int} {D : Nat} (hl : 0 ≤ len ∧ len ≤ 40) (hp : 0 ≤ p ∧ p ≤ 9) (hh : 0 ≤ h ∧ h < 56) : ∀ (j k : Nat) (S : Hp), k + j = 7 → (∀ o : Int, 0 ≤ o → o < k → S (iB bb + 3) o = dlV len p o h) → ∃ S', (∀ f, aR X (d + 3) m_X0_lookFor (f + j + 1) 26 [some (.ref ((iB bb))), some (.int (zI len)), some (.int (zI p)), some (.int (zI ((D : Int)))), some (.int (zI h)), some (.int (zI ((k : Int))))] (0, 0) (mkS w (hI S) J) = aR X (d + 3) m_X0_lookFor (f + 1) 26 [some (.ref ((iB bb))), some (.int (zI len)), some (.int (zI p)), some (.int (zI ((D : Int)))), some (.int (zI h)), some (.int (zI 7))] (0, 0) (mkS w (hI S') J)) ∧ (∀ o : Int, 0 ≤ o → o < 7 → S' (iB bb + 3) o = dlV len p o h) ∧ Fr [iB bb + 3] S S'
  | 0, k, S, h1, h2 => by
    have : k = 7 := by omega
    subst this
    exact ⟨S, fun f => rfl, h2, fun _ _ => rfl⟩
  | j + 1, k, S, h1, h2 => by
    have hd := fun d => c_dayLater (X := X) (d := d) (w := w) (S := S) (J := J) (off := (k : Int)) hl hp (by omega) hh
    obtain ⟨S', g1, g2, g3⟩ := l_lk26 (D := D) hl hp hh j (k + 1) (uS S (iB bb + 3) (k : Int) (dlV len p (k : Int) h)) (by omega) (fun o o1 o2 => by
      by_cases e : o = (k : Int)
      · rw [e, uS_self]
      · rw [uS_ne _ _ (Or.inr e)]
        exact h2 o o1 (by omega))
    refine ⟨S', fun f => ?_, g2, fun o ho => ?_⟩
    · have g1 := g1 f
      rw [show ((k + 1 : Nat) : Int) = (k : Int) + 1 by omega] at g1
      rw [show f + (j + 1) + 1 = (f + j + 1) + 1 by omega, e_X0_lookFor_26]
      simp (disch := omega) only [hk, hu, hI_n, hI_un, z_nat, em_d, zl, z_add, z_sub, z_mul, z_lt, z_eq, gI_mk, gJ_mk, cI_some, cV_some, cJ_some, cI_x, cV_x, cJ_x, uS_self, uS_ne, if_pos, if_neg, b01, b01n, ite_not, if_true, if_false, Bool.false_eq_true, hLL]
      rw [hd]
      simp (disch := omega) only [hk, hu, hI_n, hI_un, z_nat, em_d, zl, z_add, z_sub, z_mul, z_lt, z_eq, gI_mk, gJ_mk, cI_some, cV_some, cJ_some, cI_x, cV_x, cJ_x, uS_self, uS_ne, if_pos, if_neg, b01, b01n, ite_not, if_true, if_false, Bool.false_eq_true, hLL]
      exact g1
    · rw [g3 o ho]
      exact uS_row _ _ _ (fun z => ho (List.mem_singleton.mpr z))
theorem l_lk16 {len p : Int} {D : Nat} (hD : D < 2147483648) (hl : 0 ≤ len ∧ len ≤ 40) (hp : 0 ≤ p ∧ p ≤ 9) : ∀ (j k : Nat) (S : Hp) (a : Int × Int), k + j = 56 → CB S (iB bb) nB bk → S (iB bb) 4 = a.1 → S (iB bb) 5 = a.2 → okLk a → ∃ S', (∀ n, 12 * j + 1 ≤ n → aR X (d + 3) m_X0_lookFor n 16 [some (.ref ((iB bb))), some (.int (zI len)), some (.int (zI p)), some (.int (zI ((D : Int)))), some (.int (zI ((k : Int)))), none] (0, 0) (mkS w (hI S) J) = some (.inl none, (mkS w (hI S') J))) ∧ S' (iB bb) 4 = (fold (lokS nB bk len p D) j (k : Int) a).1 ∧ S' (iB bb) 5 = (fold (lokS nB bk len p D) j (k : Int) a).2 ∧ Fb (iB bb) S S'
  | 0, k, S, a, h1, hB, t4, t5, ha => by
    have : k = 56 := by omega
    subst this
    refine ⟨S, fun n hn => ?_, t4, t5, Fb_rf _ _⟩
    obtain ⟨n, rfl⟩ : ∃ m, n = m + 1 := ⟨n - 1, by omega⟩
    rw [e_X0_lookFor_16]
    simp (disch := omega) only [hk, hu, hI_n, hI_un, z_nat, em_d, zl, z_add, z_sub, z_mul, z_lt, z_eq, gI_mk, gJ_mk, cI_some, cV_some, cJ_some, cI_x, cV_x, cJ_x, uS_self, uS_ne, if_pos, if_neg, b01, b01n, ite_not, if_true, if_false, Bool.false_eq_true, hLL, rV_d]
  | j + 1, k, S, a, h1, hB, t4, t5, ha => by
    have ht := fun d => c_isTold (X := X) (d := d) (w := w) (J := J) hB (h := (k : Int)) (by omega)
    have ek : ((k + 1 : Nat) : Int) = (k : Int) + 1 := by omega
    have hwr := worst_r (fun o => dlV len p o (k : Int)) D
    by_cases q : tolB bk (k : Int) nB.toNat 0 = true
    · have e : lokS nB bk len p D (k : Int) a = a := if_pos q
      obtain ⟨S', g1, g2, g3, g4⟩ := l_lk16 hD hl hp j (k + 1) S a (by omega) hB t4 t5 ha
      rw [ek] at g1 g2 g3
      have ef : fold (lokS nB bk len p D) (j + 1) (k : Int) a = fold (lokS nB bk len p D) j ((k : Int) + 1) a := by
        show fold (lokS nB bk len p D) j ((k : Int) + 1) (lokS nB bk len p D (k : Int) a) = _
        rw [e]
      refine ⟨S', fun n hn => ?_, by rw [ef]; exact g2, by rw [ef]; exact g3, g4⟩
      obtain ⟨n, rfl⟩ : ∃ m, n = m + 1 := ⟨n - 1, by omega⟩
      rw [e_X0_lookFor_16]
      simp (disch := omega) only [hk, hu, hI_n, hI_un, z_nat, em_d, zl, z_add, z_sub, z_mul, z_lt, z_eq, gI_mk, gJ_mk, cI_some, cV_some, cJ_some, cI_x, cV_x, cJ_x, uS_self, uS_ne, if_pos, if_neg, b01, b01n, ite_not, if_true, if_false, Bool.false_eq_true, hLL]
      rw [ht]
      simp (disch := omega) only [hk, hu, hI_n, hI_un, z_nat, em_d, zl, z_add, z_sub, z_mul, z_lt, z_eq, gI_mk, gJ_mk, cI_some, cV_some, cJ_some, cI_x, cV_x, cJ_x, uS_self, uS_ne, if_pos, if_neg, b01, b01n, ite_not, if_true, if_false, Bool.false_eq_true, hLL, q]
      exact g1 n (by omega)
    · obtain ⟨S1, k1, k2, k3⟩ := l_lk26 (X := X) (d := d) (w := w) (J := J) (bb := bb) (D := D) hl hp (h := (k : Int)) (by omega) 7 0 S (by decide) (fun o o1 o2 => absurd o2 (by omega))
      have hB1 := CB_fb hB (Fb_3 k3)
      have hm := fun d => c_alike (X := X) (d := d) (w := w) (J := J) (bb := bb) (S := S1) (g := fun o => dlV len p o (k : Int)) (fun o o1 o2 => ⟨k2 o o1 o2, dlV_r hl hp (by omega)⟩) hD
      have u4 : S1 (iB bb) 4 = a.1 := by rw [k3 _ (by simp)]; exact t4
      have u5 : S1 (iB bb) 5 = a.2 := by rw [k3 _ (by simp)]; exact t5
      by_cases q2 : a.1 = -1 ∨ worst (fun o => dlV len p o (k : Int)) D < a.2
      · have e : lokS nB bk len p D (k : Int) a = ((k : Int), worst (fun o => dlV len p o (k : Int)) D) := by
          unfold lokS
          rw [if_neg q, if_pos q2]
        obtain ⟨S', g1, g2, g3, g4⟩ := l_lk16 hD hl hp j (k + 1) (uS (uS S1 (iB bb) 4 (k : Int)) (iB bb) 5 (worst (fun o => dlV len p o (k : Int)) D)) ((k : Int), worst (fun o => dlV len p o (k : Int)) D) (by omega) (CB_fb hB1 (Fb_tr (Fb_u S1 _ (Or.inl rfl)) (Fb_u _ _ (Or.inr rfl)))) (by rw [uS_ne _ _ (Or.inr (by decide)), uS_self]) (uS_self _ _ _ _) (Or.inr ⟨by omega, by omega, hwr⟩)
        rw [ek] at g1 g2 g3
        have ef : fold (lokS nB bk len p D) (j + 1) (k : Int) a = fold (lokS nB bk len p D) j ((k : Int) + 1) ((k : Int), worst (fun o => dlV len p o (k : Int)) D) := by
          show fold (lokS nB bk len p D) j ((k : Int) + 1) (lokS nB bk len p D (k : Int) a) = _
          rw [e]
        refine ⟨S', fun n hn => ?_, by rw [ef]; exact g2, by rw [ef]; exact g3, Fb_tr (Fb_3 k3) (Fb_tr (Fb_tr (Fb_u S1 _ (Or.inl rfl)) (Fb_u _ _ (Or.inr rfl))) g4)⟩
        obtain ⟨n, rfl⟩ : ∃ m, n = m + 1 + 1 + 7 + 1 := ⟨n - 10, by omega⟩
        have fin := g1 n (by omega)
        rw [show n + 1 + 1 + 7 + 1 = (n + 1 + 7 + 1) + 1 by omega, e_X0_lookFor_16]
        simp (disch := omega) only [hk, hu, hI_n, hI_un, z_nat, em_d, zl, z_add, z_sub, z_mul, z_lt, z_eq, gI_mk, gJ_mk, cI_some, cV_some, cJ_some, cI_x, cV_x, cJ_x, uS_self, uS_ne, if_pos, if_neg, b01, b01n, ite_not, if_true, if_false, Bool.false_eq_true, hLL]
        rw [ht]
        simp (disch := omega) only [hk, hu, hI_n, hI_un, z_nat, em_d, zl, z_add, z_sub, z_mul, z_lt, z_eq, gI_mk, gJ_mk, cI_some, cV_some, cJ_some, cI_x, cV_x, cJ_x, uS_self, uS_ne, if_pos, if_neg, b01, b01n, ite_not, if_true, if_false, Bool.false_eq_true, hLL, q]
        have k1 := k1 (n + 1)
        rw [show ((0 : Nat) : Int) = 0 from rfl] at k1
        rw [k1]
        rw [e_X0_lookFor_26]
        simp (disch := omega) only [hk, hu, hI_n, hI_un, z_nat, em_d, zl, z_add, z_sub, z_mul, z_lt, z_eq, gI_mk, gJ_mk, cI_some, cV_some, cJ_some, cI_x, cV_x, cJ_x, uS_self, uS_ne, if_pos, if_neg, b01, b01n, ite_not, if_true, if_false, Bool.false_eq_true, hLL]
        rw [hm]
        have f52 : aR X (d + 3) m_X0_lookFor (n + 1) 52 [some (.ref ((iB bb))), some (.int (zI len)), some (.int (zI p)), some (.int (zI ((D : Int)))), some (.int (zI ((k : Int)))), some (.int (zI ((worst (fun o => dlV len p o (k : Int)) D))))] (0, 0) (mkS w (hI S1) J) = some (.inl none, (mkS w (hI S') J)) := by
          rw [e_X0_lookFor_52]
          simp (disch := omega) only [hk, hu, hI_n, hI_un, z_nat, em_d, zl, z_add, z_sub, z_mul, z_lt, z_eq, gI_mk, gJ_mk, cI_some, cV_some, cJ_some, cI_x, cV_x, cJ_x, uS_self, uS_ne, if_pos, if_neg, b01, b01n, ite_not, if_true, if_false, Bool.false_eq_true, hLL]
          exact fin
        by_cases q3 : a.2 = -1
        · simp (disch := omega) only [hk, hu, hI_n, hI_un, z_nat, em_d, zl, z_add, z_sub, z_mul, z_lt, z_eq, gI_mk, gJ_mk, cI_some, cV_some, cJ_some, cI_x, cV_x, cJ_x, uS_self, uS_ne, if_pos, if_neg, b01, b01n, ite_not, if_true, if_false, Bool.false_eq_true, hLL, u5, q3]
          exact f52
        · have q4 : worst (fun o => dlV len p o (k : Int)) D < a.2 := by
            rcases q2 with q2 | q2
            · omega
            · exact q2
          simp (disch := omega) only [hk, hu, hI_n, hI_un, z_nat, em_d, zl, z_add, z_sub, z_mul, z_lt, z_eq, gI_mk, gJ_mk, cI_some, cV_some, cJ_some, cI_x, cV_x, cJ_x, uS_self, uS_ne, if_pos, if_neg, b01, b01n, ite_not, if_true, if_false, Bool.false_eq_true, hLL, u5, q3]
          exact f52
      · have e : lokS nB bk len p D (k : Int) a = a := by
          unfold lokS
          rw [if_neg q, if_neg q2]
        obtain ⟨S', g1, g2, g3, g4⟩ := l_lk16 hD hl hp j (k + 1) S1 a (by omega) hB1 u4 u5 ha
        rw [ek] at g1 g2 g3
        have ef : fold (lokS nB bk len p D) (j + 1) (k : Int) a = fold (lokS nB bk len p D) j ((k : Int) + 1) a := by
          show fold (lokS nB bk len p D) j ((k : Int) + 1) (lokS nB bk len p D (k : Int) a) = _
          rw [e]
        refine ⟨S', fun n hn => ?_, by rw [ef]; exact g2, by rw [ef]; exact g3, Fb_tr (Fb_3 k3) g4⟩
        obtain ⟨n, rfl⟩ : ∃ m, n = m + 1 + 7 + 1 := ⟨n - 9, by omega⟩
        have q3 : ¬ a.2 = -1 := fun z => q2 (by omega)
        have q4 : ¬ worst (fun o => dlV len p o (k : Int)) D < a.2 := fun z => q2 (Or.inr z)
        rw [show n + 1 + 7 + 1 = (n + 7 + 1) + 1 by omega, e_X0_lookFor_16]
        simp (disch := omega) only [hk, hu, hI_n, hI_un, z_nat, em_d, zl, z_add, z_sub, z_mul, z_lt, z_eq, gI_mk, gJ_mk, cI_some, cV_some, cJ_some, cI_x, cV_x, cJ_x, uS_self, uS_ne, if_pos, if_neg, b01, b01n, ite_not, if_true, if_false, Bool.false_eq_true, hLL]
        rw [ht]
        simp (disch := omega) only [hk, hu, hI_n, hI_un, z_nat, em_d, zl, z_add, z_sub, z_mul, z_lt, z_eq, gI_mk, gJ_mk, cI_some, cV_some, cJ_some, cI_x, cV_x, cJ_x, uS_self, uS_ne, if_pos, if_neg, b01, b01n, ite_not, if_true, if_false, Bool.false_eq_true, hLL, q]
        have k1 := k1 n
        rw [show ((0 : Nat) : Int) = 0 from rfl] at k1
        rw [k1]
        rw [e_X0_lookFor_26]
        simp (disch := omega) only [hk, hu, hI_n, hI_un, z_nat, em_d, zl, z_add, z_sub, z_mul, z_lt, z_eq, gI_mk, gJ_mk, cI_some, cV_some, cJ_some, cI_x, cV_x, cJ_x, uS_self, uS_ne, if_pos, if_neg, b01, b01n, ite_not, if_true, if_false, Bool.false_eq_true, hLL]
        rw [hm]
        simp (disch := omega) only [hk, hu, hI_n, hI_un, z_nat, em_d, zl, z_add, z_sub, z_mul, z_lt, z_eq, gI_mk, gJ_mk, cI_some, cV_some, cJ_some, cI_x, cV_x, cJ_x, uS_self, uS_ne, if_pos, if_neg, b01, b01n, ite_not, if_true, if_false, Bool.false_eq_true, hLL, u5]
        exact g1 n (by omega)
theorem fitB_lt (nB : Int) (bk : Int → Int) (len p : Int) : fitB nB bk len p < 2147483648 := nat_lt_two (bits_lt _ 7) (by decide)
theorem c_lookFor (hB : CB S (iB bb) nB bk) {len p : Int} (hl : 0 ≤ len ∧ len ≤ 40) (hp : 0 ≤ p ∧ p ≤ 9) : ∃ S', am_call X aP (d + 4) 7 [.ref ((iB bb)), .int (zI len), .int (zI p)] (mkS w (hI S) J) = some (.inl none, (mkS w (hI S') J)) ∧ S' (iB bb) 4 = lokA nB bk len p 0 ∧ S' (iB bb) 5 = lokA nB bk len p 1 ∧ Fb (iB bb) S S' := by
  have hf := fun d => c_fitting (X := X) (d := d) (w := w) (J := J) hB hl hp
  have hlt := fitB_lt nB bk len p
  have hF0 : Fb (iB bb) S (uS (uS S (iB bb) 4 (-1)) (iB bb) 5 (-1)) := Fb_tr (Fb_u S _ (Or.inl rfl)) (Fb_u _ _ (Or.inr rfl))
  unfold lokA
  by_cases q : fitB nB bk len p = 0
  · rw [if_pos q, if_pos q]
    refine ⟨_, ?_, ?_, uS_self _ _ _ _, hF0⟩
    · rw [go_X0_lookFor, e_X0_lookFor_0, hf]
      simp (disch := omega) only [hk, hu, hI_n, hI_un, z_nat, em_d, zl, z_add, z_sub, z_mul, z_lt, z_eq, gI_mk, gJ_mk, cI_some, cV_some, cJ_some, cI_x, cV_x, cJ_x, uS_self, uS_ne, if_pos, if_neg, b01, b01n, ite_not, if_true, if_false, Bool.false_eq_true, hLL, z_zero hlt, q, rV_d]
    · rw [uS_ne _ _ (Or.inr (by decide)), uS_self]
  · obtain ⟨S', g1, g2, g3, g4⟩ := l_lk16 (X := X) (d := d) (w := w) (J := J) (bb := bb) hlt hl hp 56 0 (uS (uS S (iB bb) 4 (-1)) (iB bb) 5 (-1)) (-1, -1) (by decide) (CB_fb hB hF0) (by rw [uS_ne _ _ (Or.inr (by decide)), uS_self]) (uS_self _ _ _ _) (Or.inl ⟨rfl, rfl⟩)
    rw [if_neg q, if_neg q, if_pos rfl, if_neg (by decide)]
    refine ⟨S', ?_, g2, g3, Fb_tr hF0 g4⟩
    rw [go_X0_lookFor, e_X0_lookFor_0, hf]
    simp (disch := omega) only [hk, hu, hI_n, hI_un, z_nat, em_d, zl, z_add, z_sub, z_mul, z_lt, z_eq, gI_mk, gJ_mk, cI_some, cV_some, cJ_some, cI_x, cV_x, cJ_x, uS_self, uS_ne, if_pos, if_neg, b01, b01n, ite_not, if_true, if_false, Bool.false_eq_true, hLL, z_zero hlt, q]
    exact g1 9999999 (by decide)
theorem c_fits (hL : CL S (iL w.1) nT nR nC rd) (hc : CW S (iW w.2.1) cd) (hB : CB S (iB w.2.2) nB bk) {r : Int} (hr : 0 ≤ r ∧ r < nR) : ∃ S', am_call X aP (d + 4) 125 [.ref 0, .int (zI r)] (mkS w (hI S) J) = some (.inl (some (.int (zI ((fitB nB bk (rd (4 * r + 2)) (plainZ cd rd r) : Nat))))), (mkS w (hI S') J)) ∧ Fr [iW w.2.1 + 3, iW w.2.1 + 4] S S' := by
  obtain ⟨-, -, -, a4, -, -, a7, a8, -, -, a11⟩ := id hL
  obtain ⟨S1, h1, h2⟩ := c_plain (X := X) (d := d) (w := w) (J := J) (bl := w.1) (bw := w.2.1) hL hc hr
  have e3 := (a4 r hr.1 hr.2).2.2
  obtain ⟨-, -, -, -, l1, l2⟩ := a11 r hr.1 hr.2
  have hw := iW_c w.2.1
  have hb := iB_c w.2.2
  have hl := iL_c w.1
  have n3 : S1 (iL w.1 + 3) r = rd (4 * r + 2) := by rw [h2 _ (by simp only [List.mem_cons, List.not_mem_nil, or_false]; omega)]; exact e3
  have hB1 : CB S1 (iB w.2.2) nB bk := CB_of hB (by rw [h2 _ (by simp only [List.mem_cons, List.not_mem_nil, or_false]; omega)]) (h2 _ (by simp only [List.mem_cons, List.not_mem_nil, or_false]; omega)) (h2 _ (by simp only [List.mem_cons, List.not_mem_nil, or_false]; omega))
  have hp := PL_z cd rd nR r hr.1 hr.2
  have hf := fun d => c_fitting (X := X) (d := d) (w := w) (J := J) (bb := w.2.2) hB1 (len := rd (4 * r + 2)) (p := plainZ cd rd r) ⟨by omega, by omega⟩ hp
  refine ⟨S1, ?_, h2⟩
  rw [go_X9_fits, e_X9_fits_0]
  simp (disch := omega) only [hk, hu, hI_n, hI_un, z_nat, em_d, zl, z_add, z_sub, z_mul, z_lt, z_eq, gI_mk, gJ_mk, cI_some, cV_some, cJ_some, cI_x, cV_x, cJ_x, uS_self, uS_ne, if_pos, if_neg, b01, b01n, ite_not, if_true, if_false, Bool.false_eq_true, c_road1 hL hr]
  rw [show 9999999 = 9999998 + 1 from rfl, e_X9_fits_3]
  simp (disch := omega) only [hk, hu, hI_n, hI_un, z_nat, em_d, zl, z_add, z_sub, z_mul, z_lt, z_eq, gI_mk, gJ_mk, cI_some, cV_some, cJ_some, cI_x, cV_x, cJ_x, uS_self, uS_ne, if_pos, if_neg, b01, b01n, ite_not, if_true, if_false, Bool.false_eq_true, hLL]
  rw [h1]
  simp (disch := omega) only [hk, hu, hI_n, hI_un, z_nat, em_d, zl, z_add, z_sub, z_mul, z_lt, z_eq, gI_mk, gJ_mk, cI_some, cV_some, cJ_some, cI_x, cV_x, cJ_x, uS_self, uS_ne, if_pos, if_neg, b01, b01n, ite_not, if_true, if_false, Bool.false_eq_true, hLL, e3]
  rw [hf]
  simp (disch := omega) only [hk, hu, hI_n, hI_un, z_nat, em_d, zl, z_add, z_sub, z_mul, z_lt, z_eq, gI_mk, gJ_mk, cI_some, cV_some, cJ_some, cI_x, cV_x, cJ_x, uS_self, uS_ne, if_pos, if_neg, b01, b01n, ite_not, if_true, if_false, Bool.false_eq_true, hLL, rI_d]
theorem c_fitsN (hL : CL S (iL w.1) nT nR nC rd) {r : Int} (hb : -2147483648 ≤ r ∧ r < 2147483648) (hr : ¬ (0 ≤ r ∧ r < nR)) : am_call X aP (d + 4) 125 [.ref 0, .int (zI r)] (mkS w (hI S) J) = some (.inr 1, (mkS w (hI (xnS S)) J)) := by
  rw [go_X9_fits, e_X9_fits_0]
  simp (disch := omega) only [hk, hu, hI_n, hI_un, z_nat, em_d, zl, z_add, z_sub, z_mul, z_lt, z_eq, gI_mk, gJ_mk, cI_some, cV_some, cJ_some, cI_x, cV_x, cJ_x, uS_self, uS_ne, if_pos, if_neg, b01, b01n, ite_not, if_true, if_false, Bool.false_eq_true, c_road0 hL hb hr, rX_d]
theorem c_look (hL : CL S (iL w.1) nT nR nC rd) (hc : CW S (iW w.2.1) cd) (hB : CB S (iB w.2.2) nB bk) {r q : Int} (hr : 0 ≤ r ∧ r < nR) (hq : 0 ≤ q ∧ q ≤ 1) : ∃ S', am_call X aP (d + 5) 126 [.ref 0, .int (zI r), .int (zI q)] (mkS w (hI S) J) = some (.inl (some (.int (zI (lokA nB bk (rd (4 * r + 2)) (plainZ cd rd r) q)))), (mkS w (hI S') J)) ∧ Fr [iW w.2.1 + 3, iW w.2.1 + 4, iB w.2.2, iB w.2.2 + 3] S S' ∧ CB S' (iB w.2.2) nB bk := by
  obtain ⟨-, -, -, a4, -, -, a7, a8, -, -, a11⟩ := id hL
  obtain ⟨S1, h1, h2⟩ := c_plain (X := X) (d := d + 1) (w := w) (J := J) (bl := w.1) (bw := w.2.1) hL hc hr
  have e3 := (a4 r hr.1 hr.2).2.2
  obtain ⟨-, -, -, -, l1, l2⟩ := a11 r hr.1 hr.2
  have hw := iW_c w.2.1
  have hb := iB_c w.2.2
  have hl := iL_c w.1
  have n3 : S1 (iL w.1 + 3) r = rd (4 * r + 2) := by rw [h2 _ (by simp only [List.mem_cons, List.not_mem_nil, or_false]; omega)]; exact e3
  have hB1 : CB S1 (iB w.2.2) nB bk := CB_of hB (by rw [h2 _ (by simp only [List.mem_cons, List.not_mem_nil, or_false]; omega)]) (h2 _ (by simp only [List.mem_cons, List.not_mem_nil, or_false]; omega)) (h2 _ (by simp only [List.mem_cons, List.not_mem_nil, or_false]; omega))
  have hp := PL_z cd rd nR r hr.1 hr.2
  obtain ⟨S2, g1, g2, g3, g4⟩ := c_lookFor (X := X) (d := d) (w := w) (J := J) (bb := w.2.2) hB1 (len := rd (4 * r + 2)) (p := plainZ cd rd r) ⟨by omega, by omega⟩ hp
  refine ⟨S2, ?_, Fr_tr h2 g4.1 (by simp) (by simp), CB_fb hB1 g4⟩
  rw [go_X9_look, e_X9_look_0]
  simp (disch := omega) only [hk, hu, hI_n, hI_un, z_nat, em_d, zl, z_add, z_sub, z_mul, z_lt, z_eq, gI_mk, gJ_mk, cI_some, cV_some, cJ_some, cI_x, cV_x, cJ_x, uS_self, uS_ne, if_pos, if_neg, b01, b01n, ite_not, if_true, if_false, Bool.false_eq_true, c_road1 hL hr]
  rw [show 9999999 = 9999998 + 1 from rfl, e_X9_look_3]
  have : q = 0 ∨ q = 1 := by omega
  rcases this with rfl | rfl
  · simp (disch := omega) only [hk, hu, hI_n, hI_un, z_nat, em_d, zl, z_add, z_sub, z_mul, z_lt, z_eq, gI_mk, gJ_mk, cI_some, cV_some, cJ_some, cI_x, cV_x, cJ_x, uS_self, uS_ne, if_pos, if_neg, b01, b01n, ite_not, if_true, if_false, Bool.false_eq_true, c_req1]
    rw [show 9999998 = 9999997 + 1 from rfl, e_X9_look_13]
    simp (disch := omega) only [hk, hu, hI_n, hI_un, z_nat, em_d, zl, z_add, z_sub, z_mul, z_lt, z_eq, gI_mk, gJ_mk, cI_some, cV_some, cJ_some, cI_x, cV_x, cJ_x, uS_self, uS_ne, if_pos, if_neg, b01, b01n, ite_not, if_true, if_false, Bool.false_eq_true, hLL]
    rw [h1]
    simp (disch := omega) only [hk, hu, hI_n, hI_un, z_nat, em_d, zl, z_add, z_sub, z_mul, z_lt, z_eq, gI_mk, gJ_mk, cI_some, cV_some, cJ_some, cI_x, cV_x, cJ_x, uS_self, uS_ne, if_pos, if_neg, b01, b01n, ite_not, if_true, if_false, Bool.false_eq_true, hLL, e3]
    rw [g1]
    simp (disch := omega) only [hk, hu, hI_n, hI_un, z_nat, em_d, zl, z_add, z_sub, z_mul, z_lt, z_eq, gI_mk, gJ_mk, cI_some, cV_some, cJ_some, cI_x, cV_x, cJ_x, uS_self, uS_ne, if_pos, if_neg, b01, b01n, ite_not, if_true, if_false, Bool.false_eq_true, hLL, g2, rI_d]
  · simp (disch := omega) only [hk, hu, hI_n, hI_un, z_nat, em_d, zl, z_add, z_sub, z_mul, z_lt, z_eq, gI_mk, gJ_mk, cI_some, cV_some, cJ_some, cI_x, cV_x, cJ_x, uS_self, uS_ne, if_pos, if_neg, b01, b01n, ite_not, if_true, if_false, Bool.false_eq_true, c_req1]
    rw [show 9999998 = 9999997 + 1 from rfl, e_X9_look_13]
    simp (disch := omega) only [hk, hu, hI_n, hI_un, z_nat, em_d, zl, z_add, z_sub, z_mul, z_lt, z_eq, gI_mk, gJ_mk, cI_some, cV_some, cJ_some, cI_x, cV_x, cJ_x, uS_self, uS_ne, if_pos, if_neg, b01, b01n, ite_not, if_true, if_false, Bool.false_eq_true, hLL]
    rw [h1]
    simp (disch := omega) only [hk, hu, hI_n, hI_un, z_nat, em_d, zl, z_add, z_sub, z_mul, z_lt, z_eq, gI_mk, gJ_mk, cI_some, cV_some, cJ_some, cI_x, cV_x, cJ_x, uS_self, uS_ne, if_pos, if_neg, b01, b01n, ite_not, if_true, if_false, Bool.false_eq_true, hLL, e3]
    rw [g1]
    simp (disch := omega) only [hk, hu, hI_n, hI_un, z_nat, em_d, zl, z_add, z_sub, z_mul, z_lt, z_eq, gI_mk, gJ_mk, cI_some, cV_some, cJ_some, cI_x, cV_x, cJ_x, uS_self, uS_ne, if_pos, if_neg, b01, b01n, ite_not, if_true, if_false, Bool.false_eq_true, hLL, g3, rI_d]
theorem c_lookN (hL : CL S (iL w.1) nT nR nC rd) {r q : Int} (hb : -2147483648 ≤ r ∧ r < 2147483648) (hr : ¬ (0 ≤ r ∧ r < nR)) : am_call X aP (d + 5) 126 [.ref 0, .int (zI r), .int (zI q)] (mkS w (hI S) J) = some (.inr 1, (mkS w (hI (xnS S)) J)) := by
  rw [go_X9_look, e_X9_look_0]
  simp (disch := omega) only [hk, hu, hI_n, hI_un, z_nat, em_d, zl, z_add, z_sub, z_mul, z_lt, z_eq, gI_mk, gJ_mk, cI_some, cV_some, cJ_some, cI_x, cV_x, cJ_x, uS_self, uS_ne, if_pos, if_neg, b01, b01n, ite_not, if_true, if_false, Bool.false_eq_true, c_road0 hL hb hr, rX_d]
theorem c_lookB (hL : CL S (iL w.1) nT nR nC rd) {r q : Int} (hr : 0 ≤ r ∧ r < nR) (hb : -2147483648 ≤ q ∧ q < 2147483648) (hq : ¬ (0 ≤ q ∧ q ≤ 1)) : am_call X aP (d + 5) 126 [.ref 0, .int (zI r), .int (zI q)] (mkS w (hI S) J) = some (.inr 2, (mkS w (hI (xbS S)) J)) := by
  rw [go_X9_look, e_X9_look_0]
  simp (disch := omega) only [hk, hu, hI_n, hI_un, z_nat, em_d, zl, z_add, z_sub, z_mul, z_lt, z_eq, gI_mk, gJ_mk, cI_some, cV_some, cJ_some, cI_x, cV_x, cJ_x, uS_self, uS_ne, if_pos, if_neg, b01, b01n, ite_not, if_true, if_false, Bool.false_eq_true, c_road1 hL hr]
  rw [show 9999999 = 9999998 + 1 from rfl, e_X9_look_3]
  simp (disch := omega) only [hk, hu, hI_n, hI_un, z_nat, em_d, zl, z_add, z_sub, z_mul, z_lt, z_eq, gI_mk, gJ_mk, cI_some, cV_some, cJ_some, cI_x, cV_x, cJ_x, uS_self, uS_ne, if_pos, if_neg, b01, b01n, ite_not, if_true, if_false, Bool.false_eq_true, c_req0, rX_d]
/-! the reference -/
theorem m_milesBy (hL : LdP S nT nR nC rd) {r p off h : Int} (hr : 0 ≤ r ∧ r < nR) (e : S 153 r = p) (hp : 0 ≤ p ∧ p ≤ 9) (ho : 0 ≤ off ∧ off < 7) (hh : 0 ≤ h ∧ h < 56) : am_call X aP (d + 2) 243 [.ref 132, .int (zI r), .int (zI off), .int (zI h)] (mkS w (hI S) J) = some (.inl (some (.int (zI (dlV (rd (4 * r + 2)) p off h)))), (mkS w (hI S) J)) := by
  obtain ⟨a1, a2, a3, a4, a5, a6, a7, a8, a9, a10, a11⟩ := id hL
  have e2 := a4 (4 * r + 2) (by omega) (by omega)
  obtain ⟨-, -, -, -, l1, l2⟩ := a11 r hr.1 hr.2
  have hb : ∀ k : Nat, k ≤ 8 → 0 ≤ p * gonN h off k ∧ p * gonN h off k ≤ 72 := fun k hk8 => by
    have hg := sumZ_r (f := fun i => if dayOf (h + i) = off then 0 else 1) (a := 0) (b := 1) k (fun k _ _ => by split <;> decide)
    have h1 : 0 ≤ gonN h off k ∧ gonN h off k ≤ 8 := by
      unfold gonN
      omega
    have h2 := Int.mul_nonneg hp.1 h1.1
    have h3 : p * gonN h off k ≤ 9 * 8 := Int.mul_le_mul hp.2 h1.2 h1.1 (by decide)
    omega
  have key : ∀ (j k n : Nat), k + j = 8 → j + 1 ≤ n → aR X (d + 1) m_X10_milesBy n 4 [some (.ref 132), some (.int (zI r)), some (.int (zI off)), some (.int (zI h)), some (.int (zI ((p * gonN h off k)))), some (.int (zI ((k : Int))))] (0, 0) (mkS w (hI S) J) = some (.inl (some (.int (zI (dlV (rd (4 * r + 2)) p off h)))), (mkS w (hI S) J)) := by
    intro j
    induction j with
    | zero =>
      intro k n h1 h2
      obtain ⟨n, rfl⟩ : ∃ m, n = m + 1 := ⟨n - 1, by omega⟩
      have : k = 8 := by omega
      subst this
      have h8 := hb 8 (by decide)
      have eg : gonN h off 8 = goS h off := by
        have := gon_ok h.toNat (by omega) off.toNat (by omega)
        rw [Int.toNat_of_nonneg hh.1, Int.toNat_of_nonneg ho.1] at this
        exact this
      rw [e_X10_milesBy_4]
      unfold dlV
      rw [eg] at h8 ⊢
      by_cases q : rd (4 * r + 2) < p * goS h off
      · rw [show min (rd (4 * r + 2)) (p * goS h off) = rd (4 * r + 2) by omega]
        simp (disch := omega) only [hk, hu, hI_n, hI_un, z_nat, em_d, zl, z_add, z_sub, z_mul, z_lt, z_eq, gI_mk, gJ_mk, cI_some, cV_some, cJ_some, cI_x, cV_x, cJ_x, uS_self, uS_ne, if_pos, if_neg, b01, b01n, ite_not, if_true, if_false, Bool.false_eq_true, e2, rI_d]
      · rw [show min (rd (4 * r + 2)) (p * goS h off) = p * goS h off by omega]
        simp (disch := omega) only [hk, hu, hI_n, hI_un, z_nat, em_d, zl, z_add, z_sub, z_mul, z_lt, z_eq, gI_mk, gJ_mk, cI_some, cV_some, cJ_some, cI_x, cV_x, cJ_x, uS_self, uS_ne, if_pos, if_neg, b01, b01n, ite_not, if_true, if_false, Bool.false_eq_true, e2, rI_d]
    | succ j ih =>
      intro k n h1 h2
      obtain ⟨n, rfl⟩ : ∃ m, n = m + 1 := ⟨n - 1, by omega⟩
      have ih := ih (k + 1) n (by omega) (by omega)
      have hk1 := hb k (by omega)
      have es : gonN h off (k + 1) = gonN h off k + (if dayOf (h + (k : Int)) = off then 0 else 1) := rfl
      rw [es, show ((k + 1 : Nat) : Int) = (k : Int) + 1 by omega] at ih
      have hdo : 0 ≤ dayOf (h + (k : Int)) ∧ dayOf (h + (k : Int)) < 7 := by
        show 0 ≤ (h + (k : Int)) / 8 % 7 ∧ (h + (k : Int)) / 8 % 7 < 7
        omega
      rw [e_X10_milesBy_4]
      by_cases q : dayOf (h + (k : Int)) = off
      · rw [if_pos q, Int.add_zero] at ih
        simp (disch := omega) only [hk, hu, hI_n, hI_un, z_nat, em_d, zl, z_add, z_sub, z_mul, z_lt, z_eq, gI_mk, gJ_mk, cI_some, cV_some, cJ_some, cI_x, cV_x, cJ_x, uS_self, uS_ne, if_pos, if_neg, b01, b01n, ite_not, if_true, if_false, Bool.false_eq_true, m_dayOf, q, Int.add_zero]
        exact ih
      · rw [if_neg q, Int.mul_add, Int.mul_one] at ih
        simp (disch := omega) only [hk, hu, hI_n, hI_un, z_nat, em_d, zl, z_add, z_sub, z_mul, z_lt, z_eq, gI_mk, gJ_mk, cI_some, cV_some, cJ_some, cI_x, cV_x, cJ_x, uS_self, uS_ne, if_pos, if_neg, b01, b01n, ite_not, if_true, if_false, Bool.false_eq_true, m_dayOf, q, e]
        exact ih
  rw [go_X10_milesBy, e_X10_milesBy_0]
  have := key 8 0 9999999 (by decide) (by decide)
  rw [show gonN h off 0 = 0 from rfl, Int.mul_zero] at this
  exact this
theorem ml_fit (hL : LdP S nT nR nC rd) (hB : BkP S nB bk) {r p off m : Int} (hr : 0 ≤ r ∧ r < nR) (e : S 153 r = p) (hp : 0 ≤ p ∧ p ≤ 9) (ho : 0 ≤ off ∧ off < 7) : ∀ (j k f : Nat), (k : Int) + j = nB → aR X (d + 2) m_X10_fitBits (f + j + 1) 11 [some (.ref 132), some (.int (zI r)), some (.int (zI m)), some (.int (zI off)), some (.int (zI ((if fitA bk (rd (4 * r + 2)) p off k = true then 1 else 0)))), some (.int (zI ((k : Int))))] (0, 0) (mkS w (hI S) J) = aR X (d + 2) m_X10_fitBits (f + 1) 11 [some (.ref 132), some (.int (zI r)), some (.int (zI m)), some (.int (zI off)), some (.int (zI ((if fitA bk (rd (4 * r + 2)) p off nB.toNat = true then 1 else 0)))), some (.int (zI nB))] (0, 0) (mkS w (hI S) J)
  | 0, k, f, h => by
    rw [show k = nB.toNat by omega, show ((nB.toNat : Nat) : Int) = nB by omega]
  | j + 1, k, f, h => by
    obtain ⟨t3, ht, r1, r2, r3⟩ := id hB
    obtain ⟨-, -, -, -, -, -, -, -, -, -, a11⟩ := id hL
    obtain ⟨-, -, -, -, l1, l2⟩ := a11 r hr.1 hr.2
    have ih := ml_fit hL hB (m := m) hr e hp ho j (k + 1) f (by omega)
    obtain ⟨e1, e2⟩ := ht (k : Int) (by omega) (by omega)
    obtain ⟨v1, v2, v3, v4⟩ := r3 (k : Int) (by omega) (by omega)
    have hdl := dlV_r (off := off) (len := rd (4 * r + 2)) ⟨by omega, by omega⟩ hp ⟨v1, v2⟩
    have hd := fun d => m_milesBy (X := X) (d := d) (w := w) (J := J) hL hr e hp ho ⟨v1, v2⟩
    have ef : fitA bk (rd (4 * r + 2)) p off (k + 1) = (fitA bk (rd (4 * r + 2)) p off k && decide (dlV (rd (4 * r + 2)) p off (bk (2 * (k : Int))) = bk (2 * (k : Int) + 1))) := rfl
    rw [ef, show ((k + 1 : Nat) : Int) = (k : Int) + 1 by omega] at ih
    rw [show f + (j + 1) + 1 = (f + j + 1) + 1 by omega, e_X10_fitBits_11]
    cases q1 : fitA bk (rd (4 * r + 2)) p off k with
    | false =>
      rw [q1, Bool.false_and] at ih
      simp (disch := omega) only [hk, hu, hI_n, hI_un, z_nat, em_d, zl, z_add, z_sub, z_mul, z_lt, z_eq, gI_mk, gJ_mk, cI_some, cV_some, cJ_some, cI_x, cV_x, cJ_x, uS_self, uS_ne, if_pos, if_neg, b01, b01n, ite_not, if_true, if_false, Bool.false_eq_true, t3] at ih ⊢
      exact ih
    | true =>
      rw [q1, Bool.true_and] at ih
      by_cases q2 : dlV (rd (4 * r + 2)) p off (bk (2 * (k : Int))) = bk (2 * (k : Int) + 1)
      · rw [decide_eq_true q2] at ih
        simp (disch := omega) only [hk, hu, hI_n, hI_un, z_nat, em_d, zl, z_add, z_sub, z_mul, z_lt, z_eq, gI_mk, gJ_mk, cI_some, cV_some, cJ_some, cI_x, cV_x, cJ_x, uS_self, uS_ne, if_pos, if_neg, b01, b01n, ite_not, if_true, if_false, Bool.false_eq_true, t3, e1, e2] at ih ⊢
        rw [hd]
        simp (disch := omega) only [hk, hu, hI_n, hI_un, z_nat, em_d, zl, z_add, z_sub, z_mul, z_lt, z_eq, gI_mk, gJ_mk, cI_some, cV_some, cJ_some, cI_x, cV_x, cJ_x, uS_self, uS_ne, if_pos, if_neg, b01, b01n, ite_not, if_true, if_false, Bool.false_eq_true, e2]
        exact ih
      · rw [decide_eq_false q2] at ih
        simp (disch := omega) only [hk, hu, hI_n, hI_un, z_nat, em_d, zl, z_add, z_sub, z_mul, z_lt, z_eq, gI_mk, gJ_mk, cI_some, cV_some, cJ_some, cI_x, cV_x, cJ_x, uS_self, uS_ne, if_pos, if_neg, b01, b01n, ite_not, if_true, if_false, Bool.false_eq_true, t3, e1, e2] at ih ⊢
        rw [hd]
        simp (disch := omega) only [hk, hu, hI_n, hI_un, z_nat, em_d, zl, z_add, z_sub, z_mul, z_lt, z_eq, gI_mk, gJ_mk, cI_some, cV_some, cJ_some, cI_x, cV_x, cJ_x, uS_self, uS_ne, if_pos, if_neg, b01, b01n, ite_not, if_true, if_false, Bool.false_eq_true, e2]
        exact ih
theorem ml_fits (hL : LdP S nT nR nC rd) (hB : BkP S nB bk) {r p : Int} (hr : 0 ≤ r ∧ r < nR) (e : S 153 r = p) (hp : 0 ≤ p ∧ p ≤ 9) : ∀ (j k n : Nat), k + j = 7 → 8 * j + 1 ≤ n → aR X (d + 2) m_X10_fitBits n 4 [some (.ref 132), some (.int (zI r)), some (.int (zI ((bits (fun off => fitA bk (rd (4 * r + 2)) p off nB.toNat) k : Nat)))), some (.int (zI ((k : Int)))), none, none] (0, 0) (mkS w (hI S) J) = some (.inl (some (.int (zI ((fitB nB bk (rd (4 * r + 2)) p : Nat))))), (mkS w (hI S) J))
  | 0, k, n, h, hn => by
    obtain ⟨n, rfl⟩ : ∃ m, n = m + 1 := ⟨n - 1, by omega⟩
    have : k = 7 := by omega
    subst this
    rw [e_X10_fitBits_4]
    simp (disch := omega) only [hk, hu, hI_n, hI_un, z_nat, em_d, zl, z_add, z_sub, z_mul, z_lt, z_eq, gI_mk, gJ_mk, cI_some, cV_some, cJ_some, cI_x, cV_x, cJ_x, uS_self, uS_ne, if_pos, if_neg, b01, b01n, ite_not, if_true, if_false, Bool.false_eq_true, rI_d]
    rfl
  | j + 1, k, n, h, hn => by
    obtain ⟨t3, ht, r1, r2, r3⟩ := id hB
    obtain ⟨n, rfl⟩ : ∃ m, n = m + nB.toNat + 1 + 1 := ⟨n - nB.toNat - 2, by omega⟩
    have ih := ml_fits hL hB hr e hp j (k + 1) n (by omega) (by omega)
    rw [← bits_or, show ((k + 1 : Nat) : Int) = (k : Int) + 1 by omega] at ih
    have hg := ml_fit (X := X) (d := d) (w := w) (J := J) hL hB (m := (bits (fun off => fitA bk (rd (4 * r + 2)) p off nB.toNat) k : Nat)) (off := (k : Int)) hr e hp (by omega) nB.toNat 0 n (by omega)
    rw [e_X10_fitBits_4]
    simp (disch := omega) only [hk, hu, hI_n, hI_un, z_nat, em_d, zl, z_add, z_sub, z_mul, z_lt, z_eq, gI_mk, gJ_mk, cI_some, cV_some, cJ_some, cI_x, cV_x, cJ_x, uS_self, uS_ne, if_pos, if_neg, b01, b01n, ite_not, if_true, if_false, Bool.false_eq_true]
    refine (show _ = _ from hg).trans ?_
    rw [e_X10_fitBits_11]
    cases q : fitA bk (rd (4 * r + 2)) p (k : Int) nB.toNat with
    | true =>
      rw [if_pos q] at ih
      simp (disch := omega) only [hk, hu, hI_n, hI_un, z_nat, em_d, zl, z_add, z_sub, z_mul, z_lt, z_eq, gI_mk, gJ_mk, cI_some, cV_some, cJ_some, cI_x, cV_x, cJ_x, uS_self, uS_ne, if_pos, if_neg, b01, b01n, ite_not, if_true, if_false, Bool.false_eq_true, t3, z_shl1, z_or, Int.toNat_natCast]
      exact ih
    | false =>
      rw [if_neg (by rw [q]; decide), Nat.or_zero] at ih
      simp (disch := omega) only [hk, hu, hI_n, hI_un, z_nat, em_d, zl, z_add, z_sub, z_mul, z_lt, z_eq, gI_mk, gJ_mk, cI_some, cV_some, cJ_some, cI_x, cV_x, cJ_x, uS_self, uS_ne, if_pos, if_neg, b01, b01n, ite_not, if_true, if_false, Bool.false_eq_true, t3, z_or0]
      exact ih
theorem m_fitBits (hL : LdP S nT nR nC rd) (hB : BkP S nB bk) {r p : Int} (hr : 0 ≤ r ∧ r < nR) (e : S 153 r = p) (hp : 0 ≤ p ∧ p ≤ 9) : am_call X aP (d + 3) 244 [.ref 132, .int (zI r)] (mkS w (hI S) J) = some (.inl (some (.int (zI ((fitB nB bk (rd (4 * r + 2)) p : Nat))))), (mkS w (hI S) J)) := by
  rw [go_X10_fitBits, e_X10_fitBits_0]
  exact ml_fits hL hB hr e hp 7 0 9999999 (by decide) (by decide)
theorem m_isWritten (hB : BkP S nB bk) {h : Int} (hh : 0 ≤ h ∧ h < 56) : am_call X aP (d + 1) 247 [.ref 132, .int (zI h)] (mkS w (hI S) J) = some (.inl (some (.int (zI (if tolB bk h nB.toNat 0 = true then 1 else 0)))), (mkS w (hI S) J)) := by
  obtain ⟨t3, ht, r1, r2, r3⟩ := id hB
  have key : ∀ (j k n : Nat), (k : Int) + j = nB → j + 1 ≤ n → aR X d m_X10_isWritten n 2 [some (.ref 132), some (.int (zI h)), some (.int (zI ((k : Int))))] (0, 0) (mkS w (hI S) J) = some (.inl (some (.int (zI (if tolB bk h j (k : Int) = true then 1 else 0)))), (mkS w (hI S) J)) := by
    intro j
    induction j with
    | zero =>
      intro k n h1 h2
      obtain ⟨n, rfl⟩ : ∃ m, n = m + 1 := ⟨n - 1, by omega⟩
      rw [e_X10_isWritten_2]
      simp (disch := omega) only [hk, hu, hI_n, hI_un, z_nat, em_d, zl, z_add, z_sub, z_mul, z_lt, z_eq, gI_mk, gJ_mk, cI_some, cV_some, cJ_some, cI_x, cV_x, cJ_x, uS_self, uS_ne, if_pos, if_neg, b01, b01n, ite_not, if_true, if_false, Bool.false_eq_true, t3, rI_d]
      rfl
    | succ j ih =>
      intro k n h1 h2
      obtain ⟨n, rfl⟩ : ∃ m, n = m + 1 := ⟨n - 1, by omega⟩
      have ih := ih (k + 1) n (by omega) (by omega)
      obtain ⟨e1, e2⟩ := ht (k : Int) (by omega) (by omega)
      obtain ⟨v1, v2, v3, v4⟩ := r3 (k : Int) (by omega) (by omega)
      rw [show ((k + 1 : Nat) : Int) = (k : Int) + 1 by omega] at ih
      have et : tolB bk h (j + 1) (k : Int) = (decide (bk (2 * (k : Int)) = h) || tolB bk h j ((k : Int) + 1)) := rfl
      rw [et, e_X10_isWritten_2]
      by_cases q : bk (2 * (k : Int)) = h
      · rw [decide_eq_true q, Bool.true_or]
        simp (disch := omega) only [hk, hu, hI_n, hI_un, z_nat, em_d, zl, z_add, z_sub, z_mul, z_lt, z_eq, gI_mk, gJ_mk, cI_some, cV_some, cJ_some, cI_x, cV_x, cJ_x, uS_self, uS_ne, if_pos, if_neg, b01, b01n, ite_not, if_true, if_false, Bool.false_eq_true, t3, e1, rI_d]
      · rw [decide_eq_false q, Bool.false_or]
        simp (disch := omega) only [hk, hu, hI_n, hI_un, z_nat, em_d, zl, z_add, z_sub, z_mul, z_lt, z_eq, gI_mk, gJ_mk, cI_some, cV_some, cJ_some, cI_x, cV_x, cJ_x, uS_self, uS_ne, if_pos, if_neg, b01, b01n, ite_not, if_true, if_false, Bool.false_eq_true, t3, e1]
        exact ih
  rw [go_X10_isWritten, e_X10_isWritten_0]
  exact key nB.toNat 0 9999999 (by omega) (by omega)
theorem ml_wor18z {r h : Int} {D : Nat} {most one q : Int} (hm : 0 ≤ most ∧ most ≤ 7) (ho : 0 ≤ one ∧ one < 7) (hr : 0 ≤ q ∧ q ≤ 7) (f : Nat) : aR X (d + 2) m_X10_worstOf (f + 1) 18 [some (.ref 132), some (.int (zI r)), some (.int (zI ((D : Int)))), some (.int (zI h)), some (.int (zI most)), some (.int (zI one)), some (.int (zI q)), some (.int (zI 7))] (0, 0) (mkS w (hI S) J) = aR X (d + 2) m_X10_worstOf f 4 [some (.ref 132), some (.int (zI r)), some (.int (zI ((D : Int)))), some (.int (zI h)), some (.int (zI ((if most < q then q else most)))), some (.int (zI ((one + 1)))), none, none] (0, 0) (mkS w (hI S) J) := by
  rw [e_X10_worstOf_18]
  by_cases z : most < q
  · rw [if_pos z]
    simp (disch := omega) only [hk, hu, hI_n, hI_un, z_nat, em_d, zl, z_add, z_sub, z_mul, z_lt, z_eq, gI_mk, gJ_mk, cI_some, cV_some, cJ_some, cI_x, cV_x, cJ_x, uS_self, uS_ne, if_pos, if_neg, b01, b01n, ite_not, if_true, if_false, Bool.false_eq_true]
  · rw [if_neg z]
    simp (disch := omega) only [hk, hu, hI_n, hI_un, z_nat, em_d, zl, z_add, z_sub, z_mul, z_lt, z_eq, gI_mk, gJ_mk, cI_some, cV_some, cJ_some, cI_x, cV_x, cJ_x, uS_self, uS_ne, if_pos, if_neg, b01, b01n, ite_not, if_true, if_false, Bool.false_eq_true]
theorem ml_wor18s {g : Int → Int} {r h : Int} (hg : ∀ o : Int, 0 ≤ o → o < 7 → (∀ d, am_call X aP (d + 2) 243 [.ref 132, .int (zI r), .int (zI o), .int (zI h)] (mkS w (hI S) J) = some (.inl (some (.int (zI (g o)))), (mkS w (hI S) J))) ∧ 0 ≤ g o ∧ g o ≤ 40) {D : Nat} (hD : D < 2147483648) {most one k q : Int} (ho : 0 ≤ one ∧ one < 7) (hkk : 0 ≤ k ∧ k < 7) (hq : 0 ≤ q ∧ q ≤ 7) (f : Nat) : aR X (d + 2) m_X10_worstOf (f + 1) 18 [some (.ref 132), some (.int (zI r)), some (.int (zI ((D : Int)))), some (.int (zI h)), some (.int (zI most)), some (.int (zI one)), some (.int (zI q)), some (.int (zI k))] (0, 0) (mkS w (hI S) J) = aR X (d + 2) m_X10_worstOf f 18 [some (.ref 132), some (.int (zI r)), some (.int (zI ((D : Int)))), some (.int (zI h)), some (.int (zI most)), some (.int (zI one)), some (.int (zI ((q + (if D.testBit k.toNat = true ∧ g k = g one then 1 else 0))))), some (.int (zI ((k + 1))))] (0, 0) (mkS w (hI S) J) := by
  obtain ⟨h2, v1, v2⟩ := hg k hkk.1 hkk.2
  obtain ⟨h3, v3, v4⟩ := hg one ho.1 ho.2
  rw [e_X10_worstOf_18]
  by_cases p1 : D.testBit k.toNat = true
  · by_cases p2 : g k = g one
    · rw [show (if D.testBit k.toNat = true ∧ g k = g one then (1 : Int) else 0) = 1 from if_pos ⟨p1, p2⟩]
      simp (disch := omega) only [hk, hu, hI_n, hI_un, z_nat, em_d, zl, z_add, z_sub, z_mul, z_lt, z_eq, gI_mk, gJ_mk, cI_some, cV_some, cJ_some, cI_x, cV_x, cJ_x, uS_self, uS_ne, if_pos, if_neg, b01, b01n, ite_not, if_true, if_false, Bool.false_eq_true, z_bit hD, p1]
      rw [h2]
      simp (disch := omega) only [hk, hu, hI_n, hI_un, z_nat, em_d, zl, z_add, z_sub, z_mul, z_lt, z_eq, gI_mk, gJ_mk, cI_some, cV_some, cJ_some, cI_x, cV_x, cJ_x, uS_self, uS_ne, if_pos, if_neg, b01, b01n, ite_not, if_true, if_false, Bool.false_eq_true]
      rw [h3]
      simp (disch := omega) only [hk, hu, hI_n, hI_un, z_nat, em_d, zl, z_add, z_sub, z_mul, z_lt, z_eq, gI_mk, gJ_mk, cI_some, cV_some, cJ_some, cI_x, cV_x, cJ_x, uS_self, uS_ne, if_pos, if_neg, b01, b01n, ite_not, if_true, if_false, Bool.false_eq_true]
    · rw [show (if D.testBit k.toNat = true ∧ g k = g one then (1 : Int) else 0) = 0 from if_neg (fun z => p2 z.2)]
      simp (disch := omega) only [hk, hu, hI_n, hI_un, z_nat, em_d, zl, z_add, z_sub, z_mul, z_lt, z_eq, gI_mk, gJ_mk, cI_some, cV_some, cJ_some, cI_x, cV_x, cJ_x, uS_self, uS_ne, if_pos, if_neg, b01, b01n, ite_not, if_true, if_false, Bool.false_eq_true, z_bit hD, p1]
      rw [h2]
      simp (disch := omega) only [hk, hu, hI_n, hI_un, z_nat, em_d, zl, z_add, z_sub, z_mul, z_lt, z_eq, gI_mk, gJ_mk, cI_some, cV_some, cJ_some, cI_x, cV_x, cJ_x, uS_self, uS_ne, if_pos, if_neg, b01, b01n, ite_not, if_true, if_false, Bool.false_eq_true]
      rw [h3]
      simp (disch := omega) only [hk, hu, hI_n, hI_un, z_nat, em_d, zl, z_add, z_sub, z_mul, z_lt, z_eq, gI_mk, gJ_mk, cI_some, cV_some, cJ_some, cI_x, cV_x, cJ_x, uS_self, uS_ne, if_pos, if_neg, b01, b01n, ite_not, if_true, if_false, Bool.false_eq_true]
  · rw [show (if D.testBit k.toNat = true ∧ g k = g one then (1 : Int) else 0) = 0 from if_neg (fun z => p1 z.1)]
    simp (disch := omega) only [hk, hu, hI_n, hI_un, z_nat, em_d, zl, z_add, z_sub, z_mul, z_lt, z_eq, gI_mk, gJ_mk, cI_some, cV_some, cJ_some, cI_x, cV_x, cJ_x, uS_self, uS_ne, if_pos, if_neg, b01, b01n, ite_not, if_true, if_false, Bool.false_eq_true, z_bit hD, p1]
theorem ml_wor18 {g : Int → Int} {r h : Int} (hg : ∀ o : Int, 0 ≤ o → o < 7 → (∀ d, am_call X aP (d + 2) 243 [.ref 132, .int (zI r), .int (zI o), .int (zI h)] (mkS w (hI S) J) = some (.inl (some (.int (zI (g o)))), (mkS w (hI S) J))) ∧ 0 ≤ g o ∧ g o ≤ 40) {D : Nat} (hD : D < 2147483648) {most : Int} (hm : 0 ≤ most ∧ most ≤ 7) {one : Nat} (ho : one < 7) : ∀ (j k f : Nat), k + j = 7 → aR X (d + 2) m_X10_worstOf (f + j + 1) 18 [some (.ref 132), some (.int (zI r)), some (.int (zI ((D : Int)))), some (.int (zI h)), some (.int (zI most)), some (.int (zI ((one : Int)))), some (.int (zI ((sumZ (fun o => if D.testBit o.toNat = true ∧ g o = g (one : Int) then 1 else 0) k)))), some (.int (zI ((k : Int))))] (0, 0) (mkS w (hI S) J) = aR X (d + 2) m_X10_worstOf f 4 [some (.ref 132), some (.int (zI r)), some (.int (zI ((D : Int)))), some (.int (zI h)), some (.int (zI ((if most < aliN g D one then aliN g D one else most)))), some (.int (zI (((one : Int) + 1)))), none, none] (0, 0) (mkS w (hI S) J) := by
  intro j
  induction j with
  | zero =>
    intro k f h1
    have : k = 7 := by omega
    rw [this]
    exact ml_wor18z hm (by omega) (aliN_r g D one) f
  | succ j ih =>
    intro k f h1
    have ih := ih (k + 1) f (by omega)
    have hs := sumZ_r (f := fun o => if D.testBit o.toNat = true ∧ g o = g (one : Int) then 1 else 0) (a := 0) (b := 1) k (fun k _ _ => by split <;> decide)
    rw [show ((k + 1 : Nat) : Int) = (k : Int) + 1 by omega] at ih
    exact (ml_wor18s hg hD (by omega) (by omega) (by omega) (f + j + 1)).trans ih
theorem m_worstG {g : Int → Int} {r h : Int} (hg : ∀ o : Int, 0 ≤ o → o < 7 → (∀ d, am_call X aP (d + 2) 243 [.ref 132, .int (zI r), .int (zI o), .int (zI h)] (mkS w (hI S) J) = some (.inl (some (.int (zI (g o)))), (mkS w (hI S) J))) ∧ 0 ≤ g o ∧ g o ≤ 40) {D : Nat} (hD : D < 2147483648) : am_call X aP (d + 3) 246 [.ref 132, .int (zI r), .int (zI ((D : Int))), .int (zI h)] (mkS w (hI S) J) = some (.inl (some (.int (zI (worst g D)))), (mkS w (hI S) J)) := by
  have key : ∀ (j k n : Nat) (most : Int), k + j = 7 → 0 ≤ most ∧ most ≤ 7 → 9 * j + 1 ≤ n → aR X (d + 2) m_X10_worstOf n 4 [some (.ref 132), some (.int (zI r)), some (.int (zI ((D : Int)))), some (.int (zI h)), some (.int (zI most)), some (.int (zI ((k : Int)))), none, none] (0, 0) (mkS w (hI S) J) = some (.inl (some (.int (zI (mosF (fun d => D.testBit d = true) (aliN g D) j k most)))), (mkS w (hI S) J)) := by
    intro j
    induction j with
    | zero =>
      intro k n most h1 h2 h3
      obtain ⟨n, rfl⟩ : ∃ m, n = m + 1 := ⟨n - 1, by omega⟩
      rw [e_X10_worstOf_4]
      simp (disch := omega) only [hk, hu, hI_n, hI_un, z_nat, em_d, zl, z_add, z_sub, z_mul, z_lt, z_eq, gI_mk, gJ_mk, cI_some, cV_some, cJ_some, cI_x, cV_x, cJ_x, uS_self, uS_ne, if_pos, if_neg, b01, b01n, ite_not, if_true, if_false, Bool.false_eq_true, rI_d]
      rfl
    | succ j ih =>
      intro k n most h1 h2 h3
      have hr7 := aliN_r g D k
      have ek : ((k + 1 : Nat) : Int) = (k : Int) + 1 := by omega
      have ef : mosF (fun d => D.testBit d = true) (aliN g D) (j + 1) k most = mosF (fun d => D.testBit d = true) (aliN g D) j (k + 1) (if D.testBit k = true ∧ most < aliN g D k then aliN g D k else most) := rfl
      rw [ef]
      by_cases q : D.testBit k = true
      · obtain ⟨n, rfl⟩ : ∃ m, n = m + 7 + 1 + 1 := ⟨n - 9, by omega⟩
        have hl := ml_wor18 (X := X) (d := d) (w := w) (J := J) hg hD h2 (one := k) (by omega) 7 0 n (by decide)
        have ih := ih (k + 1) n (if most < aliN g D k then aliN g D k else most) (by omega) (by split <;> omega) (by omega)
        rw [ek] at ih
        rw [show (if D.testBit k = true ∧ most < aliN g D k then aliN g D k else most) = (if most < aliN g D k then aliN g D k else most) from ite_iff ⟨fun z => z.2, fun z => ⟨q, z⟩⟩ _ _, e_X10_worstOf_4]
        simp (disch := omega) only [hk, hu, hI_n, hI_un, z_nat, em_d, zl, z_add, z_sub, z_mul, z_lt, z_eq, gI_mk, gJ_mk, cI_some, cV_some, cJ_some, cI_x, cV_x, cJ_x, uS_self, uS_ne, if_pos, if_neg, b01, b01n, ite_not, if_true, if_false, Bool.false_eq_true, z_bit hD, Int.toNat_natCast, q]
        exact hl.trans ih
      · obtain ⟨n, rfl⟩ : ∃ m, n = m + 1 := ⟨n - 1, by omega⟩
        have ih := ih (k + 1) n most (by omega) h2 (by omega)
        rw [ek] at ih
        rw [if_neg (fun z => q z.1), e_X10_worstOf_4]
        simp (disch := omega) only [hk, hu, hI_n, hI_un, z_nat, em_d, zl, z_add, z_sub, z_mul, z_lt, z_eq, gI_mk, gJ_mk, cI_some, cV_some, cJ_some, cI_x, cV_x, cJ_x, uS_self, uS_ne, if_pos, if_neg, b01, b01n, ite_not, if_true, if_false, Bool.false_eq_true, z_bit hD, Int.toNat_natCast, q]
        exact ih
  rw [worst_eq, go_X10_worstOf, e_X10_worstOf_0]
  exact key 7 0 9999999 0 (by decide) (by decide) (by decide)
theorem m_worstOf (hL : LdP S nT nR nC rd) {r p h : Int} (hr : 0 ≤ r ∧ r < nR) (e : S 153 r = p) (hp : 0 ≤ p ∧ p ≤ 9) (hh : 0 ≤ h ∧ h < 56) {D : Nat} (hD : D < 2147483648) : am_call X aP (d + 3) 246 [.ref 132, .int (zI r), .int (zI ((D : Int))), .int (zI h)] (mkS w (hI S) J) = some (.inl (some (.int (zI (worst (fun o => dlV (rd (4 * r + 2)) p o h) D)))), (mkS w (hI S) J)) := by
  obtain ⟨-, -, -, -, -, -, -, -, -, -, a11⟩ := id hL
  obtain ⟨-, -, -, -, l1, l2⟩ := a11 r hr.1 hr.2
  exact m_worstG (g := fun o => dlV (rd (4 * r + 2)) p o h) (fun o o1 o2 => ⟨fun d => m_milesBy hL hr e hp ⟨o1, o2⟩ hh, dlV_r ⟨by omega, by omega⟩ hp hh⟩) hD
theorem ml_look (hL : LdP S nT nR nC rd) (hB : BkP S nB bk) {r p q : Int} (hr : 0 ≤ r ∧ r < nR) (e : S 153 r = p) (hp : 0 ≤ p ∧ p ≤ 9) (hq : 0 ≤ q ∧ q ≤ 1) {D : Nat} (hD : D < 2147483648) : ∀ (j k n : Nat) (a : Int × Int), k + j = 56 → okLk a → 2 * j + 1 ≤ n → aR X (d + 6) m_X10_look n 34 [some (.ref 132), some (.int (zI r)), some (.int (zI q)), some (.int (zI ((D : Int)))), some (.int (zI a.1)), some (.int (zI a.2)), some (.int (zI ((k : Int)))), none] (0, 0) (mkS w (hI S) J) = some (.inl (some (.int (zI (if q = 0 then (fold (lokS nB bk (rd (4 * r + 2)) p D) j (k : Int) a).1 else (fold (lokS nB bk (rd (4 * r + 2)) p D) j (k : Int) a).2)))), (mkS w (hI S) J))
  | 0, k, n, a, h1, ha, h2 => by
    obtain ⟨n, rfl⟩ : ∃ m, n = m + 1 := ⟨n - 1, by omega⟩
    have : k = 56 := by omega
    subst this
    rw [show fold (lokS nB bk (rd (4 * r + 2)) p D) 0 ((56 : Nat) : Int) a = a from rfl]
    rw [e_X10_look_34]
    by_cases z : q = 0
    · simp (disch := omega) only [hk, hu, hI_n, hI_un, z_nat, em_d, zl, z_add, z_sub, z_mul, z_lt, z_eq, gI_mk, gJ_mk, cI_some, cV_some, cJ_some, cI_x, cV_x, cJ_x, uS_self, uS_ne, if_pos, if_neg, b01, b01n, ite_not, if_true, if_false, Bool.false_eq_true, z, rI_d]
    · simp (disch := omega) only [hk, hu, hI_n, hI_un, z_nat, em_d, zl, z_add, z_sub, z_mul, z_lt, z_eq, gI_mk, gJ_mk, cI_some, cV_some, cJ_some, cI_x, cV_x, cJ_x, uS_self, uS_ne, if_pos, if_neg, b01, b01n, ite_not, if_true, if_false, Bool.false_eq_true, z, rI_d]
  | j + 1, k, n, a, h1, ha, h2 => by
    obtain ⟨n, rfl⟩ : ∃ m, n = m + 2 := ⟨n - 2, by omega⟩
    have hw := fun d => m_isWritten (X := X) (d := d) (w := w) (J := J) hB (h := (k : Int)) (by omega)
    have ho := fun d => m_worstOf (X := X) (d := d) (w := w) (J := J) hL hr e hp (h := (k : Int)) (by omega) hD
    have hwr := worst_r (fun o => dlV (rd (4 * r + 2)) p o (k : Int)) D
    have ek : ((k + 1 : Nat) : Int) = (k : Int) + 1 := by omega
    have ef : fold (lokS nB bk (rd (4 * r + 2)) p D) (j + 1) (k : Int) a = fold (lokS nB bk (rd (4 * r + 2)) p D) j ((k : Int) + 1) (lokS nB bk (rd (4 * r + 2)) p D (k : Int) a) := rfl
    have ih := fun n hn => ml_look hL hB hr e hp hq hD j (k + 1) n (lokS nB bk (rd (4 * r + 2)) p D (k : Int) a) (by omega) (lokS_ok (by omega) ha) hn
    rw [ek] at ih
    rw [ef, e_X10_look_34]
    by_cases q1 : tolB bk (k : Int) nB.toNat 0 = true
    · have el : lokS nB bk (rd (4 * r + 2)) p D (k : Int) a = a := if_pos q1
      rw [el] at ih ⊢
      simp (disch := omega) only [hk, hu, hI_n, hI_un, z_nat, em_d, zl, z_add, z_sub, z_mul, z_lt, z_eq, gI_mk, gJ_mk, cI_some, cV_some, cJ_some, cI_x, cV_x, cJ_x, uS_self, uS_ne, if_pos, if_neg, b01, b01n, ite_not, if_true, if_false, Bool.false_eq_true]
      rw [hw]
      simp (disch := omega) only [hk, hu, hI_n, hI_un, z_nat, em_d, zl, z_add, z_sub, z_mul, z_lt, z_eq, gI_mk, gJ_mk, cI_some, cV_some, cJ_some, cI_x, cV_x, cJ_x, uS_self, uS_ne, if_pos, if_neg, b01, b01n, ite_not, if_true, if_false, Bool.false_eq_true, q1]
      exact ih (n + 1) (by omega)
    · by_cases q2 : a.1 = -1 ∨ worst (fun o => dlV (rd (4 * r + 2)) p o (k : Int)) D < a.2
      · have el : lokS nB bk (rd (4 * r + 2)) p D (k : Int) a = ((k : Int), worst (fun o => dlV (rd (4 * r + 2)) p o (k : Int)) D) := by
          unfold lokS
          rw [if_neg q1, if_pos q2]
        rw [el] at ih ⊢
        have f55 : aR X (d + 6) m_X10_look (n + 1) 55 [some (.ref 132), some (.int (zI r)), some (.int (zI q)), some (.int (zI ((D : Int)))), none, none, some (.int (zI ((k : Int)))), some (.int (zI ((worst (fun o => dlV (rd (4 * r + 2)) p o (k : Int)) D))))] (0, 0) (mkS w (hI S) J) = some (.inl (some (.int (zI (if q = 0 then (fold (lokS nB bk (rd (4 * r + 2)) p D) j ((k : Int) + 1) ((k : Int), worst (fun o => dlV (rd (4 * r + 2)) p o (k : Int)) D)).1 else (fold (lokS nB bk (rd (4 * r + 2)) p D) j ((k : Int) + 1) ((k : Int), worst (fun o => dlV (rd (4 * r + 2)) p o (k : Int)) D)).2)))), (mkS w (hI S) J)) := by
          rw [e_X10_look_55]
          simp (disch := omega) only [hk, hu, hI_n, hI_un, z_nat, em_d, zl, z_add, z_sub, z_mul, z_lt, z_eq, gI_mk, gJ_mk, cI_some, cV_some, cJ_some, cI_x, cV_x, cJ_x, uS_self, uS_ne, if_pos, if_neg, b01, b01n, ite_not, if_true, if_false, Bool.false_eq_true]
          exact ih n (by omega)
        simp (disch := omega) only [hk, hu, hI_n, hI_un, z_nat, em_d, zl, z_add, z_sub, z_mul, z_lt, z_eq, gI_mk, gJ_mk, cI_some, cV_some, cJ_some, cI_x, cV_x, cJ_x, uS_self, uS_ne, if_pos, if_neg, b01, b01n, ite_not, if_true, if_false, Bool.false_eq_true]
        rw [hw]
        simp (disch := omega) only [hk, hu, hI_n, hI_un, z_nat, em_d, zl, z_add, z_sub, z_mul, z_lt, z_eq, gI_mk, gJ_mk, cI_some, cV_some, cJ_some, cI_x, cV_x, cJ_x, uS_self, uS_ne, if_pos, if_neg, b01, b01n, ite_not, if_true, if_false, Bool.false_eq_true, q1]
        rw [ho]
        by_cases q3 : a.1 = -1
        · simp (disch := omega) only [hk, hu, hI_n, hI_un, z_nat, em_d, zl, z_add, z_sub, z_mul, z_lt, z_eq, gI_mk, gJ_mk, cI_some, cV_some, cJ_some, cI_x, cV_x, cJ_x, uS_self, uS_ne, if_pos, if_neg, b01, b01n, ite_not, if_true, if_false, Bool.false_eq_true, q3]
          rw [f55]
        · have q4 : worst (fun o => dlV (rd (4 * r + 2)) p o (k : Int)) D < a.2 := by
            rcases q2 with q2 | q2
            · exact absurd q2 q3
            · exact q2
          simp (disch := omega) only [hk, hu, hI_n, hI_un, z_nat, em_d, zl, z_add, z_sub, z_mul, z_lt, z_eq, gI_mk, gJ_mk, cI_some, cV_some, cJ_some, cI_x, cV_x, cJ_x, uS_self, uS_ne, if_pos, if_neg, b01, b01n, ite_not, if_true, if_false, Bool.false_eq_true, q3]
          rw [f55]
      · have el : lokS nB bk (rd (4 * r + 2)) p D (k : Int) a = a := by
          unfold lokS
          rw [if_neg q1, if_neg q2]
        rw [el] at ih ⊢
        have q3 : ¬ a.1 = -1 := fun z => q2 (Or.inl z)
        have q4 : ¬ worst (fun o => dlV (rd (4 * r + 2)) p o (k : Int)) D < a.2 := fun z => q2 (Or.inr z)
        simp (disch := omega) only [hk, hu, hI_n, hI_un, z_nat, em_d, zl, z_add, z_sub, z_mul, z_lt, z_eq, gI_mk, gJ_mk, cI_some, cV_some, cJ_some, cI_x, cV_x, cJ_x, uS_self, uS_ne, if_pos, if_neg, b01, b01n, ite_not, if_true, if_false, Bool.false_eq_true]
        rw [hw]
        simp (disch := omega) only [hk, hu, hI_n, hI_un, z_nat, em_d, zl, z_add, z_sub, z_mul, z_lt, z_eq, gI_mk, gJ_mk, cI_some, cV_some, cJ_some, cI_x, cV_x, cJ_x, uS_self, uS_ne, if_pos, if_neg, b01, b01n, ite_not, if_true, if_false, Bool.false_eq_true, q1]
        rw [ho]
        simp (disch := omega) only [hk, hu, hI_n, hI_un, z_nat, em_d, zl, z_add, z_sub, z_mul, z_lt, z_eq, gI_mk, gJ_mk, cI_some, cV_some, cJ_some, cI_x, cV_x, cJ_x, uS_self, uS_ne, if_pos, if_neg, b01, b01n, ite_not, if_true, if_false, Bool.false_eq_true, q3]
        exact ih (n + 1) (by omega)
theorem m_fits (hL : LdP S nT nR nC rd) (hc : CdP S cd) (hB : BkP S nB bk) {r : Int} (hr : 0 ≤ r ∧ r < nR) : ∃ S', am_call X aP (d + 7) 245 [.ref 132, .int (zI r)] (mkS w (hI S) J) = some (.inl (some (.int (zI ((fitB nB bk (rd (4 * r + 2)) (plainZ cd rd r) : Nat))))), (mkS w (hI S') J)) ∧ QuM S S' := by
  have hq0 := QuM_0 S
  obtain ⟨S1, h1, h2, h3⟩ := m_laysPlain (X := X) (d := d) (w := w) (J := J) (LdP_q hL hq0) (CdP_q hc hq0)
  have hq1 := QuM_fr hq0 h3 (by decide) (by decide)
  have hf := fun d => m_fitBits (X := X) (d := d) (w := w) (J := J) (LdP_q hL hq1) (BkP_q hB hq1) hr (h2 r hr.1 hr.2) (PL_z cd rd nR r hr.1 hr.2)
  refine ⟨S1, ?_, hq1⟩
  rw [go_X10_fits, e_X10_fits_0, z_0, hu.1, m_isRoad1 (LdP_q hL hq0) (uS_self _ _ _ _) hr]
  simp (disch := omega) only [hk, hu, hI_n, hI_un, z_nat, em_d, zl, z_add, z_sub, z_mul, z_lt, z_eq, gI_mk, gJ_mk, cI_some, cV_some, cJ_some, cI_x, cV_x, cJ_x, uS_self, uS_ne, if_pos, if_neg, b01, b01n, ite_not, if_true, if_false, Bool.false_eq_true]
  rw [h1]
  simp (disch := omega) only [hk, hu, hI_n, hI_un, z_nat, em_d, zl, z_add, z_sub, z_mul, z_lt, z_eq, gI_mk, gJ_mk, cI_some, cV_some, cJ_some, cI_x, cV_x, cJ_x, uS_self, uS_ne, if_pos, if_neg, b01, b01n, ite_not, if_true, if_false, Bool.false_eq_true]
  rw [hf]
  simp (disch := omega) only [hk, hu, hI_n, hI_un, z_nat, em_d, zl, z_add, z_sub, z_mul, z_lt, z_eq, gI_mk, gJ_mk, cI_some, cV_some, cJ_some, cI_x, cV_x, cJ_x, uS_self, uS_ne, if_pos, if_neg, b01, b01n, ite_not, if_true, if_false, Bool.false_eq_true, rI_d]
theorem m_fitsN (hL : LdP S nT nR nC rd) {r : Int} (hb : -2147483648 ≤ r ∧ r < 2147483648) (hr : ¬ (0 ≤ r ∧ r < nR)) : am_call X aP (d + 7) 245 [.ref 132, .int (zI r)] (mkS w (hI S) J) = some (.inl (some (.int (zI 0))), (mkS w (hI (mxN S)) J)) := by
  rw [go_X10_fits, e_X10_fits_0, z_0, hu.1, m_isRoad0 (LdP_q hL (QuM_0 S)) (uS_self _ _ _ _) hb hr]
  simp (disch := omega) only [hk, hu, hI_n, hI_un, z_nat, em_d, zl, z_add, z_sub, z_mul, z_lt, z_eq, gI_mk, gJ_mk, cI_some, cV_some, cJ_some, cI_x, cV_x, cJ_x, uS_self, uS_ne, if_pos, if_neg, b01, b01n, ite_not, if_true, if_false, Bool.false_eq_true, rI_d]
  rfl
theorem m_look (hL : LdP S nT nR nC rd) (hc : CdP S cd) (hB : BkP S nB bk) {r q : Int} (hr : 0 ≤ r ∧ r < nR) (hq : 0 ≤ q ∧ q ≤ 1) : ∃ S', am_call X aP (d + 7) 248 [.ref 132, .int (zI r), .int (zI q)] (mkS w (hI S) J) = some (.inl (some (.int (zI (lokA nB bk (rd (4 * r + 2)) (plainZ cd rd r) q)))), (mkS w (hI S') J)) ∧ QuM S S' := by
  have hq0 := QuM_0 S
  obtain ⟨S1, h1, h2, h3⟩ := m_laysPlain (X := X) (d := d) (w := w) (J := J) (LdP_q hL hq0) (CdP_q hc hq0)
  have hq1 := QuM_fr hq0 h3 (by decide) (by decide)
  have hp := PL_z cd rd nR r hr.1 hr.2
  have hf := fun d => m_fitBits (X := X) (d := d) (w := w) (J := J) (LdP_q hL hq1) (BkP_q hB hq1) hr (h2 r hr.1 hr.2) hp
  have hlt := fitB_lt nB bk (rd (4 * r + 2)) (plainZ cd rd r)
  have hl := ml_look (X := X) (d := d) (w := w) (J := J) (LdP_q hL hq1) (BkP_q hB hq1) hr (h2 r hr.1 hr.2) hp hq hlt 56 0 9999999 (-1, -1) (by decide) (Or.inl ⟨rfl, rfl⟩) (by decide)
  refine ⟨S1, ?_, hq1⟩
  rw [go_X10_look, e_X10_look_0, z_0, hu.1, m_isRoad1 (LdP_q hL hq0) (uS_self _ _ _ _) hr]
  simp (disch := omega) only [hk, hu, hI_n, hI_un, z_nat, em_d, zl, z_add, z_sub, z_mul, z_lt, z_eq, gI_mk, gJ_mk, cI_some, cV_some, cJ_some, cI_x, cV_x, cJ_x, uS_self, uS_ne, if_pos, if_neg, b01, b01n, ite_not, if_true, if_false, Bool.false_eq_true, m_within]
  rw [m_may1 (uS_self _ _ _ _)]
  simp (disch := omega) only [hk, hu, hI_n, hI_un, z_nat, em_d, zl, z_add, z_sub, z_mul, z_lt, z_eq, gI_mk, gJ_mk, cI_some, cV_some, cJ_some, cI_x, cV_x, cJ_x, uS_self, uS_ne, if_pos, if_neg, b01, b01n, ite_not, if_true, if_false, Bool.false_eq_true]
  rw [h1]
  simp (disch := omega) only [hk, hu, hI_n, hI_un, z_nat, em_d, zl, z_add, z_sub, z_mul, z_lt, z_eq, gI_mk, gJ_mk, cI_some, cV_some, cJ_some, cI_x, cV_x, cJ_x, uS_self, uS_ne, if_pos, if_neg, b01, b01n, ite_not, if_true, if_false, Bool.false_eq_true]
  rw [hf]
  unfold lokA
  by_cases z : fitB nB bk (rd (4 * r + 2)) (plainZ cd rd r) = 0
  · simp (disch := omega) only [hk, hu, hI_n, hI_un, z_nat, em_d, zl, z_add, z_sub, z_mul, z_lt, z_eq, gI_mk, gJ_mk, cI_some, cV_some, cJ_some, cI_x, cV_x, cJ_x, uS_self, uS_ne, if_pos, if_neg, b01, b01n, ite_not, if_true, if_false, Bool.false_eq_true, z_zero hlt, z, rI_d]
  · simp (disch := omega) only [hk, hu, hI_n, hI_un, z_nat, em_d, zl, z_add, z_sub, z_mul, z_lt, z_eq, gI_mk, gJ_mk, cI_some, cV_some, cJ_some, cI_x, cV_x, cJ_x, uS_self, uS_ne, if_pos, if_neg, b01, b01n, ite_not, if_true, if_false, Bool.false_eq_true, z_zero hlt, z]
    exact hl
theorem m_lookN (hL : LdP S nT nR nC rd) {r q : Int} (hb : -2147483648 ≤ r ∧ r < 2147483648) (hr : ¬ (0 ≤ r ∧ r < nR)) : am_call X aP (d + 7) 248 [.ref 132, .int (zI r), .int (zI q)] (mkS w (hI S) J) = some (.inl (some (.int (zI 0))), (mkS w (hI (mxN S)) J)) := by
  rw [go_X10_look, e_X10_look_0, z_0, hu.1, m_isRoad0 (LdP_q hL (QuM_0 S)) (uS_self _ _ _ _) hb hr]
  simp (disch := omega) only [hk, hu, hI_n, hI_un, z_nat, em_d, zl, z_add, z_sub, z_mul, z_lt, z_eq, gI_mk, gJ_mk, cI_some, cV_some, cJ_some, cI_x, cV_x, cJ_x, uS_self, uS_ne, if_pos, if_neg, b01, b01n, ite_not, if_true, if_false, Bool.false_eq_true, rI_d]
  rfl
theorem m_lookB (hL : LdP S nT nR nC rd) {r q : Int} (hr : 0 ≤ r ∧ r < nR) (hb : -2147483648 ≤ q ∧ q < 2147483648) (hq : ¬ (0 ≤ q ∧ q ≤ 1)) : am_call X aP (d + 7) 248 [.ref 132, .int (zI r), .int (zI q)] (mkS w (hI S) J) = some (.inl (some (.int (zI 0))), (mkS w (hI (mxB S 2)) J)) := by
  rw [go_X10_look, e_X10_look_0, z_0, hu.1, m_isRoad1 (LdP_q hL (QuM_0 S)) (uS_self _ _ _ _) hr]
  simp (disch := omega) only [hk, hu, hI_n, hI_un, z_nat, em_d, zl, z_add, z_sub, z_mul, z_lt, z_eq, gI_mk, gJ_mk, cI_some, cV_some, cJ_some, cI_x, cV_x, cJ_x, uS_self, uS_ne, if_pos, if_neg, b01, b01n, ite_not, if_true, if_false, Bool.false_eq_true, m_within]
  rw [m_may0 (uS_self _ _ _ _) (by decide) (by decide)]
  simp (disch := omega) only [hk, hu, hI_n, hI_un, z_nat, em_d, zl, z_add, z_sub, z_mul, z_lt, z_eq, gI_mk, gJ_mk, cI_some, cV_some, cJ_some, cI_x, cV_x, cJ_x, uS_self, uS_ne, if_pos, if_neg, b01, b01n, ite_not, if_true, if_false, Bool.false_eq_true, rI_d]
  rfl
end LOK
