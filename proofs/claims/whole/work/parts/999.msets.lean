/-! THE REFERENCE SETS A LAND; its calls -/
section MST
variable {X : Nat × (Nat → Int32)} {d : Nat} {w : Bool × Bool × Bool} {S : Hp} {J : Nat → Nat → Int64} {B : Nat → Int} {sz n tp : Int} {x : LSt}
theorem l_set43 : ∃ T, Fr [147] S T ∧ (∀ i, 0 ≤ i → i < 51 → T 147 i = 0) ∧ ∀ n : Nat, 51 ≤ n → ∃ n', n ≤ n' + 51 ∧ aR X (d + 1) m_X10_sets n 43 [some (.ref 132), some (.int (zI 0))] (0, 0) (mkS w (hI S) J) = aR X (d + 1) m_X10_sets n' 43 [some (.ref 132), some (.int (zI 51))] (0, 0) (mkS w (hI T) J) := by
  refine ⟨fillS S 147 51 0, fillS_fr _ _ _ _, fun i h1 h2 => ?_, fun n hn => ?_⟩
  · unfold fillS
    rw [if_pos ⟨rfl, h1, h2⟩]
  · have key : ∀ (j k n : Nat), k + j = 51 → j ≤ n → ∃ n', n = n' + j ∧ aR X (d + 1) m_X10_sets n 43 [some (.ref 132), some (.int (zI ((k : Int))))] (0, 0) (mkS w (hI (fillS S 147 k 0)) J) = aR X (d + 1) m_X10_sets n' 43 [some (.ref 132), some (.int (zI 51))] (0, 0) (mkS w (hI (fillS S 147 51 0)) J) := by
      intro j
      induction j with
      | zero =>
        intro k n h1 h2
        have : k = 51 := by omega
        subst this
        exact ⟨n, rfl, rfl⟩
      | succ j ih =>
        intro k n h1 h2
        obtain ⟨n, rfl⟩ : ∃ m, n = m + 1 := ⟨n - 1, by omega⟩
        obtain ⟨n', z1, z2⟩ := ih (k + 1) n (by omega) (by omega)
        have ef : uS (fillS S 147 k 0) 147 (k : Int) 0 = fillS S 147 ((k + 1 : Nat) : Int) 0 := by
          funext o a
          rw [uS_at]
          unfold fillS
          by_cases e1 : o = 147 ∧ a = (k : Int)
          · rw [if_pos e1, if_pos ⟨e1.1, by omega, by omega⟩]
          · rw [if_neg e1]
            by_cases e2 : o = 147 ∧ 0 ≤ a ∧ a < (k : Int)
            · rw [if_pos e2, if_pos ⟨e2.1, e2.2.1, by omega⟩]
            · rw [if_neg e2, if_neg (fun z => by
                by_cases e3 : a = (k : Int)
                · exact e1 ⟨z.1, e3⟩
                · exact e2 ⟨z.1, z.2.1, by omega⟩)]
        refine ⟨n', by omega, ?_⟩
        rw [← ef, show ((k + 1 : Nat) : Int) = (k : Int) + 1 by omega] at z2
        rw [e_X10_sets_43]
        simp (disch := omega) only [hk, hu, hI_n, hI_un, z_nat, em_d, zl, z_add, z_sub, z_mul, z_lt, z_eq, gI_mk, gJ_mk, cI_some, cV_some, cJ_some, cI_x, cV_x, cJ_x, uS_self, uS_ne, if_pos, if_neg, b01, b01n, ite_not, if_true, if_false, Bool.false_eq_true]
        exact z2
    have e0 : fillS S 147 ((0 : Nat) : Int) 0 = S := by
      funext o a
      unfold fillS
      rw [if_neg (fun z => by have := z.2; omega)]
    obtain ⟨n', z1, z2⟩ := key 51 0 n (by decide) (by omega)
    rw [e0] at z2
    exact ⟨n', by omega, z2⟩
theorem l_set55 {nR : Int} (h18 : S 132 18 = nR) (hR : 0 ≤ nR ∧ nR ≤ 12) : ∃ T, Fr [147] S T ∧ (∀ r, 0 ≤ r → r < nR → T 147 r = S 137 (4 * r + 3)) ∧ (∀ i, nR ≤ i → T 147 i = S 147 i) ∧ ∀ n : Nat, nR.toNat ≤ n → ∃ n', n ≤ n' + nR.toNat ∧ aR X (d + 1) m_X10_sets n 55 [some (.ref 132), some (.int (zI 0))] (0, 0) (mkS w (hI S) J) = aR X (d + 1) m_X10_sets n' 55 [some (.ref 132), some (.int (zI nR))] (0, 0) (mkS w (hI T) J) := by
  obtain ⟨T, ⟨v1, v2, v3⟩, k1⟩ := loopE (fun n k T => (aR X (d + 1) m_X10_sets n 55 [some (.ref 132), some (.int (zI k))] (0, 0) (mkS w (hI T) J))) (fun k T => Fr [147] S T ∧ (∀ r, 0 ≤ r → r < k → T 147 r = S 137 (4 * r + 3)) ∧ (∀ i, k ≤ i → T 147 i = S 147 i)) nR 1 (fun k T q1 q2 q3 => by
    obtain ⟨q3, q4, q5⟩ := q3
    have t18 : T 132 18 = nR := by rw [q3 132 (by decide)]; exact h18
    have t137 : T 137 = S 137 := q3 137 (by decide)
    refine ⟨uS T 147 k (S 137 (4 * k + 3)), ⟨Fr_tr q3 (Fr_u T (L := [147]) _ _ (by decide)) (fun _ z => z) (fun _ z => z), fun r r1 r2 => ?_, fun i i1 => ?_⟩, fun n hn => ?_⟩
    · by_cases e : r = k
      · rw [e, uS_self]
      · rw [uS_ne _ _ (Or.inr e)]
        exact q4 r r1 (by omega)
    · rw [uS_ne _ _ (Or.inr (by omega))]
      exact q5 i (by omega)
    · obtain ⟨n, rfl⟩ : ∃ n', n = n' + 1 := ⟨n - 1, by omega⟩
      refine ⟨n, by omega, ?_⟩
      show (aR X (d + 1) m_X10_sets (n + 1) 55 [some (.ref 132), some (.int (zI k))] (0, 0) (mkS w (hI T) J)) = (aR X (d + 1) m_X10_sets n 55 [some (.ref 132), some (.int (zI ((k + 1))))] (0, 0) (mkS w (hI (uS T 147 k (S 137 (4 * k + 3)))) J))
      rw [e_X10_sets_55]
      simp (disch := omega) only [hk, hu, hI_n, hI_un, z_nat, em_d, zl, z_add, z_sub, z_mul, z_lt, z_eq, gI_mk, gJ_mk, cI_some, cV_some, cJ_some, cI_x, cV_x, cJ_x, uS_self, uS_ne, if_pos, if_neg, b01, b01n, ite_not, if_true, if_false, Bool.false_eq_true, Int.zero_add, t18, t137]) nR.toNat 0 S (by omega) (by omega) ⟨Fr_rf _ _, fun r _ _ => by omega, fun _ _ => rfl⟩
  refine ⟨T, v1, v2, v3, fun n hn => ?_⟩
  obtain ⟨n', z1, z2⟩ := k1 n (by omega)
  exact ⟨n', by omega, z2⟩
theorem l_set77 {nC : Int} (h19 : S 132 19 = nC) (hC : 0 ≤ nC ∧ nC ≤ 5) : ∃ T, Fr [147] S T ∧ (∀ c, 0 ≤ c → c < nC → T 147 (24 + c) = S 138 (2 * c) ∧ T 147 (29 + c) = S 138 (2 * c) ∧ T 147 (34 + c) = -1 ∧ T 147 (44 + c) = S 138 (2 * c + 1)) ∧ (∀ i, i < 24 ∨ (39 ≤ i ∧ i < 44) ∨ 49 ≤ i → T 147 i = S 147 i) ∧ ∀ n : Nat, nC.toNat ≤ n → ∃ n', n ≤ n' + nC.toNat ∧ aR X (d + 1) m_X10_sets n 77 [some (.ref 132), some (.int (zI 0))] (0, 0) (mkS w (hI S) J) = aR X (d + 1) m_X10_sets n' 77 [some (.ref 132), some (.int (zI nC))] (0, 0) (mkS w (hI T) J) := by
  obtain ⟨T, ⟨v1, v2, v3⟩, k1⟩ := loopE (fun n k T => (aR X (d + 1) m_X10_sets n 77 [some (.ref 132), some (.int (zI k))] (0, 0) (mkS w (hI T) J))) (fun k T => Fr [147] S T ∧ (∀ c, 0 ≤ c → c < k → T 147 (24 + c) = S 138 (2 * c) ∧ T 147 (29 + c) = S 138 (2 * c) ∧ T 147 (34 + c) = -1 ∧ T 147 (44 + c) = S 138 (2 * c + 1)) ∧ (∀ i, i < 24 ∨ (39 ≤ i ∧ i < 44) ∨ 49 ≤ i → T 147 i = S 147 i)) nC 1 (fun k T q1 q2 q3 => by
    obtain ⟨q3, q4, q5⟩ := q3
    have t19 : T 132 19 = nC := by rw [q3 132 (by decide)]; exact h19
    have t138 : T 138 = S 138 := q3 138 (by decide)
    refine ⟨uS (uS (uS (uS T 147 (24 + k) (S 138 (2 * k))) 147 (29 + k) (S 138 (2 * k))) 147 (34 + k) (-1)) 147 (44 + k) (S 138 (2 * k + 1)), ⟨Fr_tr q3 (Fr_tr (Fr_tr (Fr_tr (Fr_u T (L := [147]) _ _ (by decide)) (Fr_u _ (L := [147]) _ _ (by decide)) (fun _ z => z) (fun _ z => z)) (Fr_u _ (L := [147]) _ _ (by decide)) (fun _ z => z) (fun _ z => z)) (Fr_u _ (L := [147]) _ _ (by decide)) (fun _ z => z) (fun _ z => z)) (fun _ z => z) (fun _ z => z), fun r r1 r2 => ?_, fun i i1 => ?_⟩, fun n hn => ?_⟩
    · by_cases e : r = k
      · rw [e]
        simp (disch := omega) only [uS_ne, uS_self, and_self]
      · simp (disch := omega) only [uS_ne]
        exact q4 r r1 (by omega)
    · rw [uS_ne _ _ (Or.inr (by omega)), uS_ne _ _ (Or.inr (by omega)), uS_ne _ _ (Or.inr (by omega)), uS_ne _ _ (Or.inr (by omega))]
      exact q5 i i1
    · obtain ⟨n, rfl⟩ : ∃ n', n = n' + 1 := ⟨n - 1, by omega⟩
      refine ⟨n, by omega, ?_⟩
      show (aR X (d + 1) m_X10_sets (n + 1) 77 [some (.ref 132), some (.int (zI k))] (0, 0) (mkS w (hI T) J)) = (aR X (d + 1) m_X10_sets n 77 [some (.ref 132), some (.int (zI ((k + 1))))] (0, 0) (mkS w (hI (uS (uS (uS (uS T 147 (24 + k) (S 138 (2 * k))) 147 (29 + k) (S 138 (2 * k))) 147 (34 + k) (-1)) 147 (44 + k) (S 138 (2 * k + 1)))) J))
      rw [e_X10_sets_77]
      simp (disch := omega) only [hk, hu, hI_n, hI_un, z_nat, em_d, zl, z_add, z_sub, z_mul, z_lt, z_eq, gI_mk, gJ_mk, cI_some, cV_some, cJ_some, cI_x, cV_x, cJ_x, uS_self, uS_ne, if_pos, if_neg, b01, b01n, ite_not, if_true, if_false, Bool.false_eq_true, t19, t138]) nC.toNat 0 S (by omega) (by omega) ⟨Fr_rf _ _, fun r _ _ => by omega, fun _ _ => rfl⟩
  refine ⟨T, v1, v2, v3, fun n hn => ?_⟩
  obtain ⟨n', z1, z2⟩ := k1 n (by omega)
  exact ⟨n', by omega, z2⟩
/-- all that is set -/
theorem m_sets (hL : MLd S x) : ∃ (S' : Hp) (rd : Int → Int), am_call X aP (d + 2) 173 [.ref 132] (mkS w (hI S) J) = some (.inl none, (mkS w (hI S') J)) ∧ (∀ r, 0 ≤ r → r < x.2.1 → rd (4 * r) = x.2.2.2.1 (4 * r) ∧ rd (4 * r + 1) = x.2.2.2.1 (4 * r + 1) ∧ rd (4 * r + 2) = x.2.2.2.1 (4 * r + 2)) ∧ (S' 132 17 = x.1 ∧ S' 132 18 = x.2.1 ∧ S' 132 19 = x.2.2.1 ∧ ∀ k, 0 ≤ k → k < 48 → S' 137 k = rd k) ∧ NwP x.2.1 x.2.2.1 S' (s0F x) ∧ (S' 132 26 = 0 ∧ S' 132 42 = 0 ∧ S' 132 31 = 0 ∧ S' 132 49 = 0 ∧ S' 132 32 = 0) ∧ Fr [132, 137, 138, 147] S S' ∧ ∀ k, k < 17 ∨ k = 47 → S' 132 k = S 132 k := by
  obtain ⟨t14, t15, t16, hr, hc, ⟨a1, a2⟩, ⟨a3, a4⟩, ⟨a5, a6⟩, hr2, hc2⟩ := id hL
  obtain ⟨S0, hS0⟩ : ∃ T, T = uS (uS (uS S 132 17 x.1) 132 18 x.2.1) 132 19 x.2.2.1 := ⟨_, rfl⟩
  obtain ⟨S1, hS1⟩ : ∃ T, T = cpS (cpS S0 135 137 48) 136 138 10 := ⟨_, rfl⟩
  obtain ⟨S2, hS2⟩ : ∃ T, T = uS (uS (uS (uS (uS S1 132 26 0) 132 42 0) 132 31 0) 132 49 0) 132 32 0 := ⟨_, rfl⟩
  have h1 := fun d => m_copies (X := X) (d := d) (w := w) (J := J) (S := S0) (o1 := 135) (o2 := 137) (n := 48) (by decide) (by decide) (by decide) (by decide) (by decide) (by decide) (by decide) (by decide) (by decide)
  have h2 := fun d => m_copies (X := X) (d := d) (w := w) (J := J) (S := cpS S0 135 137 48) (o1 := 136) (o2 := 138) (n := 10) (by decide) (by decide) (by decide) (by decide) (by decide) (by decide) (by decide) (by decide) (by decide)
  have c1 : ∀ o, o ≠ 137 → o ≠ 138 → S1 o = S0 o := fun o o1 o2 => by
    rw [hS1]
    funext a
    unfold cpS
    rw [if_neg (fun z => o2 z.1), if_neg (fun z => o1 z.1)]
  have c2 : ∀ k, 0 ≤ k → k < 48 → S1 137 k = S 135 k := fun k k1 k2 => by
    rw [hS1]
    unfold cpS
    rw [if_neg (fun z => absurd z.1 (by decide)), if_pos ⟨rfl, k1, k2⟩, hS0, uS_row _ _ _ (by decide), uS_row _ _ _ (by decide), uS_row _ _ _ (by decide)]
  have c3 : ∀ k, 0 ≤ k → k < 10 → S1 138 k = S 136 k := fun k k1 k2 => by
    rw [hS1]
    unfold cpS
    rw [if_pos ⟨rfl, k1, k2⟩, if_neg (fun z => absurd z.1 (by decide)), hS0, uS_row _ _ _ (by decide), uS_row _ _ _ (by decide), uS_row _ _ _ (by decide)]
  have e2 : ∀ o, o ≠ 132 → S2 o = S1 o := fun o ho => by rw [hS2, uS_row _ _ _ ho, uS_row _ _ _ ho, uS_row _ _ _ ho, uS_row _ _ _ ho, uS_row _ _ _ ho]
  have e3 : ∀ k, k ≠ 26 → k ≠ 42 → k ≠ 31 → k ≠ 49 → k ≠ 32 → S2 132 k = S0 132 k := fun k k1 k2 k3 k4 k5 => by
    rw [hS2, uS_ne _ _ (Or.inr k5), uS_ne _ _ (Or.inr k4), uS_ne _ _ (Or.inr k3), uS_ne _ _ (Or.inr k2), uS_ne _ _ (Or.inr k1), c1 132 (by decide) (by decide)]
  have e17 : S2 132 17 = x.1 := by rw [e3 17 (by decide) (by decide) (by decide) (by decide) (by decide), hS0, uS_ne _ _ (Or.inr (by decide)), uS_ne _ _ (Or.inr (by decide)), uS_self]
  have e18 : S2 132 18 = x.2.1 := by rw [e3 18 (by decide) (by decide) (by decide) (by decide) (by decide), hS0, uS_ne _ _ (Or.inr (by decide)), uS_self]
  have e19 : S2 132 19 = x.2.2.1 := by rw [e3 19 (by decide) (by decide) (by decide) (by decide) (by decide), hS0, uS_self]
  obtain ⟨T3, p1, p2, p3⟩ := l_set43 (X := X) (d := d) (w := w) (S := S2) (J := J)
  obtain ⟨T4, p4, p5, p6, p7⟩ := l_set55 (X := X) (d := d) (w := w) (S := T3) (J := J) (nR := x.2.1) (by rw [p1 132 (by decide)]; exact e18) ⟨a3, a4⟩
  obtain ⟨T5, p8, p9, p10, p11⟩ := l_set77 (X := X) (d := d) (w := w) (S := T4) (J := J) (nC := x.2.2.1) (by rw [p4 132 (by decide), p1 132 (by decide)]; exact e19) ⟨a5, a6⟩
  have q132 : T5 132 = S2 132 := by rw [p8 132 (by decide), p4 132 (by decide), p1 132 (by decide)]
  have q137 : T3 137 = S1 137 := by rw [p1 137 (by decide), e2 137 (by decide)]
  have q138 : T4 138 = S1 138 := by rw [p4 138 (by decide), p1 138 (by decide), e2 138 (by decide)]
  have hF : Fr [132, 137, 138, 147] S T5 := fun o ho => by
    simp only [List.mem_cons, List.not_mem_nil, or_false, not_or] at ho
    rw [p8 o (fun z => ho.2.2.2 (List.mem_singleton.mp z)), p4 o (fun z => ho.2.2.2 (List.mem_singleton.mp z)), p1 o (fun z => ho.2.2.2 (List.mem_singleton.mp z)), e2 o ho.1, c1 o ho.2.1 ho.2.2.1, hS0, uS_row _ _ _ ho.1, uS_row _ _ _ ho.1, uS_row _ _ _ ho.1]
  refine ⟨T5, fun k => S 135 k, ?_, fun r r1 r2 => ?_, ⟨by rw [q132]; exact e17, by rw [q132]; exact e18, by rw [q132]; exact e19, fun k k1 k2 => ?_⟩, fun k hk9 => ?_, ?_, hF, fun k hk9 => ?_⟩
  · rw [go_X10_sets, e_X10_sets_0]
    refine cV_go (st := mkS w (hI (cpS S0 135 137 48)) J) ?_ ?_
    · simp (disch := omega) only [hk, hu, hI_n, hI_un, z_nat, em_d, zl, z_add, z_sub, z_mul, z_lt, z_eq, gI_mk, gJ_mk, cI_some, cV_some, cJ_some, cI_x, cV_x, cJ_x, uS_self, uS_ne, if_pos, if_neg, b01, b01n, ite_not, if_true, if_false, Bool.false_eq_true, t14, t15, t16]
      rw [← hS0]
      exact h1 _
    refine cV_go (st := mkS w (hI S1) J) ?_ ?_
    · simp (disch := omega) only [hk, hu, hI_n, hI_un, z_nat, em_d, zl, z_add, z_sub, z_mul, z_lt, z_eq, gI_mk, gJ_mk, cI_some, cV_some, cJ_some, cI_x, cV_x, cJ_x, uS_self, uS_ne, if_pos, if_neg, b01, b01n, ite_not, if_true, if_false, Bool.false_eq_true]
      rw [hS1]
      exact h2 _
    simp (disch := omega) only [hk, hu, hI_n, hI_un, z_nat, em_d, zl, z_add, z_sub, z_mul, z_lt, z_eq, gI_mk, gJ_mk, cI_some, cV_some, cJ_some, cI_x, cV_x, cJ_x, uS_self, uS_ne, if_pos, if_neg, b01, b01n, ite_not, if_true, if_false, Bool.false_eq_true]
    rw [← hS2]
    obtain ⟨n1, z1, z2⟩ := p3 9999999 (by decide)
    refine z2.trans ?_
    obtain ⟨n1, rfl⟩ : ∃ m, n1 = m + 1 := ⟨n1 - 1, by omega⟩
    rw [e_X10_sets_43]
    simp (disch := omega) only [hk, hu, hI_n, hI_un, z_nat, em_d, zl, z_add, z_sub, z_mul, z_lt, z_eq, gI_mk, gJ_mk, cI_some, cV_some, cJ_some, cI_x, cV_x, cJ_x, uS_self, uS_ne, if_pos, if_neg, b01, b01n, ite_not, if_true, if_false, Bool.false_eq_true]
    obtain ⟨n2, z3, z4⟩ := p7 n1 (by omega)
    refine z4.trans ?_
    obtain ⟨n2, rfl⟩ : ∃ m, n2 = m + 1 := ⟨n2 - 1, by omega⟩
    have t18 : T4 132 18 = x.2.1 := by rw [p4 132 (by decide), p1 132 (by decide)]; exact e18
    rw [e_X10_sets_55]
    simp (disch := omega) only [hk, hu, hI_n, hI_un, z_nat, em_d, zl, z_add, z_sub, z_mul, z_lt, z_eq, gI_mk, gJ_mk, cI_some, cV_some, cJ_some, cI_x, cV_x, cJ_x, uS_self, uS_ne, if_pos, if_neg, b01, b01n, ite_not, if_true, if_false, Bool.false_eq_true, t18]
    obtain ⟨n3, z5, z6⟩ := p11 n2 (by omega)
    refine z6.trans ?_
    obtain ⟨n3, rfl⟩ : ∃ m, n3 = m + 1 := ⟨n3 - 1, by omega⟩
    have t19 : T5 132 19 = x.2.2.1 := by rw [q132]; exact e19
    rw [e_X10_sets_77]
    simp (disch := omega) only [hk, hu, hI_n, hI_un, z_nat, em_d, zl, z_add, z_sub, z_mul, z_lt, z_eq, gI_mk, gJ_mk, cI_some, cV_some, cJ_some, cI_x, cV_x, cJ_x, uS_self, uS_ne, if_pos, if_neg, b01, b01n, ite_not, if_true, if_false, Bool.false_eq_true, t19, rV_d]
  · obtain ⟨b1, b2, b3, -⟩ := hr r r1 r2
    exact ⟨b1, b2, b3⟩
  · rw [p8 137 (by decide), p4 137 (by decide), q137]
    exact c2 k k1 k2
  · have hz : ∀ i, x.2.1 ≤ i → 0 ≤ i → i < 51 → T4 147 i = 0 := fun i i1 i2 i3 => by rw [p6 i i1]; exact p2 i i2 i3
    have hcc : ∀ c, 0 ≤ c → c < x.2.2.1 → T5 147 (24 + c) = s0F x (24 + c) ∧ T5 147 (29 + c) = s0F x (29 + c) ∧ T5 147 (34 + c) = s0F x (34 + c) ∧ T5 147 (39 + c) = s0F x (39 + c) ∧ T5 147 (44 + c) = s0F x (44 + c) := fun c q1 q2 => by
      obtain ⟨y1, y2, y3, y4⟩ := p9 c q1 q2
      obtain ⟨z1, z2⟩ := hc c q1 q2
      obtain ⟨e1, e2, e3, e4, e5⟩ := s0_c x (c := c) ⟨q1, by omega⟩
      rw [q138] at y1 y2 y4
      rw [c3 _ (by omega) (by omega), z1] at y1 y2
      rw [c3 _ (by omega) (by omega), z2] at y4
      rw [e1, e2, e3, e4, e5, y1, y2, y3, y4, p10 (39 + c) (by omega), hz (39 + c) (by omega) (by omega) (by omega)]
      exact ⟨rfl, rfl, rfl, rfl, rfl⟩
    rcases hk9 with h | h | h | h | h | h | h | h | h
    · obtain ⟨e1, e2⟩ := s0_r x (r := k) ⟨h.1, by omega⟩
      rw [p10 k (by omega), p5 k h.1 h.2, q137, c2 _ (by omega) (by omega), e1]
      exact (hr k h.1 h.2).2.2.2
    · obtain ⟨e1, e2⟩ := s0_r x (r := k - 12) ⟨by omega, by omega⟩
      rw [show 12 + (k - 12) = k by omega] at e2
      rw [p10 k (by omega), hz k (by omega) (by omega) (by omega), e2]
    · have := (hcc (k - 24) (by omega) (by omega)).1
      rw [show 24 + (k - 24) = k by omega] at this
      exact this
    · have := (hcc (k - 29) (by omega) (by omega)).2.1
      rw [show 29 + (k - 29) = k by omega] at this
      exact this
    · have := (hcc (k - 34) (by omega) (by omega)).2.2.1
      rw [show 34 + (k - 34) = k by omega] at this
      exact this
    · have := (hcc (k - 39) (by omega) (by omega)).2.2.2.1
      rw [show 39 + (k - 39) = k by omega] at this
      exact this
    · have := (hcc (k - 44) (by omega) (by omega)).2.2.2.2
      rw [show 44 + (k - 44) = k by omega] at this
      exact this
    · rw [h, p10 49 (by decide), hz 49 (by omega) (by decide) (by decide)]
      exact (s0_t x).1.symm
    · rw [h, p10 50 (by decide), hz 50 (by omega) (by decide) (by decide)]
      exact (s0_t x).2.symm
  · rw [q132]
    refine ⟨?_, ?_, ?_, ?_, ?_⟩ <;> rw [hS2] <;> simp (disch := decide) only [uS_ne, uS_self]
  · rw [q132, e3 k (by omega) (by omega) (by omega) (by omega) (by omega), hS0, uS_ne _ _ (Or.inr (by omega)), uS_ne _ _ (Or.inr (by omega)), uS_ne _ _ (Or.inr (by omega))]
theorem m_landB (h2 : S 132 2 = tp) (hb : -2147483648 ≤ n ∧ n < 2147483648) (ht : 0 ≤ tp ∧ tp ≤ 600) (hn : ¬ (0 ≤ n ∧ n ≤ min tp 600)) : am_call X aP (d + 6) 179 [.ref 132, .int (zI n)] (mkS w (hI S) J) = some (.inl (some (.int (zI 0))), (mkS w (hI (mxB S 1)) J)) := by
  have hmm := fun d => m_may0 (X := X) (d := d) (w := w) (J := J) (S := uS S 132 0 0) (uS_self _ _ _ _) (cd := 1) (k := 1) (by decide) (by decide)
  rw [go_X10_land, e_X10_land_0]
  by_cases q1 : n < 0
  · simp (disch := omega) only [hk, hu, hI_n, hI_un, z_nat, em_d, zl, z_add, z_sub, z_mul, z_lt, z_eq, gI_mk, gJ_mk, cI_some, cV_some, cJ_some, cI_x, cV_x, cJ_x, uS_self, uS_ne, if_pos, if_neg, b01, b01n, ite_not, if_true, if_false, Bool.false_eq_true]
    rw [hmm]
    simp (disch := omega) only [hk, hu, hI_n, hI_un, z_nat, em_d, zl, z_add, z_sub, z_mul, z_lt, z_eq, gI_mk, gJ_mk, cI_some, cV_some, cJ_some, cI_x, cV_x, cJ_x, uS_self, uS_ne, if_pos, if_neg, b01, b01n, ite_not, if_true, if_false, Bool.false_eq_true, rI_d]
    rfl
  · simp (disch := omega) only [hk, hu, hI_n, hI_un, z_nat, em_d, zl, z_add, z_sub, z_mul, z_lt, z_eq, gI_mk, gJ_mk, cI_some, cV_some, cJ_some, cI_x, cV_x, cJ_x, uS_self, uS_ne, if_pos, if_neg, b01, b01n, ite_not, if_true, if_false, Bool.false_eq_true, h2]
    rw [hmm]
    simp (disch := omega) only [hk, hu, hI_n, hI_un, z_nat, em_d, zl, z_add, z_sub, z_mul, z_lt, z_eq, gI_mk, gJ_mk, cI_some, cV_some, cJ_some, cI_x, cV_x, cJ_x, uS_self, uS_ne, if_pos, if_neg, b01, b01n, ite_not, if_true, if_false, Bool.false_eq_true, rI_d]
    rfl
/-- from the call to the end of the text -/
theorem m_landT (w : Bool × Bool × Bool) (J : Nat → Nat → Int64) (hT : Tx S 134 B) (h2 : S 132 2 = tp) (ht : 0 ≤ tp ∧ tp ≤ 600) (hn : 0 ≤ n ∧ n ≤ min tp 600) : ∃ S', (∀ d, ∃ n', am_call X aP (d + 6) 179 [.ref 132, .int (zI n)] (mkS w (hI S) J) = aR X (d + 5) m_X10_land (n' + 1) 70 [some (.ref 132), none, none, none] (0, 0) (mkS w (hI S') J)) ∧ mlFin S' B n.toNat (ldAll B n.toNat) ∧ Fr [132, 135, 136] S S' ∧ S' 132 2 = 0 ∧ S' 132 0 = 0 ∧ ∀ k, k = 1 ∨ (8 < k ∧ k < 14) ∨ 16 < k → S' 132 k = S 132 k := by
  obtain ⟨n, rfl⟩ : ∃ m : Nat, n = (m : Int) := ⟨n.toNat, by omega⟩
  rw [Int.toNat_natCast]
  obtain ⟨S1, g1, g2, g3, g4, g5, g6⟩ := M_begins (X := X) (S := uS S 132 0 0) (B := B) (e := n) w J ⟨fun k hk9 => by rw [uS_row _ _ _ (by decide)]; exact hT.1 k hk9, hT.2⟩ (by omega)
  have hM2 : Mp (uS (uS (uS S1 132 14 0) 132 15 0) 132 16 0) B n 0 := Mp_o g2 (fun k k1 k2 => by rw [uS_ne _ _ (Or.inr (by omega)), uS_ne _ _ (Or.inr (by omega)), uS_ne _ _ (Or.inr (by omega))]) (by rw [uS_row _ _ _ (by decide), uS_row _ _ _ (by decide), uS_row _ _ _ (by decide)])
  have hL2 : MLd (uS (uS (uS S1 132 14 0) 132 15 0) 132 16 0) ld0 := ⟨(uS_ne _ _ (Or.inr (by decide))).trans ((uS_ne _ _ (Or.inr (by decide))).trans (uS_self _ _ _ _)), (uS_ne _ _ (Or.inr (by decide))).trans (uS_self _ _ _ _), uS_self _ _ _ _, fun r r1 r2 => absurd (show r < 0 from r2) (by omega), fun r r1 r2 => absurd (show r < 0 from r2) (by omega), okL_0⟩
  obtain ⟨S3, f1, f2, f3⟩ := ml_ldRun (X := X) w J 600 0 0 _ ld0 (by decide) (Nat.le_refl _) hM2 hL2
  have e0 : ∀ k, k < 2 ∨ (8 < k ∧ k < 14) ∨ 16 < k → S3 132 k = uS S 132 0 0 132 k := fun k q => by rw [f3.2 k (by omega), uS_ne _ _ (Or.inr (by omega)), uS_ne _ _ (Or.inr (by omega)), uS_ne _ _ (Or.inr (by omega))]; exact g6 k (by omega)
  have e2 : S3 132 2 = 0 := by rw [f3.2 2 (by decide), uS_ne _ _ (Or.inr (by decide)), uS_ne _ _ (Or.inr (by decide)), uS_ne _ _ (Or.inr (by decide))]; exact g4
  have hmm := fun d => m_may1 (X := X) (d := d) (w := w) (J := J) (S := uS S 132 0 0) (uS_self _ _ _ _) 1 1
  have hcl : ∀ d, am_call X aP (d + 1) 172 [.ref 132] (mkS w (hI S1) J) = some (.inl none, (mkS w (hI (uS (uS (uS S1 132 14 0) 132 15 0) 132 16 0)) J)) := fun d => by
    rw [go_X10_clears, e_X10_clears_0]
    simp (disch := omega) only [hk, hu, hI_n, hI_un, z_nat, em_d, zl, z_add, z_sub, z_mul, z_lt, z_eq, gI_mk, gJ_mk, cI_some, cV_some, cJ_some, cI_x, cV_x, cJ_x, uS_self, uS_ne, if_pos, if_neg, b01, b01n, ite_not, if_true, if_false, Bool.false_eq_true, rV_d]
  refine ⟨S3, fun d => ?_, f2, ?_, e2, ?_, fun k q => ?_⟩
  · obtain ⟨n', z⟩ := f1 d 9999999 (by decide)
    refine ⟨n', ?_⟩
    rw [go_X10_land, e_X10_land_0]
    simp (disch := omega) only [hk, hu, hI_n, hI_un, z_nat, em_d, zl, z_add, z_sub, z_mul, z_lt, z_eq, gI_mk, gJ_mk, cI_some, cV_some, cJ_some, cI_x, cV_x, cJ_x, uS_self, uS_ne, if_pos, if_neg, b01, b01n, ite_not, if_true, if_false, Bool.false_eq_true, h2]
    rw [hmm]
    simp (disch := omega) only [hk, hu, hI_n, hI_un, z_nat, em_d, zl, z_add, z_sub, z_mul, z_lt, z_eq, gI_mk, gJ_mk, cI_some, cV_some, cJ_some, cI_x, cV_x, cJ_x, uS_self, uS_ne, if_pos, if_neg, b01, b01n, ite_not, if_true, if_false, Bool.false_eq_true]
    rw [g1]
    simp (disch := omega) only [hk, hu, hI_n, hI_un, z_nat, em_d, zl, z_add, z_sub, z_mul, z_lt, z_eq, gI_mk, gJ_mk, cI_some, cV_some, cJ_some, cI_x, cV_x, cJ_x, uS_self, uS_ne, if_pos, if_neg, b01, b01n, ite_not, if_true, if_false, Bool.false_eq_true]
    rw [hcl]
    simp (disch := omega) only [hk, hu, hI_n, hI_un, z_nat, em_d, zl, z_add, z_sub, z_mul, z_lt, z_eq, gI_mk, gJ_mk, cI_some, cV_some, cJ_some, cI_x, cV_x, cJ_x, uS_self, uS_ne, if_pos, if_neg, b01, b01n, ite_not, if_true, if_false, Bool.false_eq_true]
    exact z
  · exact Fr_tr (Fr_tr (Fr_u S (L := [132]) 0 0 (by decide)) (Fr_tr g3 (Fr_tr (Fr_tr (Fr_u S1 (L := [132]) _ _ (by decide)) (Fr_u _ (L := [132]) _ _ (by decide)) (fun _ z => z) (fun _ z => z)) (Fr_u _ (L := [132]) _ _ (by decide)) (fun _ z => z) (fun _ z => z)) (fun _ z => z) (fun _ z => z)) (fun _ z => z) (fun _ z => z)) f3.1 (by decide) (fun _ z => z)
  · rw [e0 0 (by decide), uS_self]
  · rw [e0 k (by omega), uS_ne _ _ (Or.inr (by omega))]
theorem m_landF (hT : Tx S 134 B) (h2 : S 132 2 = tp) (ht : 0 ≤ tp ∧ tp ≤ 600) (hn : 0 ≤ n ∧ n ≤ min tp 600) {f : Flt} (hf : ldAll B n.toNat = .inl f) : ∃ S', am_call X aP (d + 6) 179 [.ref 132, .int (zI n)] (mkS w (hI S) J) = some (.inl (some (.int (zI (f.1 - 10)))), (mkS w (hI S') J)) ∧ S' 132 8 = f.2 ∧ S' 132 2 = 0 ∧ S' 132 0 = 0 ∧ Fr [132, 135, 136] S S' ∧ ∀ k, k = 1 ∨ (8 < k ∧ k < 14) ∨ 16 < k → S' 132 k = S 132 k := by
  obtain ⟨S1, g1, g2, g3, g4, g5, g6⟩ := m_landT (X := X) w J hT h2 ht hn
  obtain ⟨n', z⟩ := g1 d
  rw [hf] at g2
  have g2 : Bd S1 f.1 f.2 := g2
  obtain ⟨hp, h5, h6⟩ := id g2
  refine ⟨uS S1 132 8 f.2, z.trans ?_, uS_self _ _ _ _, (uS_ne _ _ (Or.inr (by decide))).trans g4, (uS_ne _ _ (Or.inr (by decide))).trans g5, Fr_tr g3 (Fr_u S1 (L := [132]) _ _ (by decide)) (fun _ z => z) (by decide), fun k q => by rw [uS_ne _ _ (Or.inr (by omega))]; exact g6 k q⟩
  obtain ⟨v, hv⟩ : ∃ v, S1 132 14 = v := ⟨_, rfl⟩
  rw [e_X10_land_70]
  refine cI_go (r := zI (f.1 - 10)) (st := mkS w (hI (uS S1 132 8 f.2)) J) ?_ ?_
  · simp (disch := omega) only [hk, hu, hI_n, hI_un, z_nat, em_d, zl, z_add, z_sub, z_mul, z_lt, z_eq, gI_mk, gJ_mk, cI_some, cV_some, cJ_some, cI_x, cV_x, cJ_x, uS_self, uS_ne, if_pos, if_neg, b01, b01n, ite_not, if_true, if_false, Bool.false_eq_true]
    exact M_result0 g2
  simp (disch := omega) only [hk, hu, hI_n, hI_un, z_nat, em_d, zl, z_add, z_sub, z_mul, z_lt, z_eq, gI_mk, gJ_mk, cI_some, cV_some, cJ_some, cI_x, cV_x, cJ_x, uS_self, uS_ne, if_pos, if_neg, b01, b01n, ite_not, if_true, if_false, Bool.false_eq_true, h5, rI_d]
theorem m_landO (hT : Tx S 134 B) (h2 : S 132 2 = tp) (ht : 0 ≤ tp ∧ tp ≤ 600) (hn : 0 ≤ n ∧ n ≤ min tp 600) (hx : ldAll B n.toNat = .inr x) : ∃ (S' : Hp) (rd : Int → Int), am_call X aP (d + 6) 179 [.ref 132, .int (zI n)] (mkS w (hI S) J) = some (.inl (some (.int (zI x.1))), (mkS w (hI S') J)) ∧ okL x ∧ (∀ r, 0 ≤ r → r < x.2.1 → rd (4 * r) = x.2.2.2.1 (4 * r) ∧ rd (4 * r + 1) = x.2.2.2.1 (4 * r + 1) ∧ rd (4 * r + 2) = x.2.2.2.1 (4 * r + 2)) ∧ (S' 132 17 = x.1 ∧ S' 132 18 = x.2.1 ∧ S' 132 19 = x.2.2.1 ∧ ∀ k, 0 ≤ k → k < 48 → S' 137 k = rd k) ∧ NwP x.2.1 x.2.2.1 S' (s0F x) ∧ (S' 132 26 = 0 ∧ S' 132 42 = 0 ∧ S' 132 31 = 0 ∧ S' 132 49 = 0 ∧ S' 132 32 = 0) ∧ (S' 132 8 = -1 ∧ S' 132 2 = 0 ∧ S' 132 0 = 0 ∧ S' 132 1 = S 132 1) ∧ Fr [132, 135, 136, 137, 138, 147] S S' := by
  obtain ⟨S1, g1, g2, g3, g4, g5, g6⟩ := m_landT (X := X) w J hT h2 ht hn
  obtain ⟨n', z⟩ := g1 d
  rw [hx] at g2
  obtain ⟨⟨p', hM⟩, hL⟩ := g2
  have h5 := hM.2.2.2.2.2
  have hL1 : MLd (uS S1 132 8 (-1)) x := by
    unfold MLd
    rw [uS_ne _ _ (Or.inr (by decide)), uS_ne _ _ (Or.inr (by decide)), uS_ne _ _ (Or.inr (by decide)), uS_row _ _ _ (by decide), uS_row _ _ _ (by decide)]
    exact hL
  obtain ⟨⟨a1, a2⟩, -⟩ := hL.2.2.2.2.2
  have t14 := hL.1
  obtain ⟨S2, rd, f1, f2, f3, f4, f5, f6, f7⟩ := m_sets (X := X) (d := d + 3) (w := w) (J := J) hL1
  refine ⟨S2, rd, z.trans ?_, hL.2.2.2.2.2, f2, f3, f4, f5, ⟨?_, ?_, ?_, ?_⟩, Fr_tr (Fr_tr g3 (Fr_u S1 (L := [132]) _ _ (by decide)) (fun _ z => z) (by decide)) f6 (by decide) (by decide)⟩
  · rw [e_X10_land_70]
    refine cI_go (r := zI x.1) (st := mkS w (hI (uS S1 132 8 (-1))) J) ?_ ?_
    · simp (disch := omega) only [hk, hu, hI_n, hI_un, z_nat, em_d, zl, z_add, z_sub, z_mul, z_lt, z_eq, gI_mk, gJ_mk, cI_some, cV_some, cJ_some, cI_x, cV_x, cJ_x, uS_self, uS_ne, if_pos, if_neg, b01, b01n, ite_not, if_true, if_false, Bool.false_eq_true, t14]
      exact M_result1 hM
    refine (if_pos ?_).trans ?_
    · simp (disch := omega) only [hk, hu, hI_n, hI_un, z_nat, em_d, zl, z_add, z_sub, z_mul, z_lt, z_eq, gI_mk, gJ_mk, cI_some, cV_some, cJ_some, cI_x, cV_x, cJ_x, uS_self, uS_ne, if_pos, if_neg, b01, b01n, ite_not, if_true, if_false, Bool.false_eq_true, h5]
    refine cV_go (st := mkS w (hI S2) J) ?_ ?_
    · simp only [gI_mk, gJ_mk]
      exact f1
    simp only [gI_mk, gJ_mk, rI_d]
  · rw [f7 8 (by decide), uS_self]
  · rw [f7 2 (by decide), uS_ne _ _ (Or.inr (by decide))]
    exact g4
  · rw [f7 0 (by decide), uS_ne _ _ (Or.inr (by decide))]
    exact g5
  · rw [f7 1 (by decide), uS_ne _ _ (Or.inr (by decide))]
    exact g6 1 (Or.inl rfl)
end MST
