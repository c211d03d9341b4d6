/-! LUCK once more: the law's own array stays -/
section LK2
variable {X : Nat × (Nat → Int32)} {d : Nat} {w : Bool × Bool × Bool} {S : Hp} {J : Nat → Nat → Int64}
theorem uJ_158 (J : Nat → Nat → Int64) (k : Nat) (v : Int64) : uJ J 156 k v 158 = J 158 := va_up_ne _ _ (by decide)
theorem ml_fill2 {n k q half : Int} : ∀ (j : Nat) (i : Nat) (J : Nat → Nat → Int64), i + j = 14 → (∀ t, t < i → J 156 t = lN ((alN 0 0).getD t 0)) → ∃ J', (∀ t, t < 14 → J' 156 t = lN ((alN 0 0).getD t 0)) ∧ J' 158 = J 158 ∧ ∀ f, aR X (d + 1) m_X10_luck (f + j + 1) 35 [some (.ref 132), some (.int (zI n)), some (.int (zI k)), some (.int (zI q)), some (.int (zI half)), some (.int (zI ((i : Int)))), none, none, none, none] (0, 0) (mkS w (hI S) J) = aR X (d + 1) m_X10_luck f 53 [some (.ref 132), some (.int (zI n)), some (.int (zI k)), some (.int (zI q)), some (.int (zI half)), some (.long ((lN 1))), none, some (.int (zI 0)), none, none] (0, 0) (mkS w (hI S) J')
  | 0, i, J, h1, h2 => by
    refine ⟨J, fun t ht => h2 t (by omega), rfl, fun f => ?_⟩
    rw [e_X10_luck_35]
    simp (disch := omega) only [hk, hu, hI_n, hI_un, z_nat, em_d, zl, z_add, z_sub, z_mul, z_lt, z_eq, gI_mk, gJ_mk, cI_some, cV_some, cJ_some, cI_x, cV_x, cJ_x, uS_self, uS_ne, if_pos, if_neg, b01, b01n, ite_not, if_true, if_false, Bool.false_eq_true]
  | j + 1, i, J, h1, h2 => by
    have eJ : ∀ v : Int64, v = lN ((alN 0 0).getD i 0) → ∀ t, t < i + 1 → uJ J 156 i v 156 t = lN ((alN 0 0).getD t 0) := by
      intro v hv t ht
      rw [uJ_at]
      by_cases e : t = i
      · rw [if_pos ⟨rfl, e⟩, e]
        exact hv
      · rw [if_neg (fun z => e z.2)]
        exact h2 t (by omega)
    by_cases e : i = 0
    · subst e
      obtain ⟨J', g1, g0, g2⟩ := ml_fill2 j (0 + 1) (uJ J 156 0 (lN 1)) (by omega) (eJ _ rfl)
      refine ⟨J', g1, g0.trans (uJ_158 _ _ _), fun f => ?_⟩
      rw [e_X10_luck_35]
      simp (disch := omega) only [hk, hu, hI_n, hI_un, z_nat, em_d, zl, z_add, z_sub, z_mul, z_lt, z_eq, gI_mk, gJ_mk, cI_some, cV_some, cJ_some, cI_x, cV_x, cJ_x, uS_self, uS_ne, if_pos, if_neg, b01, b01n, ite_not, if_true, if_false, Bool.false_eq_true]
      exact g2 f
    · have ez : (alN 0 0).getD i 0 = 0 := by
        obtain ⟨i, rfl⟩ : ∃ m, i = m + 1 := ⟨i - 1, by omega⟩
        have : i < 13 := by omega
        exact (by decide : ∀ i : Nat, i < 13 → (alN 0 0).getD (i + 1) 0 = 0) i this
      obtain ⟨J', g1, g0, g2⟩ := ml_fill2 j (i + 1) (uJ J 156 i (lN 0)) (by omega) (eJ _ (by rw [ez]))
      refine ⟨J', g1, g0.trans (uJ_158 _ _ _), fun f => ?_⟩
      rw [e_X10_luck_35]
      simp (disch := omega) only [hk, hu, hI_n, hI_un, z_nat, em_d, zl, z_add, z_sub, z_mul, z_lt, z_eq, gI_mk, gJ_mk, cI_some, cV_some, cJ_some, cI_x, cV_x, cJ_x, uS_self, uS_ne, if_pos, if_neg, b01, b01n, ite_not, if_true, if_false, Bool.false_eq_true, Int.toNat_natCast]
      exact g2 f
theorem ml_row2 {N k q half : Nat} (hq : q ≤ 16) {i D : Nat} (hi : i ≤ 12) : ∀ (j : Nat) (J : Nat → Nat → Int64), j ≤ 14 → (∀ t, t < 14 → J 156 t = lN (if t < j then (alN q i).getD t 0 else (alN q (i + 1)).getD t 0)) → ∃ J', (∀ t, t < 14 → J' 156 t = lN ((alN q (i + 1)).getD t 0)) ∧ J' 158 = J 158 ∧ ∀ f, aR X (d + 1) m_X10_luck (f + j + 1) 58 [some (.ref 132), some (.int (zI ((N : Int)))), some (.int (zI ((k : Int)))), some (.int (zI ((q : Int)))), some (.int (zI ((half : Int)))), some (.long ((lN D))), none, some (.int (zI ((i : Int)))), some (.int (zI (((j : Int) - 1)))), none] (0, 0) (mkS w (hI S) J) = aR X (d + 1) m_X10_luck f 53 [some (.ref 132), some (.int (zI ((N : Int)))), some (.int (zI ((k : Int)))), some (.int (zI ((q : Int)))), some (.int (zI ((half : Int)))), some (.long ((lN (D * 16)))), none, some (.int (zI (((i + 1 : Nat) : Int)))), none, none] (0, 0) (mkS w (hI S) J')
  | 0, J, h1, h2 => by
    refine ⟨J, fun t ht => by rw [h2 t ht, if_neg (Nat.not_lt_zero _)], rfl, fun f => ?_⟩
    rw [e_X10_luck_58, show ((i + 1 : Nat) : Int) = (i : Int) + 1 by omega]
    simp (disch := omega) only [hk, hu, hI_n, hI_un, z_nat, em_d, zl, z_add, z_sub, z_mul, z_lt, z_eq, gI_mk, gJ_mk, cI_some, cV_some, cJ_some, cI_x, cV_x, cJ_x, uS_self, uS_ne, if_pos, if_neg, b01, b01n, ite_not, if_true, if_false, Bool.false_eq_true, l_mul]
  | j + 1, J, h1, h2 => by
    have ea := alN_get q i j (by omega)
    have eJ : ∀ v : Int64, v = lN ((alN q (i + 1)).getD j 0) → ∀ t, t < 14 → uJ J 156 j v 156 t = lN (if t < j then (alN q i).getD t 0 else (alN q (i + 1)).getD t 0) := by
      intro v hv t ht
      rw [uJ_at]
      by_cases e : t = j
      · subst e
        rw [if_pos ⟨rfl, rfl⟩, if_neg (Nat.lt_irrefl _)]
        exact hv
      · rw [if_neg (fun z => e z.2), h2 t ht]
        congr 1
        by_cases e2 : t < j
        · rw [if_pos e2, if_pos (by omega)]
        · rw [if_neg e2, if_neg (by omega)]
    have o1 := h2 j (by omega)
    rw [if_pos (by omega)] at o1
    have ej : ((j + 1 : Nat) : Int) - 1 = (j : Int) := by omega
    have e16 : ((16 : Int) - (q : Int)).toNat = 16 - q := by omega
    by_cases e : j = 0
    · subst e
      obtain ⟨J', g1, g0, g2⟩ := ml_row2 (N := N) (k := k) (half := half) (D := D) hq hi 0 (uJ J 156 0 (lN ((alN q i).getD 0 0) * lN (16 - q) + lN 0)) (by omega) (eJ _ (by rw [l_mul, l_add, ea, if_pos rfl, Nat.zero_mul]))
      refine ⟨J', g1, g0.trans (uJ_158 _ _ _), fun f => ?_⟩
      rw [show f + (0 + 1) + 1 = (f + 0 + 1) + 1 by omega, e_X10_luck_58, ej]
      simp (disch := omega) only [hk, hu, hI_n, hI_un, z_nat, em_d, zl, z_add, z_sub, z_mul, z_lt, z_eq, gI_mk, gJ_mk, cI_some, cV_some, cJ_some, cI_x, cV_x, cJ_x, uS_self, uS_ne, if_pos, if_neg, b01, b01n, ite_not, if_true, if_false, Bool.false_eq_true, z_64, e16, o1, Int.toNat_natCast, Int.toNat_zero]
      exact g2 f
    · have o2 := h2 (j - 1) (by omega)
      rw [if_pos (by omega)] at o2
      have ej2 : ((j : Int) - 1).toNat = j - 1 := by omega
      obtain ⟨J', g1, g0, g2⟩ := ml_row2 (N := N) (k := k) (half := half) (D := D) hq hi j (uJ J 156 j (lN ((alN q i).getD j 0) * lN (16 - q) + lN ((alN q i).getD (j - 1) 0) * lN q)) (by omega) (eJ _ (by rw [l_mul, l_mul, l_add, ea, if_neg e]))
      refine ⟨J', g1, g0.trans (uJ_158 _ _ _), fun f => ?_⟩
      rw [show f + (j + 1) + 1 = (f + j + 1) + 1 by omega, e_X10_luck_58, ej]
      simp (disch := omega) only [hk, hu, hI_n, hI_un, z_nat, em_d, zl, z_add, z_sub, z_mul, z_lt, z_eq, gI_mk, gJ_mk, cI_some, cV_some, cJ_some, cI_x, cV_x, cJ_x, uS_self, uS_ne, if_pos, if_neg, b01, b01n, ite_not, if_true, if_false, Bool.false_eq_true, z_64, e16, o1, o2, ej2, Int.toNat_natCast]
      exact g2 f
theorem ml_rows2 {N k q half : Nat} (hN : N ≤ 12) (hq : q ≤ 16) : ∀ (j i : Nat) (J : Nat → Nat → Int64), i + j = N → (∀ t, t < 14 → J 156 t = lN ((alN q i).getD t 0)) → ∃ J', (∀ t, t < 14 → J' 156 t = lN ((alN q N).getD t 0)) ∧ J' 158 = J 158 ∧ ∀ f, aR X (d + 1) m_X10_luck (f + 16 * j + 1) 53 [some (.ref 132), some (.int (zI ((N : Int)))), some (.int (zI ((k : Int)))), some (.int (zI ((q : Int)))), some (.int (zI ((half : Int)))), some (.long ((lN (16 ^ i)))), none, some (.int (zI ((i : Int)))), none, none] (0, 0) (mkS w (hI S) J) = aR X (d + 1) m_X10_luck f 99 [some (.ref 132), none, none, none, some (.int (zI ((half : Int)))), some (.long ((lN (16 ^ N)))), none, some (.long ((lN 0))), none, some (.int (zI ((k : Int))))] (0, 0) (mkS w (hI S) J')
  | 0, i, J, h1, h2 => by
    have : i = N := by omega
    subst this
    refine ⟨J, h2, rfl, fun f => ?_⟩
    rw [e_X10_luck_53]
    simp (disch := omega) only [hk, hu, hI_n, hI_un, z_nat, em_d, zl, z_add, z_sub, z_mul, z_lt, z_eq, gI_mk, gJ_mk, cI_some, cV_some, cJ_some, cI_x, cV_x, cJ_x, uS_self, uS_ne, if_pos, if_neg, b01, b01n, ite_not, if_true, if_false, Bool.false_eq_true]
  | j + 1, i, J, h1, h2 => by
    obtain ⟨J1, g1, g01, g2⟩ := ml_row2 (X := X) (d := d) (w := w) (S := S) (N := N) (k := k) (half := half) (D := 16 ^ i) hq (i := i) (by omega) 14 J (by omega) (fun t ht => by rw [h2 t ht, if_pos ht])
    obtain ⟨J2, g3, g02, g4⟩ := ml_rows2 (k := k) (half := half) hN hq j (i + 1) J1 (by omega) g1
    refine ⟨J2, g3, g02.trans g01, fun f => ?_⟩
    rw [show f + 16 * (j + 1) + 1 = (f + 16 * j + 1 + 14 + 1) + 1 by omega, e_X10_luck_53]
    simp (disch := omega) only [hk, hu, hI_n, hI_un, z_nat, em_d, zl, z_add, z_sub, z_mul, z_lt, z_eq, gI_mk, gJ_mk, cI_some, cV_some, cJ_some, cI_x, cV_x, cJ_x, uS_self, uS_ne, if_pos, if_neg, b01, b01n, ite_not, if_true, if_false, Bool.false_eq_true]
    refine (g2 (f + 16 * j + 1)).trans ?_
    rw [← Nat.pow_succ]
    exact g4 f
theorem m_luck2 {n k q half : Int} (h : okLuck n k q half) : ∃ J', J' 158 = J 158 ∧ am_call X aP (d + 2) 252 [.ref 132, .int (zI n), .int (zI k), .int (zI q), .int (zI half)] (mkS w (hI S) J) = some (.inl (some (.long ((luckA n k q half)))), (mkS w (hI (uS S 132 0 0)) J')) := by
  obtain ⟨⟨a1, a2⟩, ⟨b1, b2⟩, ⟨c1, c2⟩, d1, d2⟩ := h
  obtain ⟨n, rfl⟩ : ∃ m : Nat, n = (m : Int) := ⟨n.toNat, by omega⟩
  obtain ⟨k, rfl⟩ : ∃ m : Nat, k = (m : Int) := ⟨k.toNat, by omega⟩
  obtain ⟨q, rfl⟩ : ∃ m : Nat, q = (m : Int) := ⟨q.toNat, by omega⟩
  obtain ⟨half, rfl⟩ : ∃ m : Nat, half = (m : Int) := ⟨half.toNat, by omega⟩
  obtain ⟨J1, g1, g01, g2⟩ := ml_fill2 (X := X) (d := d) (w := w) (S := uS S 132 0 0) (n := (n : Int)) (k := (k : Int)) (q := (q : Int)) (half := (half : Int)) 14 0 J (by omega) (fun t ht => absurd ht (Nat.not_lt_zero _))
  obtain ⟨J2, g3, g02, g4⟩ := ml_rows2 (X := X) (d := d) (w := w) (S := uS S 132 0 0) (N := n) (k := k) (q := q) (half := half) (by omega) (by omega) n 0 J1 (by omega) g1
  have g5 := ml_sum (X := X) (d := d) (w := w) (S := uS S 132 0 0) (N := n) (k := k) (q := q) (half := half) (by omega) (by omega) (by omega) (by omega) g3 (14 - k) k 0 (9999999 - 15 - (16 * n + 1) - (14 - k + 1)) (by omega) rfl
  refine ⟨J2, g02.trans g01, ?_⟩
  unfold luckA
  rw [Int.toNat_natCast, Int.toNat_natCast, Int.toNat_natCast, go_X10_luck, e_X10_luck_0, z_0, hu.1]
  simp (disch := omega) only [hk, hu, hI_n, hI_un, z_nat, em_d, zl, z_add, z_sub, z_mul, z_lt, z_eq, gI_mk, gJ_mk, cI_some, cV_some, cJ_some, cI_x, cV_x, cJ_x, uS_self, uS_ne, if_pos, if_neg, b01, b01n, ite_not, if_true, if_false, Bool.false_eq_true, m_within]
  rw [m_may1 (uS_self _ _ _ _)]
  simp (disch := omega) only [hk, hu, hI_n, hI_un, z_nat, em_d, zl, z_add, z_sub, z_mul, z_lt, z_eq, gI_mk, gJ_mk, cI_some, cV_some, cJ_some, cI_x, cV_x, cJ_x, uS_self, uS_ne, if_pos, if_neg, b01, b01n, ite_not, if_true, if_false, Bool.false_eq_true]
  have g2 := g2 (9999999 - 15)
  have g4 := g4 (9999999 - 15 - (16 * n + 1))
  rw [show 9999999 - 15 - (16 * n + 1) + 16 * n + 1 = 9999999 - 15 by omega] at g4
  rw [show 9999999 - 15 - (16 * n + 1) - (14 - k + 1) + (14 - k) + 1 = 9999999 - 15 - (16 * n + 1) by omega] at g5
  exact g2.trans (g4.trans g5)
end LK2
