/-! FEED: the reference -/
theorem sh_k : ∀ k : Nat, k < 20 → zI 24 - zI 8 * (zI (k : Int) - zI (k : Int) / zI 4 * zI 4) = zI ((24 - 8 * (k % 4) : Nat) : Int) := by decide +kernel
section FD3
variable {X : Nat × (Nat → Int32)} {d : Nat} {w : Bool × Bool × Bool} {S : Hp} {J : Nat → Nat → Int64} {B : Nat → Int} {z : Int} {k : Nat}
theorem m_feedStep (a b c x e : Int32) (h1 : S 132 2 = z) (hz : 0 ≤ z ∧ z + 20 ≤ 600) (hk9 : k < 20) {D f : Nat} : aR X D m_X10_feed (f + 1) 13 [some (.ref 132), some (.int a), some (.int b), some (.int c), some (.int x), some (.int e), some (.int (zI k)), none] (0, 0) (mkS w (hI (fS S 134 132 2 z (fdV a b c x e) k)) J) = aR X D m_X10_feed f 13 [some (.ref 132), some (.int a), some (.int b), some (.int c), some (.int x), some (.int e), some (.int (zI ((k + 1 : Nat)))), none] (0, 0) (mkS w (hI (fS S 134 132 2 z (fdV a b c x e) (k + 1))) J) := by
  have hsh := sh_k k hk9
  obtain ⟨F, hF⟩ : ∃ F, F = fS S 134 132 2 z (fdV a b c x e) k := ⟨_, rfl⟩
  have e2 : F 132 2 = z + k := by
    rw [hF]
    exact fS_c h1 k
  have v2 : hI F 132 2 = zI (z + k) := (hI_n F 132 (a := 2) (by decide)).trans (by rw [e2])
  have u1 : ∀ v, uI (hI F) 134 (z + k).toNat (zI v) = hI (uS F 134 (z + k) v) := fun v => hI_un F 134 v (by omega)
  have w2 : ∀ v, hI (uS F 134 (z + k) v) 132 2 = zI (z + k) := fun v => (hI_n _ 132 (a := 2) (by decide)).trans (by rw [uS_ne _ _ (Or.inl (by decide)), e2])
  have u2 : ∀ v, uI (hI (uS F 134 (z + k) v)) 132 2 (zI (z + k + 1)) = hI (uS (uS F 134 (z + k) v) 132 2 (z + k + 1)) := fun v => hI_un _ 132 (a := 2) _ (by decide)
  have ek : ((k + 1 : Nat) : Int) = (k : Int) + 1 := by omega
  rw [fS_s, ← hF, e_X10_feed_13]
  refine (if_pos (by simp (disch := omega) only [zl, z_lt]; omega)).trans ?_
  by_cases k4 : k < 4
  · have hv : fdV a b c x e k = fdB a (24 - 8 * (k % 4)) := by
      unfold fdV
      rw [if_pos k4]
    rw [hv]
    refine (if_pos (by simp (disch := omega) only [zl, z_lt]; omega)).trans ?_
    refine (if_neg (by decide)).trans ?_
    simp (disch := omega) only [zl, v2, hsh, fdB_l, z_nat, u1, w2, u2, z_add, z_lt, if_pos, if_neg, ek]
  by_cases k8 : k < 8
  · have hv : fdV a b c x e k = fdB b (24 - 8 * (k % 4)) := by
      unfold fdV
      rw [if_neg (show ¬ k < 4 by omega), if_pos k8]
    rw [hv]
    refine (if_neg (by simp (disch := omega) only [zl, z_lt]; omega)).trans ?_
    refine (if_pos (by simp (disch := omega) only [zl, z_lt]; omega)).trans ?_
    refine (if_neg (by decide)).trans ?_
    simp (disch := omega) only [zl, v2, hsh, fdB_l, z_nat, u1, w2, u2, z_add, z_lt, if_pos, if_neg, ek]
  by_cases k12 : k < 12
  · have hv : fdV a b c x e k = fdB c (24 - 8 * (k % 4)) := by
      unfold fdV
      rw [if_neg (show ¬ k < 4 by omega), if_neg (show ¬ k < 8 by omega), if_pos k12]
    rw [hv]
    refine (if_neg (by simp (disch := omega) only [zl, z_lt]; omega)).trans ?_
    refine (if_neg (by simp (disch := omega) only [zl, z_lt]; omega)).trans ?_
    refine (if_pos (by simp (disch := omega) only [zl, z_lt]; omega)).trans ?_
    refine (if_neg (by decide)).trans ?_
    simp (disch := omega) only [zl, v2, hsh, fdB_l, z_nat, u1, w2, u2, z_add, z_lt, if_pos, if_neg, ek]
  by_cases k16 : k < 16
  · have hv : fdV a b c x e k = fdB x (24 - 8 * (k % 4)) := by
      unfold fdV
      rw [if_neg (show ¬ k < 4 by omega), if_neg (show ¬ k < 8 by omega), if_neg (show ¬ k < 12 by omega), if_pos k16]
    rw [hv]
    refine (if_neg (by simp (disch := omega) only [zl, z_lt]; omega)).trans ?_
    refine (if_neg (by simp (disch := omega) only [zl, z_lt]; omega)).trans ?_
    refine (if_neg (by simp (disch := omega) only [zl, z_lt]; omega)).trans ?_
    refine (if_pos (by simp (disch := omega) only [zl, z_lt]; omega)).trans ?_
    refine (if_neg (by decide)).trans ?_
    simp (disch := omega) only [zl, v2, hsh, fdB_l, z_nat, u1, w2, u2, z_add, z_lt, if_pos, if_neg, ek]
  have hv : fdV a b c x e k = fdB e (24 - 8 * (k % 4)) := by
    unfold fdV
    rw [if_neg (show ¬ k < 4 by omega), if_neg (show ¬ k < 8 by omega), if_neg (show ¬ k < 12 by omega), if_neg (show ¬ k < 16 by omega)]
  rw [hv]
  refine (if_neg (by simp (disch := omega) only [zl, z_lt]; omega)).trans ?_
  refine (if_neg (by simp (disch := omega) only [zl, z_lt]; omega)).trans ?_
  refine (if_neg (by simp (disch := omega) only [zl, z_lt]; omega)).trans ?_
  refine (if_neg (by simp (disch := omega) only [zl, z_lt]; omega)).trans ?_
  refine (if_neg (by decide)).trans ?_
  simp (disch := omega) only [zl, v2, hsh, fdB_l, z_nat, u1, w2, u2, z_add, z_lt, if_pos, if_neg, ek]
theorem m_feedLoop (a b c x e : Int32) (h1 : S 132 2 = z) (hz : 0 ≤ z ∧ z + 20 ≤ 600) {D : Nat} : ∀ (j k f : Nat), k + j = 20 → aR X D m_X10_feed (f + j + 1) 13 [some (.ref 132), some (.int a), some (.int b), some (.int c), some (.int x), some (.int e), some (.int (zI k)), none] (0, 0) (mkS w (hI (fS S 134 132 2 z (fdV a b c x e) k)) J) = some (.inl (some (.int (zI (z + 20)))), (mkS w (hI (fS S 134 132 2 z (fdV a b c x e) 20)) J)) := by
  intro j
  induction j with
  | zero =>
    intro k f hk9
    have v2 : ∀ T : Hp, hI T 132 2 = zI (T 132 2) := fun T => hI_n T 132 (a := 2) (by decide)
    rw [show k = 20 by omega, e_X10_feed_13]
    refine (if_neg (by decide)).trans ?_
    rw [v2, fS_c h1, rI_d]
    rfl
  | succ j ih =>
    intro k f hk9
    rw [show f + (j + 1) + 1 = (f + j + 1) + 1 by omega]
    exact (m_feedStep a b c x e h1 hz (by omega)).trans (ih (k + 1) f (by omega))
theorem m_feed (a b c x e : Int32) (h1 : S 132 2 = z) (hz : 0 ≤ z ∧ z + 20 ≤ 600) : am_call X aP (d + 1) 156 [.ref 132, .int a, .int b, .int c, .int x, .int e] (mkS w (hI S) J) = some (.inl (some (.int (zI (z + 20)))), (mkS w (hI (fS (uS S 132 0 0) 134 132 2 z (fdV a b c x e) 20)) J)) := by
  have e2 : uS S 132 0 0 132 2 = z := (uS_ne _ _ (Or.inr (by decide))).trans h1
  rw [go_X10_feed, e_X10_feed_0]
  refine (if_neg ?_).trans ?_
  · simp (disch := omega) only [hk, hu, hI_n, hI_un, z_nat, em_d, zl, z_add, z_sub, z_mul, z_lt, z_eq, gI_mk, gJ_mk, cI_some, cV_some, cJ_some, cI_x, cV_x, cJ_x, uS_self, uS_ne, if_pos, if_neg, b01, b01n, ite_not, if_true, if_false, Bool.false_eq_true, e2]
    omega
  have := m_feedLoop (X := X) (w := w) (J := J) a b c x e e2 hz (D := d) 20 0 9999978 rfl
  simp (disch := omega) only [hk, hu, hI_n, hI_un, z_nat, em_d, zl, z_add, z_sub, z_mul, z_lt, z_eq, gI_mk, gJ_mk, cI_some, cV_some, cJ_some, cI_x, cV_x, cJ_x, uS_self, uS_ne, if_pos, if_neg, b01, b01n, ite_not, if_true, if_false, Bool.false_eq_true]
  exact this
end FD3
