/-! THE WORK'S TEXT: two numbers, and what a step says -/
/-- a call of the class that reads steps, r more may open -/
def CcS (X : Nat × (Nat → Int32)) (B : Nat → Int) (e : Nat) (bl : Bool) (nc nr : Int) (num D r q : Nat) (out : WOut) : Prop := ∀ (w : Bool × Bool × Bool) (J : Nat → Nat → Int64) (S : Hp) (i : Nat), Tp S B e q → S 3 4 = (i : Int) → i ≤ q → S (iL bl) 7 = nr → S (iL bl) 8 = nc → ∃ S', (∀ d, am_call X aP (d + D) num [.ref 3, .ref 1, .ref (iL bl), .int (zI (6 - (r : Int)))] (mkS w (hI S) J) = some (.inl (some (.int (zI (sgW out)))), (mkS w (hI S') J))) ∧ CF S' B e i out ∧ FC i S S'
def McS (X : Nat × (Nat → Int32)) (B : Nat → Int) (e : Nat) (nc nr : Int) (num D r q : Nat) (out : WOut) : Prop := ∀ (w : Bool × Bool × Bool) (J : Nat → Nat → Int64) (S : Hp) (p j : Nat), Mp S B e p → sk B e p = q → S 132 7 = 6 - (r : Int) → S 132 30 = ((3 * j : Nat) : Int) → 3 * j ≤ q → S 132 18 = nr → S 132 19 = nc → ∃ S', (∀ d, am_call X aP (d + D) num [.ref 132] (mkS w (hI S) J) = some (.inl none, (mkS w (hI S') J))) ∧ MF S' B e r j out ∧ FR j S S'
/-- the reference's step up to its sign -/
def MrS (X : Nat × (Nat → Int32)) (B : Nat → Int) (e : Nat) (nc nr : Int) (r q : Nat) (out : WOut) : Prop := ∀ (w : Bool × Bool × Bool) (J : Nat → Nat → Int64) (S : Hp) (p j : Nat), Mp S B e p → sk B e p = q → S 132 7 = 6 - (r : Int) → S 132 30 = ((3 * j : Nat) : Int) → 3 * j ≤ q → S 132 18 = nr → S 132 19 = nc → ∃ S', (∀ d n, aR X (d + (2 * r + 6)) m_X10_readStep (n + 1) 0 [some (.ref 132), none, none] (0, 0) (mkS w (hI S) J) = aR X (d + (2 * r + 6)) m_X10_readStep n 71 [some (.ref 132), none, none] (0, 0) (mkS w (hI S') J)) ∧ MF S' B e r j out ∧ FR j S S'
/-- two numbers that stand at p -/
def oTwo (B : Nat → Int) (e : Nat) (k h1 h2 : Int) (p : Nat) : WOut :=
  if numK B e p 0 h1 = 0 then (if numK B e (sk B e (numE B e p)) 0 h2 = 0 then .inr ([(k, numV B e p, numV B e (sk B e (numE B e p)), 0)], sk B e (numE B e (sk B e (numE B e p)))) else .inl (numK B e (sk B e (numE B e p)) 0 h2, (sk B e (numE B e p) : Nat))) else .inl (numK B e p 0 h1, (p : Int))
section WK1
variable {X : Nat × (Nat → Int32)} {d : Nat} {w : Bool × Bool × Bool} {S : Hp} {J : Nat → Nat → Int64} {B : Nat → Int} {e p q i j r : Nat} {nc nr : Int} {bl : Bool}
theorem numE_le (B : Nat → Int) (e p : Nat) (h : p ≤ e) : numE B e p ≤ e := dg_len B e p h
theorem CSt_1 {k a b : Int} {m : Nat} (hk9 : k ≠ 5 ∧ k ≠ 6) (h : S 4 (i : Int) = k ∧ S 5 (i : Int) = a ∧ S 6 (i : Int) = b) : CSt S [(k, a, b, m)] i := ⟨⟨h.1, by rw [if_neg hk9.2]; exact h.2.1, by rw [if_neg hk9.1]; exact h.2.2⟩, trivial⟩
theorem MSt_1 {o : Nat} {k a b : Int} {m : Nat} (hk9 : k ≠ 5 ∧ k ≠ 6) (h : S o ((3 * j : Nat) : Int) = k ∧ S o ((3 * j + 1 : Nat) : Int) = a ∧ S o ((3 * j + 2 : Nat) : Int) = b) : MSt S o [(k, a, b, m)] j := by
  unfold MSt
  rw [if_neg hk9.2]
  exact ⟨⟨h.1, h.2.1, by rw [if_neg hk9.1]; exact h.2.2⟩, trivial⟩
theorem mL_1 {k a b : Int} {m : Nat} (h : k ≠ 6) : mL [(k, a, b, m)] = 1 := by
  show (if k = 6 then 0 else 1) + 0 = 1
  rw [if_neg h]
theorem rTwo_wf (k h1 h2 : Int) (hk9 : k ≠ 6) {p q : Nat} (hqp : q + 3 ≤ p) (hp : p ≤ e) (hok : ∀ a b, 0 ≤ a → a ≤ h1 → 0 ≤ b → b ≤ h2 → okst nc nr k a b) : WfW nc nr r q B e (oTwo B e k h1 h2 p) := by
  unfold oTwo
  by_cases n1 : numK B e p 0 h1 = 0
  · rw [if_pos n1]
    by_cases n2 : numK B e (sk B e (numE B e p)) 0 h2 = 0
    · rw [if_pos n2]
      obtain ⟨d1, d2, d3⟩ := numK_0 n1
      obtain ⟨f1, f2, f3⟩ := numK_0 n2
      have g1 := dg_pos d1
      have g2 := dg_pos f1
      have s1 := sk_ge (B := B) (e := e) (p := numE B e p)
      have s2 := sk_ge (B := B) (e := e) (p := numE B e (sk B e (numE B e p)))
      refine ⟨⟨?_, ?_, ?_, sk_sk, sk_le (numE_le B e _ (by omega))⟩, OkS_1 (hok _ _ d2 d3 f2 f3)⟩
      · show q ≤ sk B e (numE B e (sk B e (numE B e p)))
        omega
      · show 1 + q ≤ sk B e (numE B e (sk B e (numE B e p)))
        omega
      · show 3 * mL [(k, _, _, 0)] + q ≤ sk B e (numE B e (sk B e (numE B e p)))
        rw [mL_1 hk9]
        omega
    · rw [if_neg n2]
      trivial
  · rw [if_neg n1]
    trivial
theorem c_rTwo (w : Bool × Bool × Bool) (J : Nat → Nat → Int64) (hT : Tp S B e p) (h4 : S 3 4 = (i : Int)) (hi : i < 150) {k h1 h2 : Int} (hk9 : k ≠ 5 ∧ k ≠ 6) (hh1 : -1 ≤ h1 ∧ h1 < 100000) (hh2 : -1 ≤ h2 ∧ h2 < 100000) : ∃ S', (∀ d, am_call X aP (d + 4) 71 [.ref 3, .ref 1, .int (zI k), .int (zI h1), .int (zI h2)] (mkS w (hI S) J) = some (.inl (some (.int (zI (sgW (oTwo B e k h1 h2 p))))), (mkS w (hI S') J))) ∧ CF S' B e i (oTwo B e k h1 h2 p) ∧ FC i S S' := by
  unfold oTwo
  by_cases n1 : numK B e p 0 h1 = 0
  · rw [if_pos n1]
    obtain ⟨S1, g1, g2, -, g3, g4⟩ := T_num1 (X := X) w J hT (lo := 0) (by decide) hh1 n1
    by_cases n2 : numK B e (sk B e (numE B e p)) 0 h2 = 0
    · rw [if_pos n2]
      obtain ⟨S2, f1, f2, -, f3, f4⟩ := T_num1 (X := X) w J g2 (lo := 0) (by decide) hh2 n2
      have a4 : S2 3 4 = (i : Int) := by rw [f4.1 3 (by decide), g4.1 3 (by decide)]; exact h4
      obtain ⟨S3, y1, y2, y3, y4, y5⟩ := c_sput (X := X) w J a4 hi k (numV B e p) (numV B e (sk B e (numE B e p)))
      refine ⟨S3, fun d => ?_, ⟨Tp_o f2 y4.1 y4.2, CSt_1 hk9 y2, y3⟩, FC_tr (FC_t g4) (FC_tr (FC_t f4) y5 (Nat.le_refl _)) (Nat.le_refl _)⟩
      rw [go_X6_readTwo, e_X6_readTwo_0]
      refine cI_go (r := zI 1) (st := mkS w (hI S1) J) (by simp only [zl]; exact g1 d) ?_
      refine (if_neg (by decide)).trans ?_
      refine cI_go (r := zI 1) (st := mkS w (hI S2) J) (by simp only [gI_mk, gJ_mk, zl]; exact f1 d) ?_
      refine (if_neg (by decide)).trans ?_
      refine cI_go (r := zI 1) (st := mkS w (hI S3) J) ?_ ?_
      · simp (disch := omega) only [hk, hu, hI_n, hI_un, z_nat, em_d, zl, z_add, z_sub, z_mul, z_lt, z_eq, gI_mk, gJ_mk, cI_some, cV_some, cJ_some, cI_x, cV_x, cJ_x, uS_self, uS_ne, if_pos, if_neg, b01, b01n, ite_not, if_true, if_false, Bool.false_eq_true, g3, f3]
        exact y1 (d + 2)
      refine (if_neg (by decide)).trans ?_
      simp (disch := omega) only [hk, hu, hI_n, hI_un, z_nat, em_d, zl, z_add, z_sub, z_mul, z_lt, z_eq, gI_mk, gJ_mk, cI_some, cV_some, cJ_some, cI_x, cV_x, cJ_x, uS_self, uS_ne, if_pos, if_neg, b01, b01n, ite_not, if_true, if_false, Bool.false_eq_true, rI_d]
      rfl
    · rw [if_neg n2]
      obtain ⟨S2, f1, f2, f4⟩ := T_num0 (X := X) w J g2 (lo := 0) (by decide) hh2 n2
      refine ⟨S2, fun d => ?_, f2, FC_tr (FC_t g4) (FC_t f4) (Nat.le_refl _)⟩
      rw [go_X6_readTwo, e_X6_readTwo_0]
      refine cI_go (r := zI 1) (st := mkS w (hI S1) J) (by simp only [zl]; exact g1 d) ?_
      refine (if_neg (by decide)).trans ?_
      refine cI_go (r := zI 0) (st := mkS w (hI S2) J) (by simp only [gI_mk, gJ_mk, zl]; exact f1 d) ?_
      refine (if_pos (by decide)).trans ?_
      simp (disch := omega) only [hk, hu, hI_n, hI_un, z_nat, em_d, zl, z_add, z_sub, z_mul, z_lt, z_eq, gI_mk, gJ_mk, cI_some, cV_some, cJ_some, cI_x, cV_x, cJ_x, uS_self, uS_ne, if_pos, if_neg, b01, b01n, ite_not, if_true, if_false, Bool.false_eq_true, rI_d]
      rfl
  · rw [if_neg n1]
    obtain ⟨S1, g1, g2, g4⟩ := T_num0 (X := X) w J hT (lo := 0) (by decide) hh1 n1
    refine ⟨S1, fun d => ?_, g2, FC_t g4⟩
    rw [go_X6_readTwo, e_X6_readTwo_0]
    refine cI_go (r := zI 0) (st := mkS w (hI S1) J) (by simp only [zl]; exact g1 d) ?_
    refine (if_pos (by decide)).trans ?_
    simp (disch := omega) only [hk, hu, hI_n, hI_un, z_nat, em_d, zl, z_add, z_sub, z_mul, z_lt, z_eq, gI_mk, gJ_mk, cI_some, cV_some, cJ_some, cI_x, cV_x, cJ_x, uS_self, uS_ne, if_pos, if_neg, b01, b01n, ite_not, if_true, if_false, Bool.false_eq_true, rI_d]
    rfl
/-- the reference: two numbers, and the step told -/
theorem m_rTwo (w : Bool × Bool × Bool) (J : Nat → Nat → Int64) {p' : Nat} (hM : Mp S B e p') (hs : sk B e p' = p) (h30 : S 132 30 = ((3 * j : Nat) : Int)) (hj : 3 * j + 2 < 150) (h7 : S 132 7 = 6 - (r : Int)) {k h1 h2 : Int} (hk9 : k ≠ 5 ∧ k ≠ 6) (hh1 : -1 ≤ h1 ∧ h1 < 9999) (hh2 : -1 ≤ h2 ∧ h2 < 9999) : ∃ (a b : Int) (S1 S2 S3 : Hp), (∀ d, am_call X aP (d + 2) 165 [.ref 132, .int (zI 0), .int (zI h1)] (mkS w (hI S) J) = some (.inl (some (.int (zI a))), (mkS w (hI S1) J))) ∧ (∀ d, am_call X aP (d + 2) 165 [.ref 132, .int (zI 0), .int (zI h2)] (mkS w (hI S1) J) = some (.inl (some (.int (zI b))), (mkS w (hI S2) J))) ∧ (∀ d, am_call X aP (d + 2) 191 [.ref 132, .int (zI k), .int (zI a), .int (zI b)] (mkS w (hI S2) J) = some (.inl none, (mkS w (hI S3) J))) ∧ MF S3 B e r j (oTwo B e k h1 h2 p) ∧ FR j S S3 ∧ FM S S1 := by
  unfold oTwo
  by_cases n1 : numK B e p 0 h1 = 0
  · rw [if_pos n1]
    obtain ⟨S1, g1, g2, g4⟩ := M_num1 (X := X) w J hM hs (lo := 0) (by decide) hh1 n1
    by_cases n2 : numK B e (sk B e (numE B e p)) 0 h2 = 0
    · rw [if_pos n2]
      obtain ⟨S2, f1, f2, f4⟩ := M_num1 (X := X) w J g2 rfl (lo := 0) (by decide) hh2 n2
      have a4 : S2 132 30 = ((3 * j : Nat) : Int) := by rw [f4.2 30 (by decide), g4.2 30 (by decide)]; exact h30
      have a7 : S2 132 7 = 6 - (r : Int) := by rw [f4.2 7 (by decide), g4.2 7 (by decide)]; exact h7
      obtain ⟨S3, y1, y2, y3, y4, y5, y6⟩ := m_tells (X := X) w J f2 a4 hj k (numV B e p) (numV B e (sk B e (numE B e p)))
      exact ⟨_, _, S1, S2, S3, g1, f1, y1, ⟨⟨_, y5, rfl⟩, MSt_1 hk9 y2, by rw [mL_1 hk9.2]; exact y3, y4.trans a7⟩, FR_tr (FR_m g4) (FR_tr (FR_m f4) y6 (Nat.le_refl _)) (Nat.le_refl _), g4⟩
    · rw [if_neg n2]
      obtain ⟨S2, f1, f2, f4⟩ := M_num0 (X := X) w J g2 rfl (lo := 0) (by decide) hh2 n2
      exact ⟨_, 0, S1, S2, S2, g1, f1, fun d => m_tellsB f2, f2, FR_tr (FR_m g4) (FR_m f4) (Nat.le_refl _), g4⟩
  · rw [if_neg n1]
    obtain ⟨S1, g1, g2, g4⟩ := M_num0 (X := X) w J hM hs (lo := 0) (by decide) hh1 n1
    exact ⟨0, 0, S1, S1, S1, g1, fun d => M_numB g2, fun d => m_tellsB g2, g2, FR_m g4, g4⟩
end WK1
