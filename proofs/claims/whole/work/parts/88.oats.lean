/-! OATS: the bound is the greatest that does -/
def givN (nC : Int) (s : Int → Int) (m : Nat) (b : Int) : Int := sumZ (fun c => if m.testBit c.toNat = true then min (s (44 + c)) b else 0) nC.toNat
def dnB (P : Int → Bool) : Nat → Int
  | 0 => 0
  | m + 1 => if P ((m + 1 : Nat) : Int) = true then ((m + 1 : Nat) : Int) else dnB P m
theorem dnB_u {P : Int → Bool} {b : Int} : ∀ m : Nat, 0 ≤ b → b ≤ m → (b = 0 ∨ P b = true) → (∀ x, b < x → x ≤ m → P x = false) → dnB P m = b
  | 0, h1, h2, _, _ => by
    show 0 = b
    omega
  | m + 1, h1, h2, h3, h4 => by
    show (if P ((m + 1 : Nat) : Int) = true then ((m + 1 : Nat) : Int) else dnB P m) = b
    by_cases e : b = ((m + 1 : Nat) : Int)
    · rcases h3 with h3 | h3
      · omega
      · rw [← e, if_pos h3]
    · rw [h4 _ (by omega) (by omega), if_neg (by decide)]
      exact dnB_u m h1 (by omega) h3 (fun x x1 x2 => h4 x x1 (by omega))
theorem dnB_r (P : Int → Bool) : ∀ m : Nat, 0 ≤ dnB P m ∧ dnB P m ≤ m
  | 0 => ⟨Int.le_refl _, Int.le_refl _⟩
  | m + 1 => by
    have := dnB_r P m
    show 0 ≤ (if P ((m + 1 : Nat) : Int) = true then ((m + 1 : Nat) : Int) else dnB P m) ∧ (if P ((m + 1 : Nat) : Int) = true then ((m + 1 : Nat) : Int) else dnB P m) ≤ ((m + 1 : Nat) : Int)
    split <;> omega
theorem sumZ_le {f g : Int → Int} : ∀ n : Nat, (∀ k : Int, 0 ≤ k → k < n → f k ≤ g k) → sumZ f n ≤ sumZ g n
  | 0, _ => Int.le_refl _
  | n + 1, h => by
    have := sumZ_le n (fun k k1 k2 => h k k1 (by omega))
    have := h n (by omega) (by omega)
    show sumZ f n + f n ≤ sumZ g n + g n
    omega
theorem givN_mono {nC : Int} {s : Int → Int} {m : Nat} {b b' : Int} (h : b ≤ b') : givN nC s m b ≤ givN nC s m b' := sumZ_le _ (fun k _ _ => by
  show (if m.testBit k.toNat = true then min (s (44 + k)) b else 0) ≤ (if m.testBit k.toNat = true then min (s (44 + k)) b' else 0)
  split <;> omega)
theorem givN_part {nC : Int} {s : Int → Int} (hl : ∀ c, 0 ≤ c → c < nC → 0 ≤ s (44 + c) ∧ s (44 + c) < 100) {m : Nat} {b : Int} (hb : 0 ≤ b ∧ b ≤ 99) : ∀ n : Nat, (n : Int) ≤ nC → 0 ≤ sumZ (fun c => if m.testBit c.toNat = true then min (s (44 + c)) b else 0) n ∧ sumZ (fun c => if m.testBit c.toNat = true then min (s (44 + c)) b else 0) n ≤ n * b := fun n hn => by
  have := sumZ_r (f := fun c => if m.testBit c.toNat = true then min (s (44 + c)) b else 0) (a := 0) (b := b) n (fun k k1 k2 => by
    have := hl k k1 (by omega)
    show 0 ≤ (if m.testBit k.toNat = true then min (s (44 + k)) b else 0) ∧ (if m.testBit k.toNat = true then min (s (44 + k)) b else 0) ≤ b
    split <;> omega)
  have h0 : (n : Int) * 0 = 0 := Int.mul_zero _
  omega
theorem givN_r {nC : Int} {s : Int → Int} (hC0 : 0 ≤ nC ∧ nC ≤ 5) (hl : ∀ c, 0 ≤ c → c < nC → 0 ≤ s (44 + c) ∧ s (44 + c) < 100) {m : Nat} {b : Int} (hb : 0 ≤ b ∧ b ≤ 99) : 0 ≤ givN nC s m b ∧ givN nC s m b ≤ 495 := by
  have h := givN_part hl (m := m) hb nC.toNat (by omega)
  have : (nC.toNat : Int) * b ≤ 5 * 99 := Int.mul_le_mul (by omega) hb.2 hb.1 (by decide)
  unfold givN
  omega
theorem givN_0 {nC : Int} {s : Int → Int} (hC0 : 0 ≤ nC ∧ nC ≤ 5) (hl : ∀ c, 0 ≤ c → c < nC → 0 ≤ s (44 + c) ∧ s (44 + c) < 100) {m : Nat} : givN nC s m 0 = 0 := by
  have h := givN_part hl (m := m) (b := 0) (by decide) nC.toNat (by omega)
  have h0 : (nC.toNat : Int) * 0 = 0 := Int.mul_zero _
  unfold givN
  omega
def oatP (nC : Int) (s : Int → Int) (m : Nat) (n b : Int) : Bool := decide (givN nC s m b ≤ n)
def oatV (nC : Int) (s : Int → Int) (c : Int) (m : Nat) (n : Int) : Int := if m.testBit c.toNat = true then min (s (44 + c)) (dnB (oatP nC s m n) 99) else 0
section OAT
variable {X : Nat × (Nat → Int32)} {d : Nat} {w : Bool × Bool × Bool} {S : Hp} {J : Nat → Nat → Int64} {nT nR nC : Int} {rd s : Int → Int}
theorem Sc_load (hv : Sc nR nC s) : ∀ c, 0 ≤ c → c < nC → 0 ≤ s (44 + c) ∧ s (44 + c) < 100 := fun c c1 c2 => by
  obtain ⟨-, -, -, -, -, -, -, -, h1, h2⟩ := hv.2.1 c c1 c2
  exact ⟨h1, h2⟩
theorem c_given (hL : CL S (iL w.1) nT nR nC rd) (hs : CS nR nC S 8 s) (hv : Sc nR nC s) {m : Nat} (hm : m < 2147483648) {b : Int} (hb : 0 ≤ b ∧ b ≤ 99) : am_call X aP (d + 2) 132 [.ref 0, .int (zI ((m : Int))), .int (zI b)] (mkS w (hI S) J) = some (.inl (some (.int (zI (givN nC s m b)))), (mkS w (hI S) J)) := by
  obtain ⟨-, -, a3, -, -, -, -, -, a9, a10, -⟩ := id hL
  have hl := Sc_load hv
  rw [go_X9_given, e_X9_given_0]
  have key : ∀ (j : Nat) (k : Nat) (n : Nat), (k : Int) + j = nC → j + 1 ≤ n → aR X (d + 1) m_X9_given n 4 [some (.ref 0), some (.int (zI ((m : Int)))), some (.int (zI b)), some (.int (zI ((sumZ (fun c => if m.testBit c.toNat = true then min (s (44 + c)) b else 0) k)))), some (.int (zI ((k : Int))))] (0, 0) (mkS w (hI S) J) = some (.inl (some (.int (zI (givN nC s m b)))), (mkS w (hI S) J)) := by
    intro j
    induction j with
    | zero =>
      intro k n h1 h2
      obtain ⟨n, rfl⟩ : ∃ n', n = n' + 1 := ⟨n - 1, by omega⟩
      have e : k = nC.toNat := by omega
      rw [e_X9_given_4]
      simp (disch := omega) only [hk, hu, hI_n, hI_un, z_nat, em_d, zl, z_add, z_sub, z_mul, z_lt, z_eq, gI_mk, gJ_mk, cI_some, cV_some, cJ_some, cI_x, cV_x, cJ_x, uS_self, uS_ne, if_pos, if_neg, b01, b01n, ite_not, if_true, if_false, hLL, a3, rI_d]
      rw [e]
      rfl
    | succ j ih =>
      intro k n h1 h2
      obtain ⟨n, rfl⟩ : ∃ n', n = n' + 1 := ⟨n - 1, by omega⟩
      have ih := ih (k + 1) n (by omega) (by omega)
      have hp := givN_part hl (m := m) hb k (by omega)
      have hp2 : (k : Int) * b ≤ 5 * 99 := Int.mul_le_mul (by omega) hb.2 hb.1 (by decide)
      have es : sumZ (fun c => if m.testBit c.toNat = true then min (s (44 + c)) b else 0) (k + 1) = sumZ (fun c => if m.testBit c.toNat = true then min (s (44 + c)) b else 0) k + (if m.testBit (k : Int).toNat = true then min (s (44 + (k : Int))) b else 0) := rfl
      rw [es, show ((k + 1 : Nat) : Int) = (k : Int) + 1 by omega] at ih
      have e15 : S 15 (k : Int) = s (44 + (k : Int)) := (hs.2.1 k (by omega) (by omega)).2.2.2.2
      have hlk := hl k (by omega) (by omega)
      generalize sumZ (fun c => if m.testBit c.toNat = true then min (s (44 + c)) b else 0) k = q at *
      rw [e_X9_given_4]
      by_cases p : m.testBit (k : Int).toNat = true
      · rw [if_pos p] at ih
        simp (disch := omega) only [hk, hu, hI_n, hI_un, z_nat, em_d, zl, z_add, z_sub, z_mul, z_lt, z_eq, gI_mk, gJ_mk, cI_some, cV_some, cJ_some, cI_x, cV_x, cJ_x, uS_self, uS_ne, if_pos, if_neg, b01, b01n, ite_not, if_true, if_false, hLL, a3, z_bit hm, p, e15, c_min]
        exact ih
      · rw [if_neg p, Int.add_zero] at ih
        simp (disch := omega) only [hk, hu, hI_n, hI_un, z_nat, em_d, zl, z_add, z_sub, z_mul, z_lt, z_eq, gI_mk, gJ_mk, cI_some, cV_some, cJ_some, cI_x, cV_x, cJ_x, uS_self, uS_ne, if_pos, if_neg, b01, b01n, ite_not, if_true, if_false, hLL, a3, z_bit hm, p]
        exact ih
  exact key nC.toNat 0 9999999 (by omega) (by omega)
theorem l_oats (hL : CL S (iL w.1) nT nR nC rd) (hs : CS nR nC S 8 s) (hv : Sc nR nC s) {m : Nat} (hm : m < 2147483648) {c n : Int} (hc : 0 ≤ c ∧ c < nC) (hn : 0 ≤ n ∧ n ≤ 999) : ∀ (j : Nat) (b : Int) (f : Nat), b + j = 99 → 0 ≤ b → (b = 0 ∨ oatP nC s m n b = true) → j + 3 ≤ f → aR X (d + 2) m_X9_oats f 34 [some (.ref 0), some (.int (zI c)), some (.int (zI ((m : Int)))), some (.int (zI n)), some (.int (zI b)), some (.int (zI ((b + 1))))] (2, 12) (mkS w (hI S) J) = some (.inl (some (.int (zI (min (s (44 + c)) (dnB (oatP nC s m n) 99))))), (mkS w (hI S) J))
  | 0, b, f, h1, h2, h3, h4 => by
    obtain ⟨-, -, a3, -, -, -, -, -, a9, a10, -⟩ := id hL
    obtain ⟨f, rfl⟩ : ∃ n', f = n' + 2 := ⟨f - 2, by omega⟩
    have e : dnB (oatP nC s m n) 99 = b := dnB_u 99 (by omega) (by omega) h3 (fun x x1 x2 => by omega)
    have e15 : S 15 c = s (44 + c) := (hs.2.1 c hc.1 hc.2).2.2.2.2
    have hlk := Sc_load hv c hc.1 hc.2
    rw [e, e_X9_oats_34]
    simp (disch := omega) only [hk, hu, hI_n, hI_un, z_nat, em_d, zl, z_add, z_sub, z_mul, z_lt, z_eq, gI_mk, gJ_mk, cI_some, cV_some, cJ_some, cI_x, cV_x, cJ_x, uS_self, uS_ne, if_pos, if_neg, b01, b01n, ite_not, if_true, if_false, hLL]
    rw [e_X9_oats_47]
    simp (disch := omega) only [hk, hu, hI_n, hI_un, z_nat, em_d, zl, z_add, z_sub, z_mul, z_lt, z_eq, gI_mk, gJ_mk, cI_some, cV_some, cJ_some, cI_x, cV_x, cJ_x, uS_self, uS_ne, if_pos, if_neg, b01, b01n, ite_not, if_true, if_false, hLL, e15, c_min, rI_d]
  | j + 1, b, f, h1, h2, h3, h4 => by
    obtain ⟨-, -, a3, -, -, -, -, -, a9, a10, -⟩ := id hL
    obtain ⟨f, rfl⟩ : ∃ n', f = n' + 2 := ⟨f - 2, by omega⟩
    have hg := fun d => c_given (X := X) (d := d) (w := w) (J := J) hL hs hv hm (b := b + 1) (by omega)
    have hgr := givN_r (m := m) (b := b + 1) ⟨a9, a10⟩ (Sc_load hv) (by omega)
    by_cases p : givN nC s m (b + 1) ≤ n
    · have ih := l_oats hL hs hv hm hc hn j (b + 1) (f + 1) (by omega) (by omega) (Or.inr (decide_eq_true p)) (by omega)
      rw [e_X9_oats_34]
      simp (disch := omega) only [hk, hu, hI_n, hI_un, z_nat, em_d, zl, z_add, z_sub, z_mul, z_lt, z_eq, gI_mk, gJ_mk, cI_some, cV_some, cJ_some, cI_x, cV_x, cJ_x, uS_self, uS_ne, if_pos, if_neg, b01, b01n, ite_not, if_true, if_false, hLL]
      rw [hg]
      simp (disch := omega) only [hk, hu, hI_n, hI_un, z_nat, em_d, zl, z_add, z_sub, z_mul, z_lt, z_eq, gI_mk, gJ_mk, cI_some, cV_some, cJ_some, cI_x, cV_x, cJ_x, uS_self, uS_ne, if_pos, if_neg, b01, b01n, ite_not, if_true, if_false, hLL]
      exact ih
    · have e : dnB (oatP nC s m n) 99 = b := dnB_u 99 (by omega) (by omega) h3 (fun x x1 x2 => by
        apply decide_eq_false
        have := givN_mono (nC := nC) (s := s) (m := m) (show b + 1 ≤ x by omega)
        omega)
      have e15 : S 15 c = s (44 + c) := (hs.2.1 c hc.1 hc.2).2.2.2.2
      have hlk := Sc_load hv c hc.1 hc.2
      rw [e, e_X9_oats_34]
      simp (disch := omega) only [hk, hu, hI_n, hI_un, z_nat, em_d, zl, z_add, z_sub, z_mul, z_lt, z_eq, gI_mk, gJ_mk, cI_some, cV_some, cJ_some, cI_x, cV_x, cJ_x, uS_self, uS_ne, if_pos, if_neg, b01, b01n, ite_not, if_true, if_false, hLL]
      rw [hg]
      simp (disch := omega) only [hk, hu, hI_n, hI_un, z_nat, em_d, zl, z_add, z_sub, z_mul, z_lt, z_eq, gI_mk, gJ_mk, cI_some, cV_some, cJ_some, cI_x, cV_x, cJ_x, uS_self, uS_ne, if_pos, if_neg, b01, b01n, ite_not, if_true, if_false, hLL]
      rw [e_X9_oats_47]
      simp (disch := omega) only [hk, hu, hI_n, hI_un, z_nat, em_d, zl, z_add, z_sub, z_mul, z_lt, z_eq, gI_mk, gJ_mk, cI_some, cV_some, cJ_some, cI_x, cV_x, cJ_x, uS_self, uS_ne, if_pos, if_neg, b01, b01n, ite_not, if_true, if_false, hLL, e15, c_min, rI_d]
abbrev okOat (nC : Int) (m n : Int) : Prop := (0 ≤ m ∧ m < ((2 ^ nC.toNat : Nat) : Int)) ∧ 0 ≤ n ∧ n ≤ 999
theorem pw5 {nC : Int} (h : 0 ≤ nC ∧ nC ≤ 5) : ((2 ^ nC.toNat : Nat) : Int) ≤ 32 ∧ 1 ≤ ((2 ^ nC.toNat : Nat) : Int) := by
  have h1 : 2 ^ nC.toNat ≤ 2 ^ 5 := Nat.pow_le_pow_right (by decide) (by omega)
  have h2 : 2 ^ 0 ≤ 2 ^ nC.toNat := Nat.pow_le_pow_right (by decide) (by omega)
  omega
theorem c_oats (hL : CL S (iL w.1) nT nR nC rd) (hs : CS nR nC S 8 s) (hv : Sc nR nC s) {c m n : Int} (hc : 0 ≤ c ∧ c < nC) (hok : okOat nC m n) : am_call X aP (d + 3) 131 [.ref 0, .int (zI c), .int (zI m), .int (zI n)] (mkS w (hI S) J) = some (.inl (some (.int (zI (oatV nC s c m.toNat n)))), (mkS w (hI S) J)) := by
  obtain ⟨-, -, a3, -, -, -, -, -, a9, a10, -⟩ := id hL
  obtain ⟨⟨o1, o2⟩, o3, o4⟩ := hok
  have hp := pw5 ⟨a9, a10⟩
  obtain ⟨m, rfl⟩ : ∃ m' : Nat, m = (m' : Int) := ⟨m.toNat, by omega⟩
  rw [Int.toNat_natCast]
  have hm : m < 2147483648 := by omega
  have h := l_oats (X := X) (d := d) (w := w) (J := J) hL hs hv hm hc ⟨o3, o4⟩ 99 0 9999997 (by omega) (by omega) (Or.inl rfl) (by omega)
  rw [go_X9_oats, e_X9_oats_0]
  simp (disch := omega) only [hk, hu, hI_n, hI_un, z_nat, em_d, zl, z_add, z_sub, z_mul, z_lt, z_eq, gI_mk, gJ_mk, cI_some, cV_some, cJ_some, cI_x, cV_x, cJ_x, uS_self, uS_ne, if_pos, if_neg, b01, b01n, ite_not, if_true, if_false, c_carter1 hL hc]
  rw [show 9999999 = 9999998 + 1 from rfl, e_X9_oats_3]
  simp (disch := omega) only [hk, hu, hI_n, hI_un, z_nat, em_d, zl, z_add, z_sub, z_mul, z_lt, z_eq, gI_mk, gJ_mk, cI_some, cV_some, cJ_some, cI_x, cV_x, cJ_x, uS_self, uS_ne, if_pos, if_neg, b01, b01n, ite_not, if_true, if_false, hLL, a3, z_shl1, c_within, c_req1]
  rw [show 9999998 = 9999997 + 1 from rfl, e_X9_oats_22]
  unfold oatV
  by_cases q : m.testBit c.toNat = true
  · simp (disch := omega) only [hk, hu, hI_n, hI_un, z_nat, em_d, zl, z_add, z_sub, z_mul, z_lt, z_eq, gI_mk, gJ_mk, cI_some, cV_some, cJ_some, cI_x, cV_x, cJ_x, uS_self, uS_ne, if_pos, if_neg, b01, b01n, ite_not, if_true, if_false, hLL, z_bit hm, q]
    exact h
  · simp (disch := omega) only [hk, hu, hI_n, hI_un, z_nat, em_d, zl, z_add, z_sub, z_mul, z_lt, z_eq, gI_mk, gJ_mk, cI_some, cV_some, cJ_some, cI_x, cV_x, cJ_x, uS_self, uS_ne, if_pos, if_neg, b01, b01n, ite_not, if_true, if_false, hLL, z_bit hm, q, rI_d]
    rfl
theorem c_oatsN (hL : CL S (iL w.1) nT nR nC rd) {c m n : Int} (hb : -2147483648 ≤ c ∧ c < 2147483648) (hn : ¬ (0 ≤ c ∧ c < nC)) : am_call X aP (d + 3) 131 [.ref 0, .int (zI c), .int (zI m), .int (zI n)] (mkS w (hI S) J) = some (.inr 1, (mkS w (hI (xnS S)) J)) := by
  rw [go_X9_oats, e_X9_oats_0]
  simp (disch := omega) only [hk, hu, hI_n, hI_un, z_nat, em_d, zl, z_add, z_sub, z_mul, z_lt, z_eq, gI_mk, gJ_mk, cI_some, cV_some, cJ_some, cI_x, cV_x, cJ_x, uS_self, uS_ne, if_pos, if_neg, b01, b01n, ite_not, if_true, if_false, c_carter0 hL hb hn, rX_d]
theorem c_oatsB (hL : CL S (iL w.1) nT nR nC rd) {c m n : Int} (hc : 0 ≤ c ∧ c < nC) (hb : -2147483648 ≤ m ∧ m < 2147483648) (hb2 : -2147483648 ≤ n ∧ n < 2147483648) (hok : ¬ okOat nC m n) : am_call X aP (d + 3) 131 [.ref 0, .int (zI c), .int (zI m), .int (zI n)] (mkS w (hI S) J) = some (.inr 2, (mkS w (hI (xbS S)) J)) := by
  obtain ⟨-, -, a3, -, -, -, -, -, a9, a10, -⟩ := id hL
  have hp := pw5 ⟨a9, a10⟩
  rw [go_X9_oats, e_X9_oats_0]
  simp (disch := omega) only [hk, hu, hI_n, hI_un, z_nat, em_d, zl, z_add, z_sub, z_mul, z_lt, z_eq, gI_mk, gJ_mk, cI_some, cV_some, cJ_some, cI_x, cV_x, cJ_x, uS_self, uS_ne, if_pos, if_neg, b01, b01n, ite_not, if_true, if_false, c_carter1 hL hc]
  rw [show 9999999 = 9999998 + 1 from rfl, e_X9_oats_3]
  by_cases q1 : m < 0
  · simp (disch := omega) only [hk, hu, hI_n, hI_un, z_nat, em_d, zl, z_add, z_sub, z_mul, z_lt, z_eq, gI_mk, gJ_mk, cI_some, cV_some, cJ_some, cI_x, cV_x, cJ_x, uS_self, uS_ne, if_pos, if_neg, b01, b01n, ite_not, if_true, if_false, hLL, c_req0, rX_d]
  · by_cases q2 : m < ((2 ^ nC.toNat : Nat) : Int)
    · simp (disch := omega) only [hk, hu, hI_n, hI_un, z_nat, em_d, zl, z_add, z_sub, z_mul, z_lt, z_eq, gI_mk, gJ_mk, cI_some, cV_some, cJ_some, cI_x, cV_x, cJ_x, uS_self, uS_ne, if_pos, if_neg, b01, b01n, ite_not, if_true, if_false, hLL, a3, z_shl1, c_within, c_req0, rX_d]
    · simp (disch := omega) only [hk, hu, hI_n, hI_un, z_nat, em_d, zl, z_add, z_sub, z_mul, z_lt, z_eq, gI_mk, gJ_mk, cI_some, cV_some, cJ_some, cI_x, cV_x, cJ_x, uS_self, uS_ne, if_pos, if_neg, b01, b01n, ite_not, if_true, if_false, hLL, a3, z_shl1, c_req0, rX_d]
theorem m_bounded (hn : NwP nR nC S s) (hC5 : nC ≤ 5) (hv : Sc nR nC s) {c b : Int} (hc : 0 ≤ c ∧ c < nC) (hb : 0 ≤ b ∧ b ≤ 99) : am_call X aP (d + 1) 253 [.ref 132, .int (zI c), .int (zI b)] (mkS w (hI S) J) = some (.inl (some (.int (zI (min (s (44 + c)) b)))), (mkS w (hI S) J)) := by
  have e := hn (44 + c) (by unfold Vd; omega)
  have hl := Sc_load hv c hc.1 hc.2
  rw [go_X10_bounded, e_X10_bounded_0]
  by_cases q : s (44 + c) < b
  · rw [show min (s (44 + c)) b = s (44 + c) by omega]
    simp (disch := omega) only [hk, hu, hI_n, hI_un, z_nat, em_d, zl, z_add, z_sub, z_mul, z_lt, z_eq, gI_mk, gJ_mk, cI_some, cV_some, cJ_some, cI_x, cV_x, cJ_x, uS_self, uS_ne, if_pos, if_neg, b01, b01n, ite_not, if_true, if_false, e, rI_d]
  · rw [show min (s (44 + c)) b = b by omega]
    simp (disch := omega) only [hk, hu, hI_n, hI_un, z_nat, em_d, zl, z_add, z_sub, z_mul, z_lt, z_eq, gI_mk, gJ_mk, cI_some, cV_some, cJ_some, cI_x, cV_x, cJ_x, uS_self, uS_ne, if_pos, if_neg, b01, b01n, ite_not, if_true, if_false, e, rI_d]
theorem m_oatsBy (hL : LdP S nT nR nC rd) (hn : NwP nR nC S s) (hv : Sc nR nC s) {m : Nat} (hm : m < 2147483648) {b : Int} (hb : 0 ≤ b ∧ b ≤ 99) : am_call X aP (d + 2) 254 [.ref 132, .int (zI ((m : Int))), .int (zI b)] (mkS w (hI S) J) = some (.inl (some (.int (zI (givN nC s m b)))), (mkS w (hI S) J)) := by
  obtain ⟨-, -, a3, -, -, -, -, -, a9, a10, -⟩ := id hL
  have hl := Sc_load hv
  rw [go_X10_oatsBy, e_X10_oatsBy_0]
  have key : ∀ (j : Nat) (k : Nat) (n : Nat), (k : Int) + j = nC → j + 1 ≤ n → aR X (d + 1) m_X10_oatsBy n 4 [some (.ref 132), some (.int (zI ((m : Int)))), some (.int (zI b)), some (.int (zI ((sumZ (fun c => if m.testBit c.toNat = true then min (s (44 + c)) b else 0) k)))), some (.int (zI ((k : Int))))] (0, 0) (mkS w (hI S) J) = some (.inl (some (.int (zI (givN nC s m b)))), (mkS w (hI S) J)) := by
    intro j
    induction j with
    | zero =>
      intro k n h1 h2
      obtain ⟨n, rfl⟩ : ∃ n', n = n' + 1 := ⟨n - 1, by omega⟩
      have e : k = nC.toNat := by omega
      rw [e_X10_oatsBy_4]
      simp (disch := omega) only [hk, hu, hI_n, hI_un, z_nat, em_d, zl, z_add, z_sub, z_mul, z_lt, z_eq, gI_mk, gJ_mk, cI_some, cV_some, cJ_some, cI_x, cV_x, cJ_x, uS_self, uS_ne, if_pos, if_neg, b01, b01n, ite_not, if_true, if_false, a3, rI_d]
      rw [e]
      rfl
    | succ j ih =>
      intro k n h1 h2
      obtain ⟨n, rfl⟩ : ∃ n', n = n' + 1 := ⟨n - 1, by omega⟩
      have ih := ih (k + 1) n (by omega) (by omega)
      have hp := givN_part hl (m := m) hb k (by omega)
      have hp2 : (k : Int) * b ≤ 5 * 99 := Int.mul_le_mul (by omega) hb.2 hb.1 (by decide)
      have es : sumZ (fun c => if m.testBit c.toNat = true then min (s (44 + c)) b else 0) (k + 1) = sumZ (fun c => if m.testBit c.toNat = true then min (s (44 + c)) b else 0) k + (if m.testBit (k : Int).toNat = true then min (s (44 + (k : Int))) b else 0) := rfl
      rw [es, show ((k + 1 : Nat) : Int) = (k : Int) + 1 by omega] at ih
      have hbo := fun d => m_bounded (X := X) (d := d) (w := w) (J := J) hn a10 hv (c := (k : Int)) (by omega) hb
      have hlk := hl k (by omega) (by omega)
      generalize sumZ (fun c => if m.testBit c.toNat = true then min (s (44 + c)) b else 0) k = q at *
      rw [e_X10_oatsBy_4]
      simp (disch := omega) only [hk, hu, hI_n, hI_un, z_nat, em_d, zl, z_add, z_sub, z_mul, z_lt, z_eq, gI_mk, gJ_mk, cI_some, cV_some, cJ_some, cI_x, cV_x, cJ_x, uS_self, uS_ne, if_pos, if_neg, b01, b01n, ite_not, if_true, if_false, a3]
      rw [hbo]
      by_cases p : m.testBit (k : Int).toNat = true
      · rw [if_pos p] at ih
        simp (disch := omega) only [hk, hu, hI_n, hI_un, z_nat, em_d, zl, z_add, z_sub, z_mul, z_lt, z_eq, gI_mk, gJ_mk, cI_some, cV_some, cJ_some, cI_x, cV_x, cJ_x, uS_self, uS_ne, if_pos, if_neg, b01, b01n, ite_not, if_true, if_false, z_bit hm, p, Int.one_mul]
        exact ih
      · rw [if_neg p, Int.add_zero] at ih
        simp (disch := omega) only [hk, hu, hI_n, hI_un, z_nat, em_d, zl, z_add, z_sub, z_mul, z_lt, z_eq, gI_mk, gJ_mk, cI_some, cV_some, cJ_some, cI_x, cV_x, cJ_x, uS_self, uS_ne, if_pos, if_neg, b01, b01n, ite_not, if_true, if_false, z_bit hm, p, Bool.false_eq_true, Int.zero_mul, Int.add_zero]
        exact ih
  exact key nC.toNat 0 9999999 (by omega) (by omega)
theorem ml_oats (hL : LdP S nT nR nC rd) (hn : NwP nR nC S s) (hv : Sc nR nC s) {m : Nat} (hm : m < 2147483648) {c n : Int} (hc : 0 ≤ c ∧ c < nC) (hnn : 0 ≤ n ∧ n ≤ 999) : ∀ (b : Nat) (f : Nat), b ≤ 99 → b + 1 ≤ f → aR X (d + 2) m_X10_oats f 32 [some (.ref 132), some (.int (zI c)), some (.int (zI ((m : Int)))), some (.int (zI n)), some (.int (zI ((b : Int))))] (0, 0) (mkS w (hI S) J) = some (.inl (some (.int (zI (if m.testBit c.toNat = true then min (s (44 + c)) (dnB (oatP nC s m n) b) else 0)))), (mkS w (hI S) J)) := by
  intro b
  obtain ⟨-, -, a3, -, -, -, -, -, a9, a10, -⟩ := id hL
  induction b with
  | zero =>
    intro f h1 h2
    obtain ⟨f, rfl⟩ : ∃ n', f = n' + 1 := ⟨f - 1, by omega⟩
    have hg := fun d => m_oatsBy (X := X) (d := d) (w := w) (J := J) hL hn hv hm (b := 0) (by omega)
    have hbo := fun d => m_bounded (X := X) (d := d) (w := w) (J := J) hn a10 hv hc (b := 0) (by omega)
    have hgr := givN_r (m := m) (b := 0) ⟨a9, a10⟩ (Sc_load hv) (by omega)
    have e0 := givN_0 (m := m) ⟨a9, a10⟩ (Sc_load hv)
    rw [e_X10_oats_32]
    simp (disch := omega) only [hk, hu, hI_n, hI_un, z_nat, em_d, zl, z_add, z_sub, z_mul, z_lt, z_eq, gI_mk, gJ_mk, cI_some, cV_some, cJ_some, cI_x, cV_x, cJ_x, uS_self, uS_ne, if_pos, if_neg, b01, b01n, ite_not, if_true, if_false]
    refine (congrArg (fun z => cI z _ _) (hg _)).trans ?_
    by_cases p : m.testBit c.toNat = true
    · simp (disch := omega) only [hk, hu, hI_n, hI_un, z_nat, em_d, zl, z_add, z_sub, z_mul, z_lt, z_eq, gI_mk, gJ_mk, cI_some, cV_some, cJ_some, cI_x, cV_x, cJ_x, uS_self, uS_ne, if_pos, if_neg, b01, b01n, ite_not, if_true, if_false, e0, z_bit hm, p]
      refine (congrArg (fun z => cI z _ _) (hbo _)).trans ?_
      simp (disch := omega) only [hk, hu, hI_n, hI_un, z_nat, em_d, zl, z_add, z_sub, z_mul, z_lt, z_eq, gI_mk, gJ_mk, cI_some, cV_some, cJ_some, cI_x, cV_x, cJ_x, uS_self, uS_ne, if_pos, if_neg, b01, b01n, ite_not, if_true, if_false, rI_d]
      rfl
    · simp (disch := omega) only [hk, hu, hI_n, hI_un, z_nat, em_d, zl, z_add, z_sub, z_mul, z_lt, z_eq, gI_mk, gJ_mk, cI_some, cV_some, cJ_some, cI_x, cV_x, cJ_x, uS_self, uS_ne, if_pos, if_neg, b01, b01n, ite_not, if_true, if_false, e0, z_bit hm, p, rI_d]
      rfl
  | succ b ih =>
    intro f h1 h2
    obtain ⟨f, rfl⟩ : ∃ n', f = n' + 1 := ⟨f - 1, by omega⟩
    have hg := fun d => m_oatsBy (X := X) (d := d) (w := w) (J := J) hL hn hv hm (b := ((b + 1 : Nat) : Int)) (by omega)
    have hbo := fun d => m_bounded (X := X) (d := d) (w := w) (J := J) hn a10 hv hc (b := ((b + 1 : Nat) : Int)) (by omega)
    have hgr := givN_r (m := m) (b := ((b + 1 : Nat) : Int)) ⟨a9, a10⟩ (Sc_load hv) (by omega)
    have eb : ((b + 1 : Nat) : Int) - 1 = (b : Int) := by omega
    have ed : dnB (oatP nC s m n) (b + 1) = if oatP nC s m n ((b + 1 : Nat) : Int) = true then ((b + 1 : Nat) : Int) else dnB (oatP nC s m n) b := rfl
    rw [ed]
    by_cases q : givN nC s m ((b + 1 : Nat) : Int) ≤ n
    · rw [if_pos (show oatP nC s m n ((b + 1 : Nat) : Int) = true from decide_eq_true q), e_X10_oats_32]
      simp (disch := omega) only [hk, hu, hI_n, hI_un, z_nat, em_d, zl, z_add, z_sub, z_mul, z_lt, z_eq, gI_mk, gJ_mk, cI_some, cV_some, cJ_some, cI_x, cV_x, cJ_x, uS_self, uS_ne, if_pos, if_neg, b01, b01n, ite_not, if_true, if_false]
      rw [hg]
      by_cases p : m.testBit c.toNat = true
      · simp (disch := omega) only [hk, hu, hI_n, hI_un, z_nat, em_d, zl, z_add, z_sub, z_mul, z_lt, z_eq, gI_mk, gJ_mk, cI_some, cV_some, cJ_some, cI_x, cV_x, cJ_x, uS_self, uS_ne, if_pos, if_neg, b01, b01n, ite_not, if_true, if_false, z_bit hm, p]
        rw [hbo]
        simp (disch := omega) only [hk, hu, hI_n, hI_un, z_nat, em_d, zl, z_add, z_sub, z_mul, z_lt, z_eq, gI_mk, gJ_mk, cI_some, cV_some, cJ_some, cI_x, cV_x, cJ_x, uS_self, uS_ne, if_pos, if_neg, b01, b01n, ite_not, if_true, if_false, rI_d]
      · simp (disch := omega) only [hk, hu, hI_n, hI_un, z_nat, em_d, zl, z_add, z_sub, z_mul, z_lt, z_eq, gI_mk, gJ_mk, cI_some, cV_some, cJ_some, cI_x, cV_x, cJ_x, uS_self, uS_ne, if_pos, if_neg, b01, b01n, ite_not, if_true, if_false, z_bit hm, p, rI_d]
        rfl
    · rw [if_neg (show ¬ oatP nC s m n ((b + 1 : Nat) : Int) = true from fun z => q (of_decide_eq_true z)), e_X10_oats_32]
      simp (disch := omega) only [hk, hu, hI_n, hI_un, z_nat, em_d, zl, z_add, z_sub, z_mul, z_lt, z_eq, gI_mk, gJ_mk, cI_some, cV_some, cJ_some, cI_x, cV_x, cJ_x, uS_self, uS_ne, if_pos, if_neg, b01, b01n, ite_not, if_true, if_false]
      rw [hg]
      simp (disch := omega) only [hk, hu, hI_n, hI_un, z_nat, em_d, zl, z_add, z_sub, z_mul, z_lt, z_eq, gI_mk, gJ_mk, cI_some, cV_some, cJ_some, cI_x, cV_x, cJ_x, uS_self, uS_ne, if_pos, if_neg, b01, b01n, ite_not, if_true, if_false, eb]
      exact ih f (by omega) (by omega)
theorem m_oats (hL : LdP S nT nR nC rd) (hn : NwP nR nC S s) (hv : Sc nR nC s) {c m n : Int} (hc : 0 ≤ c ∧ c < nC) (hok : okOat nC m n) : am_call X aP (d + 3) 255 [.ref 132, .int (zI c), .int (zI m), .int (zI n)] (mkS w (hI S) J) = some (.inl (some (.int (zI (oatV nC s c m.toNat n)))), (mkS w (hI (uS S 132 0 0)) J)) := by
  have hq0 := QuM_0 S
  have hL1 := LdP_q hL hq0
  obtain ⟨-, -, a3, -, -, -, -, -, a9, a10, -⟩ := id hL
  have a3' : uS S 132 0 0 132 19 = nC := (uS_ne _ _ (Or.inr (by decide))).trans a3
  obtain ⟨⟨o1, o2⟩, o3, o4⟩ := hok
  have hp := pw5 ⟨a9, a10⟩
  obtain ⟨m, rfl⟩ : ∃ m' : Nat, m = (m' : Int) := ⟨m.toNat, by omega⟩
  rw [Int.toNat_natCast]
  have hm : m < 2147483648 := by omega
  have h := ml_oats (X := X) (d := d) (w := w) (J := J) hL1 (NwP_q hn hq0) hv hm hc ⟨o3, o4⟩ 99 9999999 (by omega) (by omega)
  rw [go_X10_oats, e_X10_oats_0, z_0, hu.1, m_isCarter1 hL1 (uS_self _ _ _ _) hc]
  simp (disch := omega) only [hk, hu, hI_n, hI_un, z_nat, em_d, zl, z_add, z_sub, z_mul, z_lt, z_eq, gI_mk, gJ_mk, cI_some, cV_some, cJ_some, cI_x, cV_x, cJ_x, uS_self, uS_ne, if_pos, if_neg, b01, b01n, ite_not, if_true, if_false, a3, a3', z_shl1, m_within]
  rw [m_may1 (uS_self _ _ _ _)]
  simp (disch := omega) only [hk, hu, hI_n, hI_un, z_nat, em_d, zl, z_add, z_sub, z_mul, z_lt, z_eq, gI_mk, gJ_mk, cI_some, cV_some, cJ_some, cI_x, cV_x, cJ_x, uS_self, uS_ne, if_pos, if_neg, b01, b01n, ite_not, if_true, if_false]
  exact h
theorem m_oatsN (hL : LdP S nT nR nC rd) {c m n : Int} (hb : -2147483648 ≤ c ∧ c < 2147483648) (hn : ¬ (0 ≤ c ∧ c < nC)) : am_call X aP (d + 3) 255 [.ref 132, .int (zI c), .int (zI m), .int (zI n)] (mkS w (hI S) J) = some (.inl (some (.int (zI 0))), (mkS w (hI (mxN S)) J)) := by
  rw [go_X10_oats, e_X10_oats_0, z_0, hu.1, m_isCarter0 (LdP_q hL (QuM_0 S)) (uS_self _ _ _ _) hb hn]
  simp (disch := omega) only [hk, hu, hI_n, hI_un, z_nat, em_d, zl, z_add, z_sub, z_mul, z_lt, z_eq, gI_mk, gJ_mk, cI_some, cV_some, cJ_some, cI_x, cV_x, cJ_x, uS_self, uS_ne, if_pos, if_neg, b01, b01n, ite_not, if_true, if_false, rI_d]
  rfl
theorem m_oatsB (hL : LdP S nT nR nC rd) {c m n : Int} (hc : 0 ≤ c ∧ c < nC) (hb : -2147483648 ≤ m ∧ m < 2147483648) (hb2 : -2147483648 ≤ n ∧ n < 2147483648) (hok : ¬ okOat nC m n) : am_call X aP (d + 3) 255 [.ref 132, .int (zI c), .int (zI m), .int (zI n)] (mkS w (hI S) J) = some (.inl (some (.int (zI 0))), (mkS w (hI (mxB S 2)) J)) := by
  have hmm := fun d => m_may0 (X := X) (d := d) (w := w) (J := J) (S := uS S 132 0 0) (uS_self _ _ _ _) (cd := 2) (k := 1) (by decide) (by decide)
  obtain ⟨-, -, a3, -, -, -, -, -, a9, a10, -⟩ := id hL
  have a3' : uS S 132 0 0 132 19 = nC := (uS_ne _ _ (Or.inr (by decide))).trans a3
  have hp := pw5 ⟨a9, a10⟩
  rw [go_X10_oats, e_X10_oats_0, z_0, hu.1, m_isCarter1 (LdP_q hL (QuM_0 S)) (uS_self _ _ _ _) hc]
  by_cases q1 : m < 0
  · simp (disch := omega) only [hk, hu, hI_n, hI_un, z_nat, em_d, zl, z_add, z_sub, z_mul, z_lt, z_eq, gI_mk, gJ_mk, cI_some, cV_some, cJ_some, cI_x, cV_x, cJ_x, uS_self, uS_ne, if_pos, if_neg, b01, b01n, ite_not, if_true, if_false]
    rw [hmm]
    simp (disch := omega) only [hk, hu, hI_n, hI_un, z_nat, em_d, zl, z_add, z_sub, z_mul, z_lt, z_eq, gI_mk, gJ_mk, cI_some, cV_some, cJ_some, cI_x, cV_x, cJ_x, uS_self, uS_ne, if_pos, if_neg, b01, b01n, ite_not, if_true, if_false, rI_d]
    rfl
  · by_cases q2 : m < ((2 ^ nC.toNat : Nat) : Int)
    · simp (disch := omega) only [hk, hu, hI_n, hI_un, z_nat, em_d, zl, z_add, z_sub, z_mul, z_lt, z_eq, gI_mk, gJ_mk, cI_some, cV_some, cJ_some, cI_x, cV_x, cJ_x, uS_self, uS_ne, if_pos, if_neg, b01, b01n, ite_not, if_true, if_false, a3, a3', z_shl1, m_within]
      rw [hmm]
      simp (disch := omega) only [hk, hu, hI_n, hI_un, z_nat, em_d, zl, z_add, z_sub, z_mul, z_lt, z_eq, gI_mk, gJ_mk, cI_some, cV_some, cJ_some, cI_x, cV_x, cJ_x, uS_self, uS_ne, if_pos, if_neg, b01, b01n, ite_not, if_true, if_false, rI_d]
      rfl
    · simp (disch := omega) only [hk, hu, hI_n, hI_un, z_nat, em_d, zl, z_add, z_sub, z_mul, z_lt, z_eq, gI_mk, gJ_mk, cI_some, cV_some, cJ_some, cI_x, cV_x, cJ_x, uS_self, uS_ne, if_pos, if_neg, b01, b01n, ite_not, if_true, if_false, a3, a3', z_shl1]
      rw [hmm]
      simp (disch := omega) only [hk, hu, hI_n, hI_un, z_nat, em_d, zl, z_add, z_sub, z_mul, z_lt, z_eq, gI_mk, gJ_mk, cI_some, cV_some, cJ_some, cI_x, cV_x, cJ_x, uS_self, uS_ne, if_pos, if_neg, b01, b01n, ite_not, if_true, if_false, rI_d]
      rfl
end OAT
