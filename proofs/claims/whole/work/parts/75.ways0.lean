/-! WAYS: how long a road takes, the soonest ways -/
def wk (off h : Int) (n : Nat) : Int := sumZ (fun k => if off = dayOf (h + k) then 0 else 1) n
def srch (P : Int → Bool) : Nat → Int → Int
  | 0, _ => -1
  | j + 1, n => if P n = true then n else srch P j (n + 1)
def tkM (L p off h : Int) (most : Nat) : Int := if 0 < p then srch (fun n => decide (L ≤ p * wk off h n.toNat)) most 1 else -1
def tk (L p off h : Int) : Int := tkM L p off h 999
theorem srch_none {P : Int → Bool} : ∀ (j : Nat) (n : Int), (∀ m, n ≤ m → m < n + j → P m = false) → srch P j n = -1
  | 0, _, _ => rfl
  | j + 1, n, h => by
    show (if P n = true then n else srch P j (n + 1)) = -1
    rw [h n (by omega) (by omega), if_neg (by decide)]
    exact srch_none j (n + 1) (fun m h1 h2 => h m (by omega) (by omega))
theorem srch_some {P : Int → Bool} : ∀ (j : Nat) (n m : Int), n ≤ m → m < n + j → P m = true → (∀ k, n ≤ k → k < m → P k = false) → srch P j n = m
  | 0, n, m, h1, h2, _, _ => by omega
  | j + 1, n, m, h1, h2, h3, h4 => by
    show (if P n = true then n else srch P j (n + 1)) = m
    by_cases e : n = m
    · rw [e, if_pos h3]
    · rw [h4 n (by omega) (by omega), if_neg (by decide)]
      exact srch_some j (n + 1) m (by omega) (by omega) h3 (fun k h5 h6 => h4 k (by omega) h6)
theorem srch_r {P : Int → Bool} : ∀ (j : Nat) (n : Int), srch P j n = -1 ∨ (n ≤ srch P j n ∧ srch P j n < n + j ∧ P (srch P j n) = true ∧ ∀ k, n ≤ k → k < srch P j n → P k = false)
  | 0, _ => Or.inl rfl
  | j + 1, n => by
    have e : srch P (j + 1) n = if P n = true then n else srch P j (n + 1) := rfl
    rw [e]
    by_cases h : P n = true
    · rw [if_pos h]
      exact Or.inr ⟨Int.le_refl _, by omega, h, fun k h1 h2 => by omega⟩
    · rw [if_neg h]
      rcases srch_r j (n + 1) with g | ⟨g1, g2, g3, g4⟩
      · exact Or.inl g
      · refine Or.inr ⟨by omega, by omega, g3, fun k h1 h2 => ?_⟩
        by_cases e2 : k = n
        · subst e2
          exact Bool.eq_false_iff.mpr h
        · exact g4 k (by omega) h2
/-- a search cut short -/
theorem srch_cut {P : Int → Bool} {j : Nat} {n : Int} (i : Nat) (hi : i ≤ j) (hn : 0 ≤ n) : srch P i n = if srch P j n = -1 ∨ n + i ≤ srch P j n then -1 else srch P j n := by
  rcases srch_r (P := P) j n with g | ⟨g1, g2, g3, g4⟩
  · rw [if_pos (Or.inl g)]
    apply srch_none
    intro m h1 h2
    apply Bool.eq_false_iff.mpr
    intro h3
    -- the least such
    have : ∀ (k : Nat) (m : Int), n ≤ m → m < n + j → P m = true → m = n + k → srch P j n ≠ -1 := by
      intro k
      induction k using Nat.strongRecOn with
      | _ k ih =>
        intro m a1 a2 a3 a4
        by_cases q : ∀ x, n ≤ x → x < m → P x = false
        · rw [srch_some j n m a1 a2 a3 q]
          omega
        · obtain ⟨x, hx⟩ := Classical.not_forall.mp q
          obtain ⟨x1, hx⟩ := Classical.not_imp.mp hx
          obtain ⟨x2, hx⟩ := Classical.not_imp.mp hx
          have hx : P x = true := by
            cases e : P x
            · exact absurd e hx
            · rfl
          exact ih (x - n).toNat (by omega) x x1 (by omega) hx (by omega)
    exact this (m - n).toNat m h1 (by omega) h3 (by omega) g
  · by_cases q : n + i ≤ srch P j n
    · rw [if_pos (Or.inr q)]
      exact srch_none i n (fun m h1 h2 => g4 m h1 (by omega))
    · rw [if_neg (by omega)]
      exact srch_some i n _ g1 (by omega) g3 g4
theorem wk_succ (off h : Int) (n : Nat) : wk off h (n + 1) = wk off h n + (if off = dayOf (h + n) then 0 else 1) := rfl
theorem wk_mono (off h : Int) (n : Nat) : ∀ m : Nat, wk off h n ≤ wk off h (n + m)
  | 0 => Int.le_refl _
  | m + 1 => by
    have := wk_mono off h n m
    rw [show n + (m + 1) = n + m + 1 from rfl, wk_succ]
    split <;> omega
theorem tkM_r (L p off h : Int) (most : Nat) : tkM L p off h most = -1 ∨ (1 ≤ tkM L p off h most ∧ tkM L p off h most ≤ most) := by
  unfold tkM
  split
  · rcases srch_r (P := fun n => decide (L ≤ p * wk off h n.toNat)) most 1 with g | ⟨g1, g2, -⟩
    · exact Or.inl g
    · exact Or.inr ⟨g1, by omega⟩
  · exact Or.inl rfl
theorem tkM_eq (L p off h : Int) (most : Nat) (hm : most ≤ 999) : tkM L p off h most = if tk L p off h = -1 ∨ most < tk L p off h then -1 else tk L p off h := by
  unfold tk tkM
  by_cases hp : 0 < p
  · rw [if_pos hp, if_pos hp, srch_cut (j := 999) most hm (by decide)]
    by_cases q : srch (fun n => decide (L ≤ p * wk off h n.toNat)) 999 1 = -1 ∨ 1 + (most : Int) ≤ srch (fun n => decide (L ≤ p * wk off h n.toNat)) 999 1
    · rw [if_pos q, if_pos (by omega)]
    · rw [if_neg q, if_neg (by omega)]
  · rw [if_neg hp, if_neg hp]
    rfl
/-- within a day -/
theorem wk_day (off h : Int) (e k : Nat) (hh : 0 ≤ h) (hk : (h + e) % 8 + k ≤ 8) : wk off h (e + k) = if off = dayOf (h + e) then wk off h e else wk off h e + k := by
  induction k with
  | zero =>
    split
    · rfl
    · show wk off h e = wk off h e + ((0 : Nat) : Int)
      omega
  | succ k ih =>
    have ih := ih (by omega)
    have ed : dayOf (h + ((e + k : Nat) : Int)) = dayOf (h + e) := by
      show (h + ((e + k : Nat) : Int)) / 8 % 7 = (h + e) / 8 % 7
      have : (h + ((e + k : Nat) : Int)) / 8 = (h + e) / 8 := by omega
      rw [this]
    rw [show e + (k + 1) = e + k + 1 from rfl, wk_succ, ih, ed]
    by_cases q : off = dayOf (h + e)
    · rw [if_pos q, if_pos q, if_pos q, Int.add_zero]
    · rw [if_neg q, if_neg q, if_neg q]
      omega
/-- gone far enough: by hours -/
theorem ceil_le {L p x : Int} (hp : 0 < p) : L ≤ p * x ↔ (L + p - 1) / p ≤ x := by
  constructor
  · intro h
    have : L + p - 1 < p * (x + 1) := by rw [Int.mul_add, Int.mul_one]; omega
    have h2 : (L + p - 1) / p < x + 1 := Int.ediv_lt_of_lt_mul hp (by rw [Int.mul_comm]; exact this)
    omega
  · intro h
    have h1 : (L + p - 1) < ((L + p - 1) / p + 1) * p := Int.lt_mul_of_ediv_lt hp (by omega)
    have h2 : (L + p - 1) / p * p ≤ x * p := Int.mul_le_mul_of_nonneg_right h (by omega)
    rw [Int.add_mul, Int.one_mul] at h1
    rw [Int.mul_comm]
    omega
section CTK
variable {X : Nat × (Nat → Int32)} {d : Nat} {w : Bool × Bool × Bool} {S : Hp} {J : Nat → Nat → Int64}
theorem l_taken {L p off h : Int} (hL : 1 ≤ L ∧ L ≤ 40) (hp : 1 ≤ p ∧ p ≤ 9) (hoff : 0 ≤ off ∧ off < 7) (hh : 0 ≤ h ∧ h ≤ 7000) : ∀ (j : Nat) (i : Int) (e : Nat) (n : Nat), i + j = 126 → 0 ≤ i → 8 * i ≤ e + 7 → (e : Int) ≤ 8 * i → (i = 0 ∨ (h + e) % 8 = 0) → wk off h e < (L + p - 1) / p → 2 * j + 2 ≤ n → aR X d m_X8_taken n 16 [none, none, some (.int (zI off)), some (.int (zI h)), some (.int (zI (((L + p - 1) / p - wk off h e)))), some (.int (zI ((h + e)))), some (.int (zI i)), none, none] (0, 0) (mkS w (hI S) J) = some (.inl (some (.int (zI (tk L p off h)))), (mkS w (hI S) J))
  | 0, i, e, n, hij, hi0, he1, he2, he3, hw, hn => by
    obtain ⟨n, rfl⟩ : ∃ m, n = m + 1 := ⟨n - 1, by omega⟩
    have hi : i = 126 := by omega
    have e0 : tk L p off h = -1 := by
      unfold tk tkM
      rw [if_pos (by omega)]
      apply srch_none
      intro m h1 h2
      apply decide_eq_false
      rw [ceil_le (by omega)]
      have := wk_mono off h m.toNat (e - m.toNat)
      rw [show m.toNat + (e - m.toNat) = e by omega] at this
      omega
    rw [e_X8_taken_16, e0, hi]
    simp (disch := omega) only [hk, hu, hI_n, hI_un, z_nat, em_d, zl, z_add, z_sub, z_mul, z_lt, z_eq, gI_mk, gJ_mk, cI_some, cV_some, cJ_some, cI_x, cV_x, cJ_x, uS_self, uS_ne, if_pos, if_neg, b01, b01n, ite_not, if_true, if_false, rI_d]
  | j + 1, i, e, n, hij, hi0, he1, he2, he3, hw, hn => by
    obtain ⟨n, rfl⟩ : ∃ m, n = m + 2 := ⟨n - 2, by omega⟩
    have hq1 : (L + p - 1) / p ≤ 40 := by
      have : (L + p - 1) / p < 41 := Int.ediv_lt_of_lt_mul (by omega) (by have : 41 * 1 ≤ 41 * p := Int.mul_le_mul_of_nonneg_left hp.1 (by decide); have : p * 1 ≤ p * L := Int.mul_le_mul_of_nonneg_left hL.1 (by omega); omega)
      omega
    have hw0 : 0 ≤ wk off h e := by
      have := (sumZ_r (f := fun k => if off = dayOf (h + k) then (0 : Int) else 1) (a := 0) (b := 1) e (fun k _ _ => by show 0 ≤ (if off = dayOf (h + k) then (0 : Int) else 1) ∧ (if off = dayOf (h + k) then (0 : Int) else 1) ≤ 1; split <;> omega)).1
      have h0 : (e : Int) * 0 = 0 := Int.mul_zero _
      show 0 ≤ sumZ _ e
      omega
    have hr : ∃ x : Nat, (x : Int) = 8 - (h + e) % 8 ∧ 1 ≤ x ∧ x ≤ 8 := ⟨(8 - (h + e) % 8).toNat, by omega, by omega, by omega⟩
    obtain ⟨x, hx1, hx2, hx3⟩ := hr
    have hd := wk_day off h e x hh.1 (by omega)
    have h8 : 0 ≤ (h + e) / 8 ∧ (h + e) / 8 < 100000 := by omega
    have h56 : 0 ≤ (h + e) / 8 % 7 ∧ (h + e) / 8 % 7 < 7 := by omega
    have enext : h + (e : Int) + (8 - (h + e) % 8) = h + ((e + x : Nat) : Int) := by omega
    have rec' : ∀ l, l = (L + p - 1) / p - wk off h (e + x) → wk off h (e + x) < (L + p - 1) / p → aR X d m_X8_taken n 16 [none, none, some (.int (zI off)), some (.int (zI h)), some (.int (zI l)), some (.int (zI ((h + (e : Int) + (8 - (h + e) % 8))))), some (.int (zI ((i + 1)))), none, none] (0, 0) (mkS w (hI S) J) = some (.inl (some (.int (zI (tk L p off h)))), (mkS w (hI S) J)) := fun l hl hlt => by
      rw [enext, hl]
      exact l_taken hL hp hoff hh j (i + 1) (e + x) n (by omega) (by omega) (by omega) (by omega) (Or.inr (by omega)) hlt (by omega)
    rw [e_X8_taken_16]
    by_cases q : (h + e) / 8 % 7 = off
    · rw [if_pos (show off = dayOf (h + e) from q.symm)] at hd
      simp (disch := omega) only [hk, hu, hI_n, hI_un, z_nat, em_d, zl, z_add, z_sub, z_mul, z_lt, z_eq, gI_mk, gJ_mk, cI_some, cV_some, cJ_some, cI_x, cV_x, cJ_x, uS_self, uS_ne, if_pos, if_neg, b01, b01n, ite_not, if_true, if_false, z_div]
      rw [e_X8_taken_52]
      simp (disch := omega) only [hk, hu, hI_n, hI_un, z_nat, em_d, zl, z_add, z_sub, z_mul, z_lt, z_eq, gI_mk, gJ_mk, cI_some, cV_some, cJ_some, cI_x, cV_x, cJ_x, uS_self, uS_ne, if_pos, if_neg, b01, b01n, ite_not, if_true, if_false]
      exact rec' _ (by rw [hd]) (by rw [hd]; exact hw)
    · rw [if_neg (show ¬ off = dayOf (h + e) from fun z => q z.symm)] at hd
      by_cases q2 : 8 - (h + e) % 8 < (L + p - 1) / p - wk off h e
      · simp (disch := omega) only [hk, hu, hI_n, hI_un, z_nat, em_d, zl, z_add, z_sub, z_mul, z_lt, z_eq, gI_mk, gJ_mk, cI_some, cV_some, cJ_some, cI_x, cV_x, cJ_x, uS_self, uS_ne, if_pos, if_neg, b01, b01n, ite_not, if_true, if_false, z_div]
        rw [e_X8_taken_52]
        simp (disch := omega) only [hk, hu, hI_n, hI_un, z_nat, em_d, zl, z_add, z_sub, z_mul, z_lt, z_eq, gI_mk, gJ_mk, cI_some, cV_some, cJ_some, cI_x, cV_x, cJ_x, uS_self, uS_ne, if_pos, if_neg, b01, b01n, ite_not, if_true, if_false]
        exact rec' _ (by rw [hd]; omega) (by rw [hd]; omega)
      · -- found
        obtain ⟨y, hy⟩ : ∃ y : Nat, (y : Int) = (L + p - 1) / p - wk off h e := ⟨((L + p - 1) / p - wk off h e).toNat, by omega⟩
        have hd2 := wk_day off h e y hh.1 (by omega)
        rw [if_neg (show ¬ off = dayOf (h + e) from fun z => q z.symm)] at hd2
        have hd3 := wk_day off h e (y - 1) hh.1 (by omega)
        rw [if_neg (show ¬ off = dayOf (h + e) from fun z => q z.symm)] at hd3
        have hlow : ∀ k : Int, 1 ≤ k → k < ((e + y : Nat) : Int) → decide (L ≤ p * wk off h k.toNat) = false := fun k k1 k2 => by
          apply decide_eq_false
          rw [ceil_le (by omega)]
          have := wk_mono off h k.toNat (e + (y - 1) - k.toNat)
          rw [show k.toNat + (e + (y - 1) - k.toNat) = e + (y - 1) by omega] at this
          omega
        by_cases q3 : ((e + y : Nat) : Int) ≤ 999
        · have e0 : tk L p off h = ((e + y : Nat) : Int) := by
            unfold tk tkM
            rw [if_pos (by omega)]
            apply srch_some
            · omega
            · omega
            · apply decide_eq_true
              rw [ceil_le (by omega), Int.toNat_natCast, hd2]
              omega
            · exact hlow
          have e1 : h + (e : Int) + ((L + p - 1) / p - wk off h e) - h = ((e + y : Nat) : Int) := by omega
          rw [e0]
          simp (disch := omega) only [hk, hu, hI_n, hI_un, z_nat, em_d, zl, z_add, z_sub, z_mul, z_lt, z_eq, gI_mk, gJ_mk, cI_some, cV_some, cJ_some, cI_x, cV_x, cJ_x, uS_self, uS_ne, if_pos, if_neg, b01, b01n, ite_not, if_true, if_false, z_div, e1, rI_d]
        · have e0 : tk L p off h = -1 := by
            unfold tk tkM
            rw [if_pos (by omega)]
            apply srch_none
            intro m m1 m2
            exact hlow m m1 (by omega)
          have e1 : h + (e : Int) + ((L + p - 1) / p - wk off h e) - h = ((e + y : Nat) : Int) := by omega
          rw [e0]
          simp (disch := omega) only [hk, hu, hI_n, hI_un, z_nat, em_d, zl, z_add, z_sub, z_mul, z_lt, z_eq, gI_mk, gJ_mk, cI_some, cV_some, cJ_some, cI_x, cV_x, cJ_x, uS_self, uS_ne, if_pos, if_neg, b01, b01n, ite_not, if_true, if_false, z_div, e1, rI_d]
theorem c_taken {L p off h : Int} (hL : 1 ≤ L ∧ L ≤ 40) (hp : 0 ≤ p ∧ p ≤ 9) (hoff : 0 ≤ off ∧ off < 7) (hh : 0 ≤ h ∧ h ≤ 7000) : am_call X aP (d + 1) 94 [.int (zI L), .int (zI p), .int (zI off), .int (zI h)] (mkS w (hI S) J) = some (.inl (some (.int (zI (tk L p off h)))), (mkS w (hI S) J)) := by
  rw [go_X8_taken, e_X8_taken_0]
  by_cases q : 0 < p
  · have hq1 : 1 ≤ (L + p - 1) / p := by
      apply Int.le_ediv_of_mul_le (by omega)
      omega
    have := l_taken (X := X) (d := d) (w := w) (S := S) (J := J) hL (p := p) ⟨q, hp.2⟩ hoff hh 126 0 0 9999999 (by omega) (by omega) (by omega) (by omega) (Or.inl rfl) (by show (0 : Int) < _; omega) (by omega)
    have e1 : (L + p - 1) / p - wk off h 0 = (L + p - 1) / p := by show (L + p - 1) / p - 0 = _; omega
    have e2 : h + ((0 : Nat) : Int) = h := by omega
    rw [e1, e2] at this
    simp (disch := omega) only [hk, hu, hI_n, hI_un, z_nat, em_d, zl, z_add, z_sub, z_mul, z_lt, z_eq, gI_mk, gJ_mk, cI_some, cV_some, cJ_some, cI_x, cV_x, cJ_x, uS_self, uS_ne, if_pos, if_neg, b01, b01n, ite_not, if_true, if_false, z_div]
    exact this
  · have e0 : tk L p off h = -1 := by
      unfold tk tkM
      rw [if_neg q]
    rw [e0]
    simp (disch := omega) only [hk, hu, hI_n, hI_un, z_nat, em_d, zl, z_add, z_sub, z_mul, z_lt, z_eq, gI_mk, gJ_mk, cI_some, cV_some, cJ_some, cI_x, cV_x, cJ_x, uS_self, uS_ne, if_pos, if_neg, b01, b01n, ite_not, if_true, if_false, rI_d]
end CTK
