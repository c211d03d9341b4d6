/-! LUCK: longs -/
theorem l_add (a b : Nat) : lN a + lN b = lN (a + b) := (Int64.ofNat_add a b).symm
theorem l_mul (a b : Nat) : lN a * lN b = lN (a * b) := (Int64.ofNat_mul a b).symm
theorem l_ofInt (a : Nat) : lN a = Int64.ofInt (a : Int) := Int64.ofInt_eq_ofNat.symm
theorem l_toInt {a : Nat} (h : a < 9223372036854775808) : (lN a).toInt = (a : Int) := by
  rw [l_ofInt, Int64.toInt_ofInt_of_le (by omega) (by omega)]
theorem l_eq {a b : Nat} (h : a < 9223372036854775808) (h2 : b < 9223372036854775808) : lN a = lN b ↔ a = b := by
  rw [← Int64.toInt_inj, l_toInt h, l_toInt h2]
  omega
theorem l_div {a b : Nat} (h : a < 9223372036854775808) (h2 : b < 9223372036854775808) : lN a / lN b = lN (a / b) := by
  have := Int64.ofInt_tdiv (a := (a : Int)) (b := (b : Int)) (by show (-9223372036854775808 : Int) ≤ a; omega) (by show (a : Int) ≤ 9223372036854775807; omega) (by show (-9223372036854775808 : Int) ≤ b; omega) (by show (b : Int) ≤ 9223372036854775807; omega)
  rw [l_ofInt, l_ofInt b, l_ofInt (a / b), ← this]
  congr 1
theorem l_rem {a b : Nat} (h : a < 9223372036854775808) (h2 : b < 9223372036854775808) : lN a - lN a / lN b * lN b = lN (a % b) := by
  rw [l_div h h2, l_mul]
  have e : lN a = lN (a % b) + lN (a / b * b) := by
    rw [l_add]
    congr 1
    have := Nat.mod_add_div a b
    rw [Nat.mul_comm b] at this
    exact this.symm
  rw [e, Int64.add_sub_cancel]
theorem l_cmp (x y : Int64) : (lg_cmp x y = zI 0) = (x = y) := by
  unfold lg_cmp
  by_cases h : x > y
  · rw [if_pos h]
    refine propext ⟨fun z => absurd z (by decide), fun z => ?_⟩
    subst z
    exact absurd h (Int64.lt_irrefl (a := x))
  · rw [if_neg h]
    by_cases h2 : x = y
    · rw [if_pos h2]
      exact propext ⟨fun _ => h2, fun _ => rfl⟩
    · rw [if_neg h2]
      exact propext ⟨fun z => absurd z (by decide), fun z => absurd z h2⟩
theorem z_64 {a : Int} (h : 0 ≤ a) (h2 : a < 2147483648) : (zI a).toInt64 = lN a.toNat := by
  rw [← Int64.toInt_inj, Int32.toInt_toInt64, z_toInt (by omega) h2, l_toInt (by omega)]
  omega
theorem l_ne0 {a : Nat} (h : 0 < a) (h2 : a < 9223372036854775808) : (lN a = 0) = False := by
  refine propext ⟨fun z => ?_, fun z => z.elim⟩
  have : a = 0 := (l_eq h2 (by decide)).mp z
  omega
theorem uJ_at (J : Nat → Nat → Int64) (o k o' k' : Nat) (v : Int64) : uJ J o k v o' k' = if o' = o ∧ k' = k then v else J o' k' := by
  unfold uJ
  by_cases e : o' = o
  · subst e
    rw [va_up_self]
    by_cases h : k' = k
    · subst h
      rw [if_pos ⟨rfl, rfl⟩]
      exact if_pos rfl
    · rw [if_neg (fun z => h z.2)]
      exact if_neg h
  · rw [va_up_ne _ _ e, if_neg (fun z => e z.1)]
/-! what is asked, twice -/
def chN (n : Nat) : Nat → Nat
  | 0 => 1
  | r + 1 => chN n r * (n - r) / (r + 1)
def tmN (n q r : Nat) : Nat := chN n r * q ^ r * (16 - q) ^ (n - r)
def stL (q : Nat) : Nat → List Nat → List Nat
  | _, [] => []
  | p, x :: t => (x * (16 - q) + p * q) :: stL q x t
def alN (q : Nat) : Nat → List Nat
  | 0 => [1, 0, 0, 0, 0, 0, 0, 0, 0, 0, 0, 0, 0, 0]
  | n + 1 => stL q 0 (alN q n)
def sumN (f : Nat → Nat) : Nat → Nat → Nat → Nat
  | 0, _, a => a
  | c + 1, k, a => sumN f c (k + 1) (a + f k)
def upN (n q k : Nat) : Nat := sumN (fun j => (alN q n).getD j 0) (14 - k) k 0
def abN (n q k : Nat) : Nat := sumN (fun r => if k ≤ r then tmN n q r else 0) (n + 1) 0 0
theorem chN_ok : ∀ n : Nat, n < 13 → ∀ r : Nat, r < 14 → chN n r ≤ 1000 := by decide +kernel
theorem luck_ok : ∀ n : Nat, n < 13 → ∀ q : Nat, q < 17 → ∀ k : Nat, k < 14 → upN n q k = abN n q k ∧ upN n q k < 1152921504606846976 := by decide +kernel
theorem stL_get (q : Nat) : ∀ (l : List Nat) (p j : Nat), j < l.length → (stL q p l).getD j 0 = l.getD j 0 * (16 - q) + (if j = 0 then p else l.getD (j - 1) 0) * q
  | [], _, _, h => absurd h (Nat.not_lt_zero _)
  | x :: t, p, 0, _ => rfl
  | x :: t, p, j + 1, h => by
    have ih := stL_get q t x j (Nat.lt_of_succ_lt_succ h)
    show (stL q x t).getD j 0 = t.getD j 0 * (16 - q) + (if j + 1 = 0 then p else (x :: t).getD j 0) * q
    rw [ih, if_neg (Nat.succ_ne_zero j)]
    cases j with
    | zero => rfl
    | succ j => rfl
theorem stL_len (q : Nat) : ∀ (l : List Nat) (p : Nat), (stL q p l).length = l.length
  | [], _ => rfl
  | x :: t, p => by
    show (stL q x t).length + 1 = t.length + 1
    rw [stL_len q t x]
theorem alN_len (q : Nat) : ∀ n, (alN q n).length = 14
  | 0 => rfl
  | n + 1 => by
    show (stL q 0 (alN q n)).length = 14
    rw [stL_len, alN_len q n]
theorem alN_get (q n j : Nat) (h : j < 14) : (alN q (n + 1)).getD j 0 = (alN q n).getD j 0 * (16 - q) + (if j = 0 then 0 else (alN q n).getD (j - 1) 0) * q := stL_get q (alN q n) 0 j (by rw [alN_len]; exact h)
/-- least terms -/
theorem gcd_odd {a : Nat} (m : Nat) (h : a % 2 = 1) : Nat.gcd a (2 ^ m) = 1 := by
  have : Nat.Coprime a 2 := by
    show Nat.gcd a 2 = 1
    rw [Nat.gcd_comm, Nat.gcd_rec, h]
    rfl
  exact Nat.Coprime.pow_right m this
theorem gcd_even (a m : Nat) : Nat.gcd (2 * a) (2 ^ (m + 1)) = 2 * Nat.gcd a (2 ^ m) := by
  rw [Nat.pow_succ, Nat.mul_comm (2 ^ m) 2, Nat.gcd_mul_left]
theorem gcd_next {x y : Nat} (h : y ≠ 0) : Nat.gcd x y = Nat.gcd y (x % y) := by
  rw [Nat.gcd_comm x y, Nat.gcd_rec, Nat.gcd_comm]
theorem mod_half {x y : Nat} (h : y ≠ 0) (h2 : y ≤ x) : 2 * (x % y) < x := by
  have h3 := Nat.mod_add_div x y
  have h4 := Nat.mod_lt x (Nat.pos_of_ne_zero h)
  have h5 : 1 ≤ x / y := Nat.div_pos h2 (Nat.pos_of_ne_zero h)
  have h6 : y * 1 ≤ y * (x / y) := Nat.mul_le_mul_left y h5
  omega
section LUK
variable {X : Nat × (Nat → Int32)} {d : Nat} {w : Bool × Bool × Bool} {S : Hp} {J : Nat → Nat → Int64}
theorem c_power {b e : Nat} (hb : b ≤ 16) (he : e ≤ 12) : am_call X aP (d + 1) 130 [.int (zI ((b : Int))), .int (zI ((e : Int)))] (mkS w (hI S) J) = some (.inl (some (.long ((lN (b ^ e))))), (mkS w (hI S) J)) := by
  rw [go_X9_power, e_X9_power_0]
  have key : ∀ (j i n : Nat), i + j = e → j + 1 ≤ n → aR X d m_X9_power n 4 [some (.int (zI ((b : Int)))), some (.int (zI ((e : Int)))), some (.long ((lN (b ^ i)))), none, some (.int (zI ((i : Int))))] (0, 0) (mkS w (hI S) J) = some (.inl (some (.long ((lN (b ^ e))))), (mkS w (hI S) J)) := by
    intro j
    induction j with
    | zero =>
      intro i n h1 h2
      obtain ⟨n, rfl⟩ : ∃ n', n = n' + 1 := ⟨n - 1, by omega⟩
      have : i = e := by omega
      subst this
      rw [e_X9_power_4]
      simp (disch := omega) only [hk, hu, hI_n, hI_un, z_nat, em_d, zl, z_add, z_sub, z_mul, z_lt, z_eq, gI_mk, gJ_mk, cI_some, cV_some, cJ_some, cI_x, cV_x, cJ_x, uS_self, uS_ne, if_pos, if_neg, b01, b01n, ite_not, if_true, if_false]
      rfl
    | succ j ih =>
      intro i n h1 h2
      obtain ⟨n, rfl⟩ : ∃ n', n = n' + 1 := ⟨n - 1, by omega⟩
      have ih := ih (i + 1) n (by omega) (by omega)
      rw [show ((i + 1 : Nat) : Int) = (i : Int) + 1 by omega, Nat.pow_succ] at ih
      rw [e_X9_power_4]
      simp (disch := omega) only [hk, hu, hI_n, hI_un, z_nat, em_d, zl, z_add, z_sub, z_mul, z_lt, z_eq, gI_mk, gJ_mk, cI_some, cV_some, cJ_some, cI_x, cV_x, cJ_x, uS_self, uS_ne, if_pos, if_neg, b01, b01n, ite_not, if_true, if_false, z_64, Int.toNat_natCast, l_mul]
      exact ih
  exact key e 0 9999999 (by omega) (by omega)
def luckV (U D : Nat) (half : Int) : Nat := if half = 0 then U / Nat.gcd U D else D / Nat.gcd U D
theorem luckV_even (a m : Nat) (half : Int) : luckV (2 * a) (2 ^ (m + 1)) half = luckV a (2 ^ m) half := by
  unfold luckV
  rw [gcd_even, Nat.mul_div_mul_left _ _ (by decide), Nat.pow_succ, Nat.mul_comm (2 ^ m) 2, Nat.mul_div_mul_left _ _ (by decide)]
theorem luckV_odd {U m : Nat} (half : Int) (h : Nat.gcd U (2 ^ m) = 1) : luckV U (2 ^ m) half = if half = 0 then U else 2 ^ m := by
  unfold luckV
  rw [h, Nat.div_one, Nat.div_one]
theorem l_end {U D : Nat} {half : Int} (hh : 0 ≤ half ∧ half ≤ 1) (n : Nat) : aR X (d + 1) m_X9_luck (n + 1) 98 [none, none, none, none, some (.int (zI half)), some (.long ((lN U))), none, none, none, some (.long ((lN D))), none, none] (1, 6) (mkS w (hI S) J) = some (.inl (some (.long ((lN (if half = 0 then U else D))))), (mkS w (hI S) J)) := by
  rw [e_X9_luck_98]
  by_cases e : half = 0
  · simp (disch := omega) only [hk, hu, hI_n, hI_un, z_nat, em_d, zl, z_add, z_sub, z_mul, z_lt, z_eq, gI_mk, gJ_mk, cI_some, cV_some, cJ_some, cI_x, cV_x, cJ_x, uS_self, uS_ne, if_pos, if_neg, b01, b01n, ite_not, if_true, if_false, e, rJ_d]
  · simp (disch := omega) only [hk, hu, hI_n, hI_un, z_nat, em_d, zl, z_add, z_sub, z_mul, z_lt, z_eq, gI_mk, gJ_mk, cI_some, cV_some, cJ_some, cI_x, cV_x, cJ_x, uS_self, uS_ne, if_pos, if_neg, b01, b01n, ite_not, if_true, if_false, e, rJ_d]
theorem l_half {half : Int} (hh : 0 ≤ half ∧ half ≤ 1) : ∀ (m U : Nat) (i : Int) (f : Nat), 0 ≤ i → i + m ≤ 48 → U < 1152921504606846976 → aR X (d + 1) m_X9_luck (f + m + 2) 73 [none, none, none, none, some (.int (zI half)), some (.long ((lN U))), none, none, none, some (.long ((lN (2 ^ m)))), none, some (.int (zI i))] (1, 6) (mkS w (hI S) J) = some (.inl (some (.long ((lN (luckV U (2 ^ m) half))))), (mkS w (hI S) J))
  | 0, U, i, f, h1, h2, h3 => by
    have hl := l_end (X := X) (d := d) (w := w) (S := S) (J := J) (U := U) (D := 2 ^ 0) hh f
    rw [luckV_odd half (by rw [Nat.pow_zero, Nat.gcd_one_right]), e_X9_luck_73]
    by_cases q1 : i < 48
    · by_cases q2 : U % 2 = 0
      · simp (disch := omega) only [hk, hu, hI_n, hI_un, z_nat, em_d, zl, z_add, z_sub, z_mul, z_lt, z_eq, gI_mk, gJ_mk, cI_some, cV_some, cJ_some, cI_x, cV_x, cJ_x, uS_self, uS_ne, if_pos, if_neg, b01, b01n, ite_not, if_true, if_false, l_ne0, l_rem, l_cmp, l_eq, q2, Nat.pow_zero] at hl ⊢
        exact hl
      · simp (disch := omega) only [hk, hu, hI_n, hI_un, z_nat, em_d, zl, z_add, z_sub, z_mul, z_lt, z_eq, gI_mk, gJ_mk, cI_some, cV_some, cJ_some, cI_x, cV_x, cJ_x, uS_self, uS_ne, if_pos, if_neg, b01, b01n, ite_not, if_true, if_false, l_ne0, l_rem, l_cmp, l_eq, q2]
        exact hl
    · simp (disch := omega) only [hk, hu, hI_n, hI_un, z_nat, em_d, zl, z_add, z_sub, z_mul, z_lt, z_eq, gI_mk, gJ_mk, cI_some, cV_some, cJ_some, cI_x, cV_x, cJ_x, uS_self, uS_ne, if_pos, if_neg, b01, b01n, ite_not, if_true, if_false]
      exact hl
  | m + 1, U, i, f, h1, h2, h3 => by
    have hp : 2 ^ m ≤ 2 ^ 47 := Nat.pow_le_pow_right (by decide) (by omega)
    have hp2 : 2 ^ (m + 1) = 2 ^ m * 2 := Nat.pow_succ ..
    have hp3 : 2 ^ (m + 1) % 2 = 0 := by omega
    have hp4 : 2 ^ (m + 1) / 2 = 2 ^ m := by omega
    by_cases q2 : U % 2 = 0
    · have ih := l_half hh m (U / 2) (i + 1) f (by omega) (by omega) (by omega)
      have ev : luckV U (2 ^ (m + 1)) half = luckV (U / 2) (2 ^ m) half := by
        have := luckV_even (U / 2) m half
        rw [show 2 * (U / 2) = U by omega] at this
        exact this
      rw [ev, show f + (m + 1) + 2 = (f + m + 2) + 1 by omega, e_X9_luck_73]
      simp (disch := omega) only [hk, hu, hI_n, hI_un, z_nat, em_d, zl, z_add, z_sub, z_mul, z_lt, z_eq, gI_mk, gJ_mk, cI_some, cV_some, cJ_some, cI_x, cV_x, cJ_x, uS_self, uS_ne, if_pos, if_neg, b01, b01n, ite_not, if_true, if_false, l_ne0, l_rem, l_cmp, l_eq, q2, hp3]
      simp (disch := omega) only [l_div, hp4]
      exact ih
    · have hl := l_end (X := X) (d := d) (w := w) (S := S) (J := J) (U := U) (D := 2 ^ (m + 1)) hh (f + m + 1)
      rw [luckV_odd half (gcd_odd (m + 1) (by omega)), show f + (m + 1) + 2 = (f + m + 1 + 1) + 1 by omega, e_X9_luck_73]
      simp (disch := omega) only [hk, hu, hI_n, hI_un, z_nat, em_d, zl, z_add, z_sub, z_mul, z_lt, z_eq, gI_mk, gJ_mk, cI_some, cV_some, cJ_some, cI_x, cV_x, cJ_x, uS_self, uS_ne, if_pos, if_neg, b01, b01n, ite_not, if_true, if_false, l_ne0, l_rem, l_cmp, l_eq, q2]
      exact hl
theorem l_luck {N k q half : Nat} (hN : N ≤ 12) (hk1 : k ≤ 13) (hq : q ≤ 16) (hh : half ≤ 1) : ∀ (j r a : Nat) (f : Nat), r + j = N + 1 → sumN (fun r => if k ≤ r then tmN N q r else 0) j r a = abN N q k → aR X (d + 1) m_X9_luck (f + 2 * j + 60) 31 [none, some (.int (zI ((N : Int)))), some (.int (zI ((k : Int)))), some (.int (zI ((q : Int)))), some (.int (zI ((half : Int)))), some (.long ((lN a))), none, some (.long ((lN (chN N r)))), none, some (.int (zI ((r : Int)))), none, none] (1, 6) (mkS w (hI S) J) = some (.inl (some (.long ((lN (luckV (upN N q k) (16 ^ N) half))))), (mkS w (hI S) J))
  | 0, r, a, f, h1, h2 => by
    have h2 : a = abN N q k := h2
    obtain ⟨g1, g2⟩ := luck_ok N (by omega) q (by omega) k (by omega)
    have hp := c_power (X := X) (d := d) (w := w) (S := S) (J := J) (b := 16) (e := N) (by decide) hN
    have e16 : (16 : Nat) ^ N = 2 ^ (4 * N) := by rw [show (16 : Nat) = 2 ^ 4 from rfl, ← Nat.pow_mul]
    have hf := l_half (X := X) (d := d) (w := w) (S := S) (J := J) (half := (half : Int)) (by omega) (4 * N) a 0 (f + 57 - 4 * N) (by decide) (by omega) (by omega)
    rw [show f + 57 - 4 * N + 4 * N + 2 = f + 59 by omega] at hf
    rw [show f + 2 * 0 + 60 = (f + 59) + 1 by omega, e_X9_luck_31]
    simp (disch := omega) only [hk, hu, hI_n, hI_un, z_nat, em_d, zl, z_add, z_sub, z_mul, z_lt, z_eq, gI_mk, gJ_mk, cI_some, cV_some, cJ_some, cI_x, cV_x, cJ_x, uS_self, uS_ne, if_pos, if_neg, b01, b01n, ite_not, if_true, if_false]
    refine (congrArg (fun z => cJ z _ _) hp).trans ?_
    rw [cJ_some, g1, ← h2, e16]
    exact hf
  | j + 1, r, a, f, h1, h2 => by
    have hch := chN_ok N (by omega) r (by omega)
    have hch2 : chN N r * (N - r) ≤ 1000 * 12 := Nat.mul_le_mul hch (by omega)
    have er : ((r + 1 : Nat) : Int) = (r : Int) + 1 := by omega
    have st : ∀ a', aR X (d + 1) m_X9_luck ((f + 2 * j + 60) + 1) 53 [none, some (.int (zI ((N : Int)))), some (.int (zI ((k : Int)))), some (.int (zI ((q : Int)))), some (.int (zI ((half : Int)))), some (.long ((lN a'))), none, some (.long ((lN (chN N r)))), none, some (.int (zI ((r : Int)))), none, none] (1, 6) (mkS w (hI S) J) = aR X (d + 1) m_X9_luck (f + 2 * j + 60) 31 [none, some (.int (zI ((N : Int)))), some (.int (zI ((k : Int)))), some (.int (zI ((q : Int)))), some (.int (zI ((half : Int)))), some (.long ((lN a'))), none, some (.long ((lN (chN N (r + 1))))), none, some (.int (zI (((r + 1 : Nat) : Int)))), none, none] (1, 6) (mkS w (hI S) J) := by
      intro a'
      have e1 : ((r : Int) + 1).toNat = r + 1 := by omega
      have e2 : ((N : Int) - (r : Int)).toNat = N - r := by omega
      have e3 : chN N (r + 1) = chN N r * (N - r) / (r + 1) := rfl
      rw [e_X9_luck_53, e3, er]
      simp (disch := omega) only [hk, hu, hI_n, hI_un, z_nat, em_d, zl, z_add, z_sub, z_mul, z_lt, z_eq, gI_mk, gJ_mk, cI_some, cV_some, cJ_some, cI_x, cV_x, cJ_x, uS_self, uS_ne, if_pos, if_neg, b01, b01n, ite_not, if_true, if_false, z_64, e1, e2, l_ne0, l_mul, l_div]
    rw [show f + 2 * (j + 1) + 60 = (f + 2 * j + 60) + 1 + 1 by omega, e_X9_luck_31]
    by_cases q1 : k ≤ r
    · have ih := l_luck hN hk1 hq hh j (r + 1) (a + tmN N q r) f (by omega) (by
        rw [← h2]
        show _ = sumN (fun r => if k ≤ r then tmN N q r else 0) j (r + 1) (a + if k ≤ r then tmN N q r else 0)
        rw [if_pos q1])
      have p1 := c_power (X := X) (d := d) (w := w) (S := S) (J := J) (b := q) (e := r) hq (by omega)
      have p2 := c_power (X := X) (d := d) (w := w) (S := S) (J := J) (b := 16 - q) (e := N - r) (by omega) (by omega)
      rw [show ((16 - q : Nat) : Int) = 16 - (q : Int) by omega, show ((N - r : Nat) : Int) = (N : Int) - (r : Int) by omega] at p2
      simp (disch := omega) only [hk, hu, hI_n, hI_un, z_nat, em_d, zl, z_add, z_sub, z_mul, z_lt, z_eq, gI_mk, gJ_mk, cI_some, cV_some, cJ_some, cI_x, cV_x, cJ_x, uS_self, uS_ne, if_pos, if_neg, b01, b01n, ite_not, if_true, if_false]
      refine (congrArg (fun z => cJ z _ _) p1).trans ?_
      rw [cJ_some]
      refine (congrArg (fun z => cJ z _ _) p2).trans ?_
      simp only [cJ_some, gI_mk, gJ_mk, l_mul, l_add]
      exact (st _).trans ih
    · have ih := l_luck hN hk1 hq hh j (r + 1) a f (by omega) (by
        rw [← h2]
        show _ = sumN (fun r => if k ≤ r then tmN N q r else 0) j (r + 1) (a + if k ≤ r then tmN N q r else 0)
        rw [if_neg q1]
        rfl)
      simp (disch := omega) only [hk, hu, hI_n, hI_un, z_nat, em_d, zl, z_add, z_sub, z_mul, z_lt, z_eq, gI_mk, gJ_mk, cI_some, cV_some, cJ_some, cI_x, cV_x, cJ_x, uS_self, uS_ne, if_pos, if_neg, b01, b01n, ite_not, if_true, if_false]
      exact (st _).trans ih
abbrev okLuck (n k q half : Int) : Prop := (0 ≤ n ∧ n ≤ 12) ∧ (0 ≤ k ∧ k ≤ 13) ∧ (0 ≤ q ∧ q ≤ 16) ∧ 0 ≤ half ∧ half ≤ 1
def luckA (n k q half : Int) : Int64 := lN (luckV (upN n.toNat q.toNat k.toNat) (16 ^ n.toNat) half)
theorem c_luck {n k q half : Int} (h : okLuck n k q half) : am_call X aP (d + 2) 129 [.ref 0, .int (zI n), .int (zI k), .int (zI q), .int (zI half)] (mkS w (hI S) J) = some (.inl (some (.long ((luckA n k q half)))), (mkS w (hI S) J)) := by
  obtain ⟨⟨a1, a2⟩, ⟨b1, b2⟩, ⟨c1, c2⟩, d1, d2⟩ := h
  obtain ⟨n, rfl⟩ : ∃ m : Nat, n = (m : Int) := ⟨n.toNat, by omega⟩
  obtain ⟨k, rfl⟩ : ∃ m : Nat, k = (m : Int) := ⟨k.toNat, by omega⟩
  obtain ⟨q, rfl⟩ : ∃ m : Nat, q = (m : Int) := ⟨q.toNat, by omega⟩
  obtain ⟨half, rfl⟩ : ∃ m : Nat, half = (m : Int) := ⟨half.toNat, by omega⟩
  have hl := l_luck (X := X) (d := d) (w := w) (S := S) (J := J) (N := n) (k := k) (q := q) (half := half) (by omega) (by omega) (by omega) (by omega) (n + 1) 0 0 (9999998 - 2 * (n + 1) - 60) (by omega) rfl
  rw [show 9999998 - 2 * (n + 1) - 60 + 2 * (n + 1) + 60 = 9999998 by omega] at hl
  unfold luckA
  rw [Int.toNat_natCast, Int.toNat_natCast, Int.toNat_natCast, go_X9_luck, e_X9_luck_0]
  simp (disch := omega) only [hk, hu, hI_n, hI_un, z_nat, em_d, zl, z_add, z_sub, z_mul, z_lt, z_eq, gI_mk, gJ_mk, cI_some, cV_some, cJ_some, cI_x, cV_x, cJ_x, uS_self, uS_ne, if_pos, if_neg, b01, b01n, ite_not, if_true, if_false, c_within, c_req1]
  rw [show 9999999 = 9999998 + 1 from rfl, e_X9_luck_25]
  exact hl
theorem c_luckB {n k q half : Int} (hn : -2147483648 ≤ n ∧ n < 2147483648) (hk1 : -2147483648 ≤ k ∧ k < 2147483648) (hq : -2147483648 ≤ q ∧ q < 2147483648) (hh : -2147483648 ≤ half ∧ half < 2147483648) (h : ¬ okLuck n k q half) : am_call X aP (d + 2) 129 [.ref 0, .int (zI n), .int (zI k), .int (zI q), .int (zI half)] (mkS w (hI S) J) = some (.inr 2, (mkS w (hI (xbS S)) J)) := by
  rw [go_X9_luck, e_X9_luck_0]
  by_cases q1 : 0 ≤ n ∧ n ≤ 12
  · by_cases q2 : 0 ≤ k ∧ k ≤ 13
    · by_cases q3 : 0 ≤ q ∧ q ≤ 16
      · simp (disch := omega) only [hk, hu, hI_n, hI_un, z_nat, em_d, zl, z_add, z_sub, z_mul, z_lt, z_eq, gI_mk, gJ_mk, cI_some, cV_some, cJ_some, cI_x, cV_x, cJ_x, uS_self, uS_ne, if_pos, if_neg, b01, b01n, ite_not, if_true, if_false, c_within, c_req0, rX_d]
      · simp (disch := omega) only [hk, hu, hI_n, hI_un, z_nat, em_d, zl, z_add, z_sub, z_mul, z_lt, z_eq, gI_mk, gJ_mk, cI_some, cV_some, cJ_some, cI_x, cV_x, cJ_x, uS_self, uS_ne, if_pos, if_neg, b01, b01n, ite_not, if_true, if_false, c_within, c_req0, rX_d]
    · simp (disch := omega) only [hk, hu, hI_n, hI_un, z_nat, em_d, zl, z_add, z_sub, z_mul, z_lt, z_eq, gI_mk, gJ_mk, cI_some, cV_some, cJ_some, cI_x, cV_x, cJ_x, uS_self, uS_ne, if_pos, if_neg, b01, b01n, ite_not, if_true, if_false, c_within, c_req0, rX_d]
  · simp (disch := omega) only [hk, hu, hI_n, hI_un, z_nat, em_d, zl, z_add, z_sub, z_mul, z_lt, z_eq, gI_mk, gJ_mk, cI_some, cV_some, cJ_some, cI_x, cV_x, cJ_x, uS_self, uS_ne, if_pos, if_neg, b01, b01n, ite_not, if_true, if_false, c_within, c_req0, rX_d]
/-! the reference -/
theorem m_least {U D : Nat} {half : Int} (hh : 0 ≤ half ∧ half ≤ 1) (hU : U < 1152921504606846976) (hD : D < 1152921504606846976) (hD0 : D ≠ 0) : am_call X aP (d + 1) 251 [.long ((lN U)), .long ((lN D)), .int (zI half)] (mkS w (hI S) J) = some (.inl (some (.long ((lN (luckV U D half))))), (mkS w (hI S) J)) := by
  have key : ∀ (m x y f : Nat), y < 2 ^ m → x < 1152921504606846976 → y < 1152921504606846976 → Nat.gcd x y = Nat.gcd U D → 2 * m + 2 ≤ f → aR X d m_X10_least f 4 [some (.long ((lN U))), none, some (.long ((lN D))), none, some (.int (zI half)), some (.long ((lN x))), none, some (.long ((lN y))), none, none, none] (0, 0) (mkS w (hI S) J) = some (.inl (some (.long ((lN (luckV U D half))))), (mkS w (hI S) J)) := by
    intro m
    induction m with
    | zero =>
      intro x y f h1 h2 h3 h4 h5
      obtain ⟨f, rfl⟩ : ∃ n', f = n' + 1 := ⟨f - 1, by omega⟩
      have hy : y = 0 := by
        rw [Nat.pow_zero] at h1
        omega
      subst hy
      rw [Nat.gcd_zero_right] at h4
      have hg : 0 < x := by
        rw [h4]
        exact Nat.gcd_pos_of_pos_right _ (Nat.pos_of_ne_zero hD0)
      rw [e_X10_least_4]
      unfold luckV
      rw [← h4]
      by_cases e : half = 0
      · simp (disch := omega) only [hk, hu, hI_n, hI_un, z_nat, em_d, zl, z_add, z_sub, z_mul, z_lt, z_eq, gI_mk, gJ_mk, cI_some, cV_some, cJ_some, cI_x, cV_x, cJ_x, uS_self, uS_ne, if_pos, if_neg, b01, b01n, ite_not, if_true, if_false, l_cmp, l_eq, l_ne0, l_div, e, rJ_d]
      · simp (disch := omega) only [hk, hu, hI_n, hI_un, z_nat, em_d, zl, z_add, z_sub, z_mul, z_lt, z_eq, gI_mk, gJ_mk, cI_some, cV_some, cJ_some, cI_x, cV_x, cJ_x, uS_self, uS_ne, if_pos, if_neg, b01, b01n, ite_not, if_true, if_false, l_cmp, l_eq, l_ne0, l_div, e, rJ_d]
    | succ m ih =>
      intro x y f h1 h2 h3 h4 h5
      obtain ⟨f, rfl⟩ : ∃ n', f = n' + 2 := ⟨f - 2, by omega⟩
      by_cases e0 : y = 0
      · refine ih x y (f + 2) ?_ h2 h3 h4 (by omega)
        rw [e0]
        exact Nat.pow_pos (by decide)
      · have hr := Nat.mod_lt x (Nat.pos_of_ne_zero e0)
        have g1 : Nat.gcd y (x % y) = Nat.gcd U D := (gcd_next e0).symm.trans h4
        by_cases e1 : x % y = 0
        · have := ih y (x % y) (f + 1) (by rw [e1]; exact Nat.pow_pos (by decide)) h3 (by omega) g1 (by omega)
          rw [e_X10_least_4]
          simp (disch := omega) only [hk, hu, hI_n, hI_un, z_nat, em_d, zl, z_add, z_sub, z_mul, z_lt, z_eq, gI_mk, gJ_mk, cI_some, cV_some, cJ_some, cI_x, cV_x, cJ_x, uS_self, uS_ne, if_pos, if_neg, b01, b01n, ite_not, if_true, if_false, l_cmp, l_eq, l_ne0, l_rem]
          exact this
        · have g2 : Nat.gcd (x % y) (y % (x % y)) = Nat.gcd U D := (gcd_next e1).symm.trans g1
          have hh2 := mod_half e1 (Nat.le_of_lt hr)
          have hr2 := Nat.mod_lt y (Nat.pos_of_ne_zero e1)
          rw [Nat.pow_succ] at h1
          have := ih (x % y) (y % (x % y)) f (by omega) (by omega) (by omega) g2 (by omega)
          rw [e_X10_least_4]
          simp (disch := omega) only [hk, hu, hI_n, hI_un, z_nat, em_d, zl, z_add, z_sub, z_mul, z_lt, z_eq, gI_mk, gJ_mk, cI_some, cV_some, cJ_some, cI_x, cV_x, cJ_x, uS_self, uS_ne, if_pos, if_neg, b01, b01n, ite_not, if_true, if_false, l_cmp, l_eq, l_ne0, l_rem]
          rw [e_X10_least_4]
          simp (disch := omega) only [hk, hu, hI_n, hI_un, z_nat, em_d, zl, z_add, z_sub, z_mul, z_lt, z_eq, gI_mk, gJ_mk, cI_some, cV_some, cJ_some, cI_x, cV_x, cJ_x, uS_self, uS_ne, if_pos, if_neg, b01, b01n, ite_not, if_true, if_false, l_cmp, l_eq, l_ne0, l_rem]
          exact this
  rw [go_X10_least, e_X10_least_0]
  exact key 60 U D 9999999 (by rw [show (2 : Nat) ^ 60 = 1152921504606846976 from rfl]; exact hD) hU hD rfl (by omega)
theorem ml_fill {n k q half : Int} : ∀ (j : Nat) (i : Nat) (J : Nat → Nat → Int64), i + j = 14 → (∀ t, t < i → J 156 t = lN ((alN 0 0).getD t 0)) → ∃ J', (∀ t, t < 14 → J' 156 t = lN ((alN 0 0).getD t 0)) ∧ ∀ f, aR X (d + 1) m_X10_luck (f + j + 1) 35 [some (.ref 132), some (.int (zI n)), some (.int (zI k)), some (.int (zI q)), some (.int (zI half)), some (.int (zI ((i : Int)))), none, none, none, none] (0, 0) (mkS w (hI S) J) = aR X (d + 1) m_X10_luck f 53 [some (.ref 132), some (.int (zI n)), some (.int (zI k)), some (.int (zI q)), some (.int (zI half)), some (.long ((lN 1))), none, some (.int (zI 0)), none, none] (0, 0) (mkS w (hI S) J')
  | 0, i, J, h1, h2 => by
    refine ⟨J, fun t ht => h2 t (by omega), fun f => ?_⟩
    rw [e_X10_luck_35]
    simp (disch := omega) only [hk, hu, hI_n, hI_un, z_nat, em_d, zl, z_add, z_sub, z_mul, z_lt, z_eq, gI_mk, gJ_mk, cI_some, cV_some, cJ_some, cI_x, cV_x, cJ_x, uS_self, uS_ne, if_pos, if_neg, b01, b01n, ite_not, if_true, if_false]
  | j + 1, i, J, h1, h2 => by
    have eJ : ∀ v : Int64, v = lN ((alN 0 0).getD i 0) → ∀ t, t < i + 1 → uJ J 156 i v 156 t = lN ((alN 0 0).getD t 0) := by
      intro v hv t ht
      rw [uJ_at]
      by_cases e : t = i
      · rw [if_pos ⟨rfl, e⟩, e]
        exact hv
      · rw [if_neg (fun z => e z.2)]
        exact h2 t (by omega)
    by_cases e : i = 0
    · subst e
      obtain ⟨J', g1, g2⟩ := ml_fill j (0 + 1) (uJ J 156 0 (lN 1)) (by omega) (eJ _ rfl)
      refine ⟨J', g1, fun f => ?_⟩
      rw [e_X10_luck_35]
      simp (disch := omega) only [hk, hu, hI_n, hI_un, z_nat, em_d, zl, z_add, z_sub, z_mul, z_lt, z_eq, gI_mk, gJ_mk, cI_some, cV_some, cJ_some, cI_x, cV_x, cJ_x, uS_self, uS_ne, if_pos, if_neg, b01, b01n, ite_not, if_true, if_false]
      exact g2 f
    · have ez : (alN 0 0).getD i 0 = 0 := by
        obtain ⟨i, rfl⟩ : ∃ m, i = m + 1 := ⟨i - 1, by omega⟩
        have : i < 13 := by omega
        exact (by decide : ∀ i : Nat, i < 13 → (alN 0 0).getD (i + 1) 0 = 0) i this
      obtain ⟨J', g1, g2⟩ := ml_fill j (i + 1) (uJ J 156 i (lN 0)) (by omega) (eJ _ (by rw [ez]))
      refine ⟨J', g1, fun f => ?_⟩
      rw [e_X10_luck_35]
      simp (disch := omega) only [hk, hu, hI_n, hI_un, z_nat, em_d, zl, z_add, z_sub, z_mul, z_lt, z_eq, gI_mk, gJ_mk, cI_some, cV_some, cJ_some, cI_x, cV_x, cJ_x, uS_self, uS_ne, if_pos, if_neg, b01, b01n, ite_not, if_true, if_false, Int.toNat_natCast]
      exact g2 f
theorem ml_row {N k q half : Nat} (hq : q ≤ 16) {i D : Nat} (hi : i ≤ 12) : ∀ (j : Nat) (J : Nat → Nat → Int64), j ≤ 14 → (∀ t, t < 14 → J 156 t = lN (if t < j then (alN q i).getD t 0 else (alN q (i + 1)).getD t 0)) → ∃ J', (∀ t, t < 14 → J' 156 t = lN ((alN q (i + 1)).getD t 0)) ∧ ∀ f, aR X (d + 1) m_X10_luck (f + j + 1) 58 [some (.ref 132), some (.int (zI ((N : Int)))), some (.int (zI ((k : Int)))), some (.int (zI ((q : Int)))), some (.int (zI ((half : Int)))), some (.long ((lN D))), none, some (.int (zI ((i : Int)))), some (.int (zI (((j : Int) - 1)))), none] (0, 0) (mkS w (hI S) J) = aR X (d + 1) m_X10_luck f 53 [some (.ref 132), some (.int (zI ((N : Int)))), some (.int (zI ((k : Int)))), some (.int (zI ((q : Int)))), some (.int (zI ((half : Int)))), some (.long ((lN (D * 16)))), none, some (.int (zI (((i + 1 : Nat) : Int)))), none, none] (0, 0) (mkS w (hI S) J')
  | 0, J, h1, h2 => by
    refine ⟨J, fun t ht => by rw [h2 t ht, if_neg (Nat.not_lt_zero _)], fun f => ?_⟩
    rw [e_X10_luck_58, show ((i + 1 : Nat) : Int) = (i : Int) + 1 by omega]
    simp (disch := omega) only [hk, hu, hI_n, hI_un, z_nat, em_d, zl, z_add, z_sub, z_mul, z_lt, z_eq, gI_mk, gJ_mk, cI_some, cV_some, cJ_some, cI_x, cV_x, cJ_x, uS_self, uS_ne, if_pos, if_neg, b01, b01n, ite_not, if_true, if_false, l_mul]
  | j + 1, J, h1, h2 => by
    have ea := alN_get q i j (by omega)
    have eJ : ∀ v : Int64, v = lN ((alN q (i + 1)).getD j 0) → ∀ t, t < 14 → uJ J 156 j v 156 t = lN (if t < j then (alN q i).getD t 0 else (alN q (i + 1)).getD t 0) := by
      intro v hv t ht
      rw [uJ_at]
      by_cases e : t = j
      · subst e
        rw [if_pos ⟨rfl, rfl⟩, if_neg (Nat.lt_irrefl _)]
        exact hv
      · rw [if_neg (fun z => e z.2), h2 t ht]
        congr 1
        by_cases e2 : t < j
        · rw [if_pos e2, if_pos (by omega)]
        · rw [if_neg e2, if_neg (by omega)]
    have o1 := h2 j (by omega)
    rw [if_pos (by omega)] at o1
    have ej : ((j + 1 : Nat) : Int) - 1 = (j : Int) := by omega
    have e16 : ((16 : Int) - (q : Int)).toNat = 16 - q := by omega
    by_cases e : j = 0
    · subst e
      obtain ⟨J', g1, g2⟩ := ml_row (N := N) (k := k) (half := half) (D := D) hq hi 0 (uJ J 156 0 (lN ((alN q i).getD 0 0) * lN (16 - q) + lN 0)) (by omega) (eJ _ (by rw [l_mul, l_add, ea, if_pos rfl, Nat.zero_mul]))
      refine ⟨J', g1, fun f => ?_⟩
      rw [show f + (0 + 1) + 1 = (f + 0 + 1) + 1 by omega, e_X10_luck_58, ej]
      simp (disch := omega) only [hk, hu, hI_n, hI_un, z_nat, em_d, zl, z_add, z_sub, z_mul, z_lt, z_eq, gI_mk, gJ_mk, cI_some, cV_some, cJ_some, cI_x, cV_x, cJ_x, uS_self, uS_ne, if_pos, if_neg, b01, b01n, ite_not, if_true, if_false, z_64, e16, o1, Int.toNat_natCast, Int.toNat_zero]
      exact g2 f
    · have o2 := h2 (j - 1) (by omega)
      rw [if_pos (by omega)] at o2
      have ej2 : ((j : Int) - 1).toNat = j - 1 := by omega
      obtain ⟨J', g1, g2⟩ := ml_row (N := N) (k := k) (half := half) (D := D) hq hi j (uJ J 156 j (lN ((alN q i).getD j 0) * lN (16 - q) + lN ((alN q i).getD (j - 1) 0) * lN q)) (by omega) (eJ _ (by rw [l_mul, l_mul, l_add, ea, if_neg e]))
      refine ⟨J', g1, fun f => ?_⟩
      rw [show f + (j + 1) + 1 = (f + j + 1) + 1 by omega, e_X10_luck_58, ej]
      simp (disch := omega) only [hk, hu, hI_n, hI_un, z_nat, em_d, zl, z_add, z_sub, z_mul, z_lt, z_eq, gI_mk, gJ_mk, cI_some, cV_some, cJ_some, cI_x, cV_x, cJ_x, uS_self, uS_ne, if_pos, if_neg, b01, b01n, ite_not, if_true, if_false, z_64, e16, o1, o2, ej2, Int.toNat_natCast]
      exact g2 f
theorem ml_rows {N k q half : Nat} (hN : N ≤ 12) (hq : q ≤ 16) : ∀ (j i : Nat) (J : Nat → Nat → Int64), i + j = N → (∀ t, t < 14 → J 156 t = lN ((alN q i).getD t 0)) → ∃ J', (∀ t, t < 14 → J' 156 t = lN ((alN q N).getD t 0)) ∧ ∀ f, aR X (d + 1) m_X10_luck (f + 16 * j + 1) 53 [some (.ref 132), some (.int (zI ((N : Int)))), some (.int (zI ((k : Int)))), some (.int (zI ((q : Int)))), some (.int (zI ((half : Int)))), some (.long ((lN (16 ^ i)))), none, some (.int (zI ((i : Int)))), none, none] (0, 0) (mkS w (hI S) J) = aR X (d + 1) m_X10_luck f 99 [some (.ref 132), none, none, none, some (.int (zI ((half : Int)))), some (.long ((lN (16 ^ N)))), none, some (.long ((lN 0))), none, some (.int (zI ((k : Int))))] (0, 0) (mkS w (hI S) J')
  | 0, i, J, h1, h2 => by
    have : i = N := by omega
    subst this
    refine ⟨J, h2, fun f => ?_⟩
    rw [e_X10_luck_53]
    simp (disch := omega) only [hk, hu, hI_n, hI_un, z_nat, em_d, zl, z_add, z_sub, z_mul, z_lt, z_eq, gI_mk, gJ_mk, cI_some, cV_some, cJ_some, cI_x, cV_x, cJ_x, uS_self, uS_ne, if_pos, if_neg, b01, b01n, ite_not, if_true, if_false]
  | j + 1, i, J, h1, h2 => by
    obtain ⟨J1, g1, g2⟩ := ml_row (X := X) (d := d) (w := w) (S := S) (N := N) (k := k) (half := half) (D := 16 ^ i) hq (i := i) (by omega) 14 J (by omega) (fun t ht => by rw [h2 t ht, if_pos ht])
    obtain ⟨J2, g3, g4⟩ := ml_rows (k := k) (half := half) hN hq j (i + 1) J1 (by omega) g1
    refine ⟨J2, g3, fun f => ?_⟩
    rw [show f + 16 * (j + 1) + 1 = (f + 16 * j + 1 + 14 + 1) + 1 by omega, e_X10_luck_53]
    simp (disch := omega) only [hk, hu, hI_n, hI_un, z_nat, em_d, zl, z_add, z_sub, z_mul, z_lt, z_eq, gI_mk, gJ_mk, cI_some, cV_some, cJ_some, cI_x, cV_x, cJ_x, uS_self, uS_ne, if_pos, if_neg, b01, b01n, ite_not, if_true, if_false]
    refine (g2 (f + 16 * j + 1)).trans ?_
    rw [← Nat.pow_succ]
    exact g4 f
theorem ml_sum {N k q half : Nat} (hN : N ≤ 12) (hk1 : k ≤ 13) (hq : q ≤ 16) (hh : half ≤ 1) (hJ : ∀ t, t < 14 → J 156 t = lN ((alN q N).getD t 0)) : ∀ (j i a f : Nat), i + j = 14 → sumN (fun j => (alN q N).getD j 0) j i a = upN N q k → aR X (d + 1) m_X10_luck (f + j + 1) 99 [some (.ref 132), none, none, none, some (.int (zI ((half : Int)))), some (.long ((lN (16 ^ N)))), none, some (.long ((lN a))), none, some (.int (zI ((i : Int))))] (0, 0) (mkS w (hI S) J) = some (.inl (some (.long ((lN (luckV (upN N q k) (16 ^ N) half))))), (mkS w (hI S) J))
  | 0, i, a, f, h1, h2 => by
    have h2 : a = upN N q k := h2
    obtain ⟨g1, g2⟩ := luck_ok N (by omega) q (by omega) k (by omega)
    have hp : 16 ^ N ≤ 16 ^ 12 := Nat.pow_le_pow_right (by decide) hN
    have hl := m_least (X := X) (d := d) (w := w) (S := S) (J := J) (U := a) (D := 16 ^ N) (half := (half : Int)) (by omega) (by omega) (by omega) (Nat.ne_of_gt (Nat.pow_pos (by decide)))
    rw [e_X10_luck_99]
    simp (disch := omega) only [hk, hu, hI_n, hI_un, z_nat, em_d, zl, z_add, z_sub, z_mul, z_lt, z_eq, gI_mk, gJ_mk, cI_some, cV_some, cJ_some, cI_x, cV_x, cJ_x, uS_self, uS_ne, if_pos, if_neg, b01, b01n, ite_not, if_true, if_false]
    refine (congrArg (fun z => cJ z _ _) hl).trans ?_
    simp only [cJ_some, gI_mk, gJ_mk, rJ_d, h2]
  | j + 1, i, a, f, h1, h2 => by
    have ih := ml_sum hN hk1 hq hh hJ j (i + 1) (a + (alN q N).getD i 0) f (by omega) h2
    rw [show f + (j + 1) + 1 = (f + j + 1) + 1 by omega, e_X10_luck_99]
    simp (disch := omega) only [hk, hu, hI_n, hI_un, z_nat, em_d, zl, z_add, z_sub, z_mul, z_lt, z_eq, gI_mk, gJ_mk, cI_some, cV_some, cJ_some, cI_x, cV_x, cJ_x, uS_self, uS_ne, if_pos, if_neg, b01, b01n, ite_not, if_true, if_false, Int.toNat_natCast, hJ i (by omega), l_add]
    exact ih
theorem m_luck {n k q half : Int} (h : okLuck n k q half) : ∃ J', am_call X aP (d + 2) 252 [.ref 132, .int (zI n), .int (zI k), .int (zI q), .int (zI half)] (mkS w (hI S) J) = some (.inl (some (.long ((luckA n k q half)))), (mkS w (hI (uS S 132 0 0)) J')) := by
  obtain ⟨⟨a1, a2⟩, ⟨b1, b2⟩, ⟨c1, c2⟩, d1, d2⟩ := h
  obtain ⟨n, rfl⟩ : ∃ m : Nat, n = (m : Int) := ⟨n.toNat, by omega⟩
  obtain ⟨k, rfl⟩ : ∃ m : Nat, k = (m : Int) := ⟨k.toNat, by omega⟩
  obtain ⟨q, rfl⟩ : ∃ m : Nat, q = (m : Int) := ⟨q.toNat, by omega⟩
  obtain ⟨half, rfl⟩ : ∃ m : Nat, half = (m : Int) := ⟨half.toNat, by omega⟩
  obtain ⟨J1, g1, g2⟩ := ml_fill (X := X) (d := d) (w := w) (S := uS S 132 0 0) (n := (n : Int)) (k := (k : Int)) (q := (q : Int)) (half := (half : Int)) 14 0 J (by omega) (fun t ht => absurd ht (Nat.not_lt_zero _))
  obtain ⟨J2, g3, g4⟩ := ml_rows (X := X) (d := d) (w := w) (S := uS S 132 0 0) (N := n) (k := k) (q := q) (half := half) (by omega) (by omega) n 0 J1 (by omega) g1
  have g5 := ml_sum (X := X) (d := d) (w := w) (S := uS S 132 0 0) (N := n) (k := k) (q := q) (half := half) (by omega) (by omega) (by omega) (by omega) g3 (14 - k) k 0 (9999999 - 15 - (16 * n + 1) - (14 - k + 1)) (by omega) rfl
  refine ⟨J2, ?_⟩
  unfold luckA
  rw [Int.toNat_natCast, Int.toNat_natCast, Int.toNat_natCast, go_X10_luck, e_X10_luck_0, z_0, hu.1]
  simp (disch := omega) only [hk, hu, hI_n, hI_un, z_nat, em_d, zl, z_add, z_sub, z_mul, z_lt, z_eq, gI_mk, gJ_mk, cI_some, cV_some, cJ_some, cI_x, cV_x, cJ_x, uS_self, uS_ne, if_pos, if_neg, b01, b01n, ite_not, if_true, if_false, m_within]
  rw [m_may1 (uS_self _ _ _ _)]
  simp (disch := omega) only [hk, hu, hI_n, hI_un, z_nat, em_d, zl, z_add, z_sub, z_mul, z_lt, z_eq, gI_mk, gJ_mk, cI_some, cV_some, cJ_some, cI_x, cV_x, cJ_x, uS_self, uS_ne, if_pos, if_neg, b01, b01n, ite_not, if_true, if_false]
  have g2 := g2 (9999999 - 15)
  have g4 := g4 (9999999 - 15 - (16 * n + 1))
  rw [show 9999999 - 15 - (16 * n + 1) + 16 * n + 1 = 9999999 - 15 by omega] at g4
  rw [show 9999999 - 15 - (16 * n + 1) - (14 - k + 1) + (14 - k) + 1 = 9999999 - 15 - (16 * n + 1) by omega] at g5
  exact g2.trans (g4.trans g5)
theorem m_luckB {n k q half : Int} (hn : -2147483648 ≤ n ∧ n < 2147483648) (hk1 : -2147483648 ≤ k ∧ k < 2147483648) (hq : -2147483648 ≤ q ∧ q < 2147483648) (hh : -2147483648 ≤ half ∧ half < 2147483648) (h : ¬ okLuck n k q half) : am_call X aP (d + 2) 252 [.ref 132, .int (zI n), .int (zI k), .int (zI q), .int (zI half)] (mkS w (hI S) J) = some (.inl (some (.long ((lN 0)))), (mkS w (hI (mxB S 1)) J)) := by
  have hmm := fun d => m_may0 (X := X) (d := d) (w := w) (J := J) (S := uS S 132 0 0) (uS_self _ _ _ _) (cd := 1) (k := 1) (by decide) (by decide)
  rw [go_X10_luck, e_X10_luck_0, z_0, hu.1]
  by_cases q1 : 0 ≤ n ∧ n ≤ 12
  · by_cases q2 : 0 ≤ k ∧ k ≤ 13
    · by_cases q3 : 0 ≤ q ∧ q ≤ 16
      · simp (disch := omega) only [hk, hu, hI_n, hI_un, z_nat, em_d, zl, z_add, z_sub, z_mul, z_lt, z_eq, gI_mk, gJ_mk, cI_some, cV_some, cJ_some, cI_x, cV_x, cJ_x, uS_self, uS_ne, if_pos, if_neg, b01, b01n, ite_not, if_true, if_false, m_within]
        rw [hmm]
        simp (disch := omega) only [hk, hu, hI_n, hI_un, z_nat, em_d, zl, z_add, z_sub, z_mul, z_lt, z_eq, gI_mk, gJ_mk, cI_some, cV_some, cJ_some, cI_x, cV_x, cJ_x, uS_self, uS_ne, if_pos, if_neg, b01, b01n, ite_not, if_true, if_false, rJ_d]
        rfl
      · simp (disch := omega) only [hk, hu, hI_n, hI_un, z_nat, em_d, zl, z_add, z_sub, z_mul, z_lt, z_eq, gI_mk, gJ_mk, cI_some, cV_some, cJ_some, cI_x, cV_x, cJ_x, uS_self, uS_ne, if_pos, if_neg, b01, b01n, ite_not, if_true, if_false, m_within]
        rw [hmm]
        simp (disch := omega) only [hk, hu, hI_n, hI_un, z_nat, em_d, zl, z_add, z_sub, z_mul, z_lt, z_eq, gI_mk, gJ_mk, cI_some, cV_some, cJ_some, cI_x, cV_x, cJ_x, uS_self, uS_ne, if_pos, if_neg, b01, b01n, ite_not, if_true, if_false, rJ_d]
        rfl
    · simp (disch := omega) only [hk, hu, hI_n, hI_un, z_nat, em_d, zl, z_add, z_sub, z_mul, z_lt, z_eq, gI_mk, gJ_mk, cI_some, cV_some, cJ_some, cI_x, cV_x, cJ_x, uS_self, uS_ne, if_pos, if_neg, b01, b01n, ite_not, if_true, if_false, m_within]
      rw [hmm]
      simp (disch := omega) only [hk, hu, hI_n, hI_un, z_nat, em_d, zl, z_add, z_sub, z_mul, z_lt, z_eq, gI_mk, gJ_mk, cI_some, cV_some, cJ_some, cI_x, cV_x, cJ_x, uS_self, uS_ne, if_pos, if_neg, b01, b01n, ite_not, if_true, if_false, rJ_d]
      rfl
  · simp (disch := omega) only [hk, hu, hI_n, hI_un, z_nat, em_d, zl, z_add, z_sub, z_mul, z_lt, z_eq, gI_mk, gJ_mk, cI_some, cV_some, cJ_some, cI_x, cV_x, cJ_x, uS_self, uS_ne, if_pos, if_neg, b01, b01n, ite_not, if_true, if_false, m_within]
    rw [hmm]
    simp (disch := omega) only [hk, hu, hI_n, hI_un, z_nat, em_d, zl, z_add, z_sub, z_mul, z_lt, z_eq, gI_mk, gJ_mk, cI_some, cV_some, cJ_some, cI_x, cV_x, cJ_x, uS_self, uS_ne, if_pos, if_neg, b01, b01n, ite_not, if_true, if_false, rJ_d]
    rfl
end LUK
