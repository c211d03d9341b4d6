/-! LUCK: longs -/
theorem l_add (a b : Nat) : lN a + lN b = lN (a + b) := (Int64.ofNat_add a b).symm
theorem l_mul (a b : Nat) : lN a * lN b = lN (a * b) := (Int64.ofNat_mul a b).symm
theorem l_ofInt (a : Nat) : lN a = Int64.ofInt (a : Int) := Int64.ofInt_eq_ofNat.symm
theorem l_toInt {a : Nat} (h : a < 9223372036854775808) : (lN a).toInt = (a : Int) := by
  rw [l_ofInt, Int64.toInt_ofInt_of_le (by omega) (by omega)]
theorem l_eq {a b : Nat} (h : a < 9223372036854775808) (h2 : b < 9223372036854775808) : lN a = lN b ↔ a = b := by
  rw [← Int64.toInt_inj, l_toInt h, l_toInt h2]
  omega
theorem l_div {a b : Nat} (h : a < 9223372036854775808) (h2 : b < 9223372036854775808) : lN a / lN b = lN (a / b) := by
  have := Int64.ofInt_tdiv (a := (a : Int)) (b := (b : Int)) (by show (-9223372036854775808 : Int) ≤ a; omega) (by show (a : Int) ≤ 9223372036854775807; omega) (by show (-9223372036854775808 : Int) ≤ b; omega) (by show (b : Int) ≤ 9223372036854775807; omega)
  rw [l_ofInt, l_ofInt b, l_ofInt (a / b), ← this]
  congr 1
theorem l_rem {a b : Nat} (h : a < 9223372036854775808) (h2 : b < 9223372036854775808) : lN a - lN a / lN b * lN b = lN (a % b) := by
  rw [l_div h h2, l_mul]
  have e : lN a = lN (a % b) + lN (a / b * b) := by
    rw [l_add]
    congr 1
    have := Nat.mod_add_div a b
    rw [Nat.mul_comm b] at this
    exact this.symm
  rw [e, Int64.add_sub_cancel]
theorem l_cmp (x y : Int64) : (lg_cmp x y = zI 0) = (x = y) := by
  unfold lg_cmp
  by_cases h : x > y
  · rw [if_pos h]
    refine propext ⟨fun z => absurd z (by decide), fun z => ?_⟩
    subst z
    exact absurd h (Int64.lt_irrefl (a := x))
  · rw [if_neg h]
    by_cases h2 : x = y
    · rw [if_pos h2]
      exact propext ⟨fun _ => h2, fun _ => rfl⟩
    · rw [if_neg h2]
      exact propext ⟨fun z => absurd z (by decide), fun z => absurd z h2⟩
theorem z_64 {a : Int} (h : 0 ≤ a) (h2 : a < 2147483648) : (zI a).toInt64 = lN a.toNat := by
  rw [← Int64.toInt_inj, Int32.toInt_toInt64, z_toInt (by omega) h2, l_toInt (by omega)]
  omega
theorem l_z (a : Int64) : (a = 0) = (a = lN 0) := rfl
/-! what is asked, twice -/
def chN (n : Nat) : Nat → Nat
  | 0 => 1
  | r + 1 => chN n r * (n - r) / (r + 1)
def tmN (n q r : Nat) : Nat := chN n r * q ^ r * (16 - q) ^ (n - r)
def stL (q : Nat) : Nat → List Nat → List Nat
  | _, [] => []
  | p, x :: t => (x * (16 - q) + p * q) :: stL q x t
def alN (q : Nat) : Nat → List Nat
  | 0 => [1, 0, 0, 0, 0, 0, 0, 0, 0, 0, 0, 0, 0, 0]
  | n + 1 => stL q 0 (alN q n)
def sumN (f : Nat → Nat) : Nat → Nat → Nat → Nat
  | 0, _, a => a
  | c + 1, k, a => sumN f c (k + 1) (a + f k)
def upN (n q k : Nat) : Nat := sumN (fun j => (alN q n).getD j 0) (14 - k) k 0
def abN (n q k : Nat) : Nat := sumN (fun r => if k ≤ r then tmN n q r else 0) (n + 1) 0 0
theorem chN_ok : ∀ n : Nat, n < 13 → ∀ r : Nat, r < 14 → chN n r ≤ 1000 := by decide +kernel
theorem luck_ok : ∀ n : Nat, n < 13 → ∀ q : Nat, q < 17 → ∀ k : Nat, k < 14 → upN n q k = abN n q k ∧ upN n q k < 1152921504606846976 := by decide +kernel
theorem stL_get (q : Nat) : ∀ (l : List Nat) (p j : Nat), j < l.length → (stL q p l).getD j 0 = l.getD j 0 * (16 - q) + (if j = 0 then p else l.getD (j - 1) 0) * q
  | [], _, _, h => absurd h (Nat.not_lt_zero _)
  | x :: t, p, 0, _ => rfl
  | x :: t, p, j + 1, h => by
    have ih := stL_get q t x j (Nat.lt_of_succ_lt_succ h)
    show (stL q x t).getD j 0 = t.getD j 0 * (16 - q) + (if j + 1 = 0 then p else (x :: t).getD j 0) * q
    rw [ih, if_neg (Nat.succ_ne_zero j)]
    cases j with
    | zero => rfl
    | succ j => rfl
theorem stL_len (q : Nat) : ∀ (l : List Nat) (p : Nat), (stL q p l).length = l.length
  | [], _ => rfl
  | x :: t, p => by
    show (stL q x t).length + 1 = t.length + 1
    rw [stL_len q t x]
theorem alN_len (q : Nat) : ∀ n, (alN q n).length = 14
  | 0 => rfl
  | n + 1 => by
    show (stL q 0 (alN q n)).length = 14
    rw [stL_len, alN_len q n]
theorem alN_get (q n j : Nat) (h : j < 14) : (alN q (n + 1)).getD j 0 = (alN q n).getD j 0 * (16 - q) + (if j = 0 then 0 else (alN q n).getD (j - 1) 0) * q := stL_get q (alN q n) 0 j (by rw [alN_len]; exact h)
/-- least terms -/
theorem gcd_odd {a : Nat} (m : Nat) (h : a % 2 = 1) : Nat.gcd a (2 ^ m) = 1 := by
  have : Nat.Coprime a 2 := by
    show Nat.gcd a 2 = 1
    rw [Nat.gcd_comm, Nat.gcd_rec, h]
    rfl
  exact Nat.Coprime.pow_right m this
theorem gcd_even (a m : Nat) : Nat.gcd (2 * a) (2 ^ (m + 1)) = 2 * Nat.gcd a (2 ^ m) := by
  rw [Nat.pow_succ, Nat.mul_comm (2 ^ m) 2, Nat.gcd_mul_left]
theorem gcd_next {x y : Nat} (h : y ≠ 0) : Nat.gcd x y = Nat.gcd y (x % y) := by
  rw [Nat.gcd_comm x y, Nat.gcd_rec, Nat.gcd_comm]
theorem mod_half {x y : Nat} (h : y ≠ 0) (h2 : y ≤ x) : 2 * (x % y) < x := by
  have h3 := Nat.mod_add_div x y
  have h4 := Nat.mod_lt x (Nat.pos_of_ne_zero h)
  have h5 : 1 ≤ x / y := Nat.div_pos h2 (Nat.pos_of_ne_zero h)
  have h6 : y * 1 ≤ y * (x / y) := Nat.mul_le_mul_left y h5
  omega
section LUK
variable {X : Nat × (Nat → Int32)} {d : Nat} {w : Bool × Bool × Bool} {S : Hp} {J : Nat → Nat → Int64}
theorem c_power {b e : Nat} (hb : b ≤ 16) (he : e ≤ 12) : am_call X aP (d + 1) 130 [.int (zI ((b : Int))), .int (zI ((e : Int)))] (mkS w (hI S) J) = some (.inl (some (.long ((lN (b ^ e))))), (mkS w (hI S) J)) := by
  rw [go_X9_power, e_X9_power_0]
  have key : ∀ (j i n : Nat), i + j = e → j + 1 ≤ n → aR X d m_X9_power n 4 [some (.int (zI ((b : Int)))), some (.int (zI ((e : Int)))), some (.long ((lN (b ^ i)))), none, some (.int (zI ((i : Int))))] (0, 0) (mkS w (hI S) J) = some (.inl (some (.long ((lN (b ^ e))))), (mkS w (hI S) J)) := by
    intro j
    induction j with
    | zero =>
      intro i n h1 h2
      obtain ⟨n, rfl⟩ : ∃ n', n = n' + 1 := ⟨n - 1, by omega⟩
      have : i = e := by omega
      subst this
      rw [e_X9_power_4]
      simp (disch := omega) only [hk, hu, hI_n, hI_un, z_nat, em_d, zl, z_add, z_sub, z_mul, z_lt, z_eq, gI_mk, gJ_mk, cI_some, cV_some, cJ_some, cI_x, cV_x, cJ_x, uS_self, uS_ne, if_pos, if_neg, b01, b01n, ite_not, if_true, if_false]
      rfl
    | succ j ih =>
      intro i n h1 h2
      obtain ⟨n, rfl⟩ : ∃ n', n = n' + 1 := ⟨n - 1, by omega⟩
      have ih := ih (i + 1) n (by omega) (by omega)
      rw [show ((i + 1 : Nat) : Int) = (i : Int) + 1 by omega, Nat.pow_succ] at ih
      rw [e_X9_power_4]
      simp (disch := omega) only [hk, hu, hI_n, hI_un, z_nat, em_d, zl, z_add, z_sub, z_mul, z_lt, z_eq, gI_mk, gJ_mk, cI_some, cV_some, cJ_some, cI_x, cV_x, cJ_x, uS_self, uS_ne, if_pos, if_neg, b01, b01n, ite_not, if_true, if_false, z_64, Int.toNat_natCast, l_mul]
      exact ih
  exact key e 0 9999999 (by omega) (by omega)
end LUK
