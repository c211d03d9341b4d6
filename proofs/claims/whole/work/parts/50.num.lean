/-! PURE PART: NUMBERS. All ints as zI of an Int -/
def zI (z : Int) : Int32 := Int32.ofInt z
theorem z_nI (n : Nat) : nI n = zI (n : Int) := Int32.ofInt_eq_ofNat.symm
theorem z_m1 : nI 4294967295 = zI (-1) := by decide
theorem z_lit0 : (0 : Int32) = zI 0 := by decide
theorem z_lit1 : (1 : Int32) = zI 1 := by decide
theorem z_add (a b : Int) : zI a + zI b = zI (a + b) := (Int32.ofInt_add a b).symm
theorem z_sub (a b : Int) : zI a - zI b = zI (a - b) := (Int32.ofInt_sub a b).symm
theorem z_mul (a b : Int) : zI a * zI b = zI (a * b) := (Int32.ofInt_mul a b).symm
theorem z_of (x : Int32) : x = zI x.toInt := (Int32.ofInt_toInt x).symm
theorem z_toInt {a : Int} (h1 : -2147483648 ≤ a) (h2 : a < 2147483648) : (zI a).toInt = a := Int32.toInt_ofInt_of_le h1 h2
theorem z_lt {a b : Int} (h1 : -2147483648 ≤ a) (h2 : a < 2147483648) (h3 : -2147483648 ≤ b) (h4 : b < 2147483648) : zI a < zI b ↔ a < b := by
  rw [Int32.lt_iff_toInt_lt, z_toInt h1 h2, z_toInt h3 h4]
theorem z_le {a b : Int} (h1 : -2147483648 ≤ a) (h2 : a < 2147483648) (h3 : -2147483648 ≤ b) (h4 : b < 2147483648) : zI a ≤ zI b ↔ a ≤ b := by
  rw [Int32.le_iff_toInt_le, z_toInt h1 h2, z_toInt h3 h4]
theorem z_eq {a b : Int} (h1 : -2147483648 ≤ a) (h2 : a < 2147483648) (h3 : -2147483648 ≤ b) (h4 : b < 2147483648) : zI a = zI b ↔ a = b := by
  rw [← Int32.toInt_inj, z_toInt h1 h2, z_toInt h3 h4]
theorem z_nat {a : Int} (h1 : -2147483648 ≤ a) (h2 : a < 2147483648) : (zI a).toNatClampNeg = a.toNat := Int32.toNatClampNeg_ofInt_of_le h1 h2
theorem z_div {a b : Int} (h1 : 0 ≤ a) (h2 : a < 2147483648) (h3 : 0 < b) (h4 : b < 2147483648) : zI a / zI b = zI (a / b) := by
  rw [← Int.tdiv_eq_ediv_of_nonneg h1]
  exact (Int32.ofInt_tdiv (by show (-2147483648 : Int) ≤ a; omega) (by show a ≤ (2147483647 : Int); omega) (by show (-2147483648 : Int) ≤ b; omega) (by show b ≤ (2147483647 : Int); omega)).symm
theorem z_rem {a b : Int} (h1 : 0 ≤ a) (h2 : a < 2147483648) (h3 : 0 < b) (h4 : b < 2147483648) : zI a - zI a / zI b * zI b = zI (a % b) := by
  rw [z_div h1 h2 h3 h4, z_mul, z_sub, Int.emod_def, Int.mul_comm]
/-! the small machine's states -/
theorem gI_mk (w : Bool × Bool × Bool) (I : Nat → Nat → Int32) (J : Nat → Nat → Int64) : gI (mkS w I J) = I := id rfl
theorem gJ_mk (w : Bool × Bool × Bool) (I : Nat → Nat → Int32) (J : Nat → Nat → Int64) : gJ (mkS w I J) = J := id rfl
theorem uI_self (I : Nat → Nat → Int32) (o k : Nat) (v : Int32) : uI I o k v o k = v := by
  unfold uI
  rw [va_up_self, pk_us]
theorem uI_ne (I : Nat → Nat → Int32) {o k o' k' : Nat} (v : Int32) (h : o' ≠ o ∨ k' ≠ k) : uI I o k v o' k' = I o' k' := by
  unfold uI
  by_cases e : o' = o
  · subst e
    rw [va_up_self]
    exact pk_un (by rcases h with h | h; exact absurd rfl h; exact h)
  · rw [va_up_ne _ _ e]
theorem uI_row (I : Nat → Nat → Int32) {o k o' : Nat} (v : Int32) (h : o' ≠ o) : uI I o k v o' = I o' := by
  unfold uI
  exact va_up_ne _ _ h
theorem uI_at (I : Nat → Nat → Int32) (o k o' k' : Nat) (v : Int32) : uI I o k v o' k' = if o' = o ∧ k' = k then v else I o' k' := by
  by_cases h : o' = o ∧ k' = k
  · rw [if_pos h, h.1, h.2, uI_self]
  · rw [if_neg h, uI_ne]
    by_cases e : o' = o
    · exact Or.inr (fun z => h ⟨e, z⟩)
    · exact Or.inl e
theorem uI_uI (I : Nat → Nat → Int32) (o k : Nat) (v v' : Int32) : uI (uI I o k v) o k v' = uI I o k v' := by
  funext o' k'
  simp only [uI_at]
  by_cases h : o' = o ∧ k' = k
  · rw [if_pos h, if_pos h]
  · rw [if_neg h, if_neg h, if_neg h]
theorem uI_comm (I : Nat → Nat → Int32) {o k o2 k2 : Nat} (v v2 : Int32) (h : o ≠ o2 ∨ k ≠ k2) : uI (uI I o k v) o2 k2 v2 = uI (uI I o2 k2 v2) o k v := by
  funext o' k'
  simp only [uI_at]
  by_cases h1 : o' = o2 ∧ k' = k2
  · by_cases h2 : o' = o ∧ k' = k
    · exfalso
      rcases h with h | h
      · exact h (h2.1.symm.trans h1.1)
      · exact h (h2.2.symm.trans h1.2)
    · rw [if_pos h1, if_neg h2, if_pos h1]
  · rw [if_neg h1]
    by_cases h2 : o' = o ∧ k' = k
    · rw [if_pos h2, if_pos h2]
    · rw [if_neg h2, if_neg h2, if_neg h1]
/-! calls that have answered -/
theorem cI_some (r : Int32) (st : aSt) (f : Int32 → aSt → aRes) (h : Nat → aSt → aRes) : cI (some (.inl (some (.int r)), st)) f h = f r st := id rfl
theorem cJ_some (r : Int64) (st : aSt) (f : Int64 → aSt → aRes) (h : Nat → aSt → aRes) : cJ (some (.inl (some (.long r)), st)) f h = f r st := id rfl
theorem cV_some (st : aSt) (f : aSt → aRes) (h : Nat → aSt → aRes) : cV (some (.inl none, st)) f h = f st := id rfl
theorem cI_x (k : Nat) (st : aSt) (f : Int32 → aSt → aRes) (h : Nat → aSt → aRes) : cI (some (.inr k, st)) f h = h k st := id rfl
theorem cJ_x (k : Nat) (st : aSt) (f : Int64 → aSt → aRes) (h : Nat → aSt → aRes) : cJ (some (.inr k, st)) f h = h k st := id rfl
theorem cV_x (k : Nat) (st : aSt) (f : aSt → aRes) (h : Nat → aSt → aRes) : cV (some (.inr k, st)) f h = h k st := id rfl
/-! loops -/
def itr {σ : Type} (f : Nat → σ → σ) : Nat → Nat → σ → σ
  | 0, _, s => s
  | j + 1, k, s => itr f j (k + 1) (f k s)
/-- a loop that counts k up: R m k s is the run at its head with fuel m -/
theorem for_loop {σ α : Type} (R : Nat → Nat → σ → α) (f : Nat → σ → σ) (P : Nat → σ → Prop) (n : Nat) (step : ∀ m k s, k < n → P k s → R (m + 1) k s = R m (k + 1) (f k s)) (pres : ∀ k s, k < n → P k s → P (k + 1) (f k s)) : ∀ j k s m, k + j = n → P k s → R (m + j) k s = R m n (itr f j k s) ∧ P n (itr f j k s)
  | 0, k, s, m, h, hp => by
    have : k = n := by omega
    subst this
    exact ⟨rfl, hp⟩
  | j + 1, k, s, m, h, hp => by
    obtain ⟨h1, h2⟩ := for_loop R f P n step pres j (k + 1) (f k s) m (by omega) (pres k s (by omega) hp)
    exact ⟨(step (m + j) k s (by omega) hp).trans h1, h2⟩
/-- every number that the code names -/
theorem zl : ((0 : Int32) = zI 0) ∧ (nI 0 = zI 0) ∧ (nI 1 = zI 1) ∧ (nI 2 = zI 2) ∧ (nI 3 = zI 3) ∧ (nI 4 = zI 4) ∧ (nI 5 = zI 5) ∧ (nI 6 = zI 6) ∧ (nI 7 = zI 7) ∧ (nI 8 = zI 8) ∧ (nI 9 = zI 9) ∧ (nI 10 = zI 10) ∧ (nI 11 = zI 11) ∧ (nI 12 = zI 12) ∧ (nI 13 = zI 13) ∧ (nI 14 = zI 14) ∧ (nI 15 = zI 15) ∧ (nI 16 = zI 16) ∧ (nI 17 = zI 17) ∧ (nI 18 = zI 18) ∧ (nI 19 = zI 19) ∧ (nI 20 = zI 20) ∧ (nI 21 = zI 21) ∧ (nI 22 = zI 22) ∧ (nI 23 = zI 23) ∧ (nI 24 = zI 24) ∧ (nI 25 = zI 25) ∧ (nI 26 = zI 26) ∧ (nI 27 = zI 27) ∧ (nI 28 = zI 28) ∧ (nI 29 = zI 29) ∧ (nI 30 = zI 30) ∧ (nI 31 = zI 31) ∧ (nI 32 = zI 32) ∧ (nI 33 = zI 33) ∧ (nI 34 = zI 34) ∧ (nI 35 = zI 35) ∧ (nI 37 = zI 37) ∧ (nI 39 = zI 39) ∧ (nI 40 = zI 40) ∧ (nI 41 = zI 41) ∧ (nI 42 = zI 42) ∧ (nI 43 = zI 43) ∧ (nI 44 = zI 44) ∧ (nI 45 = zI 45) ∧ (nI 47 = zI 47) ∧ (nI 48 = zI 48) ∧ (nI 49 = zI 49) ∧ (nI 50 = zI 50) ∧ (nI 51 = zI 51) ∧ (nI 55 = zI 55) ∧ (nI 56 = zI 56) ∧ (nI 57 = zI 57) ∧ (nI 58 = zI 58) ∧ (nI 59 = zI 59) ∧ (nI 60 = zI 60) ∧ (nI 61 = zI 61) ∧ (nI 63 = zI 63) ∧ (nI 91 = zI 91) ∧ (nI 93 = zI 93) ∧ (nI 95 = zI 95) ∧ (nI 96 = zI 96) ∧ (nI 97 = zI 97) ∧ (nI 99 = zI 99) ∧ (nI 100 = zI 100) ∧ (nI 122 = zI 122) ∧ (nI 125 = zI 125) ∧ (nI 150 = zI 150) ∧ (nI 200 = zI 200) ∧ (nI 255 = zI 255) ∧ (nI 495 = zI 495) ∧ (nI 600 = zI 600) ∧ (nI 816 = zI 816) ∧ (nI 868 = zI 868) ∧ (nI 999 = zI 999) ∧ (nI 5600 = zI 5600) ∧ (nI 9999 = zI 9999) ∧ (nI 10000 = zI 10000) ∧ (nI 12345 = zI 12345) ∧ (nI 32767 = zI 32767) ∧ (nI 100000 = zI 100000) ∧ (nI 252645135 = zI 252645135) ∧ (nI 858993459 = zI 858993459) ∧ (nI 1103515245 = zI 1103515245) ∧ (nI 1431655765 = zI 1431655765) ∧ (nI 2147483647 = zI 2147483647) ∧ (nI 4294967276 = zI (-20)) ∧ (nI 4294967295 = zI (-1)) :=
  ⟨rfl, z_nI 0, z_nI 1, z_nI 2, z_nI 3, z_nI 4, z_nI 5, z_nI 6, z_nI 7, z_nI 8, z_nI 9, z_nI 10, z_nI 11, z_nI 12, z_nI 13, z_nI 14, z_nI 15, z_nI 16, z_nI 17, z_nI 18, z_nI 19, z_nI 20, z_nI 21, z_nI 22, z_nI 23, z_nI 24, z_nI 25, z_nI 26, z_nI 27, z_nI 28, z_nI 29, z_nI 30, z_nI 31, z_nI 32, z_nI 33, z_nI 34, z_nI 35, z_nI 37, z_nI 39, z_nI 40, z_nI 41, z_nI 42, z_nI 43, z_nI 44, z_nI 45, z_nI 47, z_nI 48, z_nI 49, z_nI 50, z_nI 51, z_nI 55, z_nI 56, z_nI 57, z_nI 58, z_nI 59, z_nI 60, z_nI 61, z_nI 63, z_nI 91, z_nI 93, z_nI 95, z_nI 96, z_nI 97, z_nI 99, z_nI 100, z_nI 122, z_nI 125, z_nI 150, z_nI 200, z_nI 255, z_nI 495, z_nI 600, z_nI 816, z_nI 868, z_nI 999, z_nI 5600, z_nI 9999, z_nI 10000, z_nI 12345, z_nI 32767, z_nI 100000, z_nI 252645135, z_nI 858993459, z_nI 1103515245, z_nI 1431655765, z_nI 2147483647, (by decide), (by decide)⟩
theorem z_0 : nI 0 = zI 0 := z_nI 0
theorem z_1 : nI 1 = zI 1 := z_nI 1
theorem z_2 : nI 2 = zI 2 := z_nI 2
theorem z_lit (n : Nat) : nI n = zI (n : Int) := z_nI n
theorem z_bok1 : bok (zI 1) = true := by decide
theorem z_bok0 : bok (zI 0) = true := by decide
/-! HEAPS OF INTS -/
abbrev Hp : Type := Nat → Int → Int
def hI (S : Hp) : Nat → Nat → Int32 := fun o k => zI (S o (k : Int))
def uS (S : Hp) (o : Nat) (a v : Int) : Hp := fun o' a' => if o' = o ∧ a' = a then v else S o' a'
theorem uS_at (S : Hp) (o : Nat) (a v : Int) (o' : Nat) (a' : Int) : uS S o a v o' a' = if o' = o ∧ a' = a then v else S o' a' := rfl
theorem uS_self (S : Hp) (o : Nat) (a v : Int) : uS S o a v o a = v := by
  rw [uS_at, if_pos ⟨rfl, rfl⟩]
theorem uS_ne (S : Hp) {o o' : Nat} {a a' : Int} (v : Int) (h : o' ≠ o ∨ a' ≠ a) : uS S o a v o' a' = S o' a' := by
  rw [uS_at, if_neg (fun z => by rcases h with h | h; exact h z.1; exact h z.2)]
theorem uS_row (S : Hp) {o o' : Nat} (a v : Int) (h : o' ≠ o) : uS S o a v o' = S o' := by
  funext a'
  exact uS_ne S v (Or.inl h)
theorem hI_at (S : Hp) (o k : Nat) : hI S o k = zI (S o (k : Int)) := rfl
theorem hI_n (S : Hp) (o : Nat) {a : Int} (h1 : 0 ≤ a) : hI S o a.toNat = zI (S o a) := by
  rw [hI_at, Int.toNat_of_nonneg h1]
theorem hI_uk (S : Hp) (o k : Nat) (v : Int) : uI (hI S) o k (zI v) = hI (uS S o (k : Int) v) := by
  funext o' k'
  rw [uI_at, hI_at, hI_at, uS_at]
  by_cases h : o' = o ∧ k' = k
  · rw [if_pos h, if_pos ⟨h.1, by rw [h.2]⟩]
  · rw [if_neg h, if_neg (fun z => h ⟨z.1, by omega⟩)]
theorem hI_un (S : Hp) (o : Nat) {a : Int} (v : Int) (h1 : 0 ≤ a) : uI (hI S) o a.toNat (zI v) = hI (uS S o a v) := by
  rw [hI_uk, Int.toNat_of_nonneg h1]
theorem hI_uv (S : Hp) (o : Nat) {a : Int} (v : Int32) (h1 : 0 ≤ a) : uI (hI S) o a.toNat v = hI (uS S o a v.toInt) := by
  conv => lhs; rw [z_of v]
  exact hI_un S o v.toInt h1
theorem em_d (a c : Int) : a - a / c * c = a % c := by
  rw [Int.emod_def, Int.mul_comm]
theorem hI_ex (I : Nat → Nat → Int32) : ∃ S, I = hI S := ⟨fun o a => (I o a.toNat).toInt, by
  funext o k
  rw [hI_at, Int.toNat_natCast]
  exact z_of _⟩
theorem bd {α : Type} {a : Int} {L : Nat} {x y : α} (h1 : 0 ≤ a) (h2 : a < (L : Int)) (h3 : (L : Int) < 2147483648) : (if zI a < 0 ∨ L ≤ (zI a).toNatClampNeg then y else x) = x := by
  rw [if_neg]
  rw [z_lit0, z_lt (by omega) (by omega) (by omega) (by omega), z_nat (by omega) (by omega)]
  omega
theorem b01 (P : Prop) [Decidable P] : (zI (if P then 1 else 0) = zI 0) = ¬ P := by
  by_cases h : P
  · rw [if_pos h]
    exact propext ⟨fun z => absurd z (by decide), fun z => absurd h z⟩
  · rw [if_neg h]
    exact propext ⟨fun _ => h, fun _ => rfl⟩
theorem b01n (P : Prop) [Decidable P] : (zI (if P then 1 else 0) = zI 1) = P := by
  by_cases h : P
  · rw [if_pos h]
    exact propext ⟨fun _ => h, fun _ => rfl⟩
  · rw [if_neg h]
    exact propext ⟨fun z => absurd z (by decide), fun z => absurd z h⟩
theorem iL_c (b : Bool) : iL b = 100 ∨ iL b = 107 := by cases b <;> decide
theorem iW_c (b : Bool) : iW b = 114 ∨ iW b = 119 := by cases b <;> decide
theorem iB_c (b : Bool) : iB b = 124 ∨ iB b = 128 := by cases b <;> decide
theorem iS_c (b : Bool) : iS b = 8 ∨ iS b = 17 := by cases b <;> decide
theorem iL_n (b : Bool) : iL (!b) = 207 - iL b := by cases b <;> decide
theorem iW_n (b : Bool) : iW (!b) = 233 - iW b := by cases b <;> decide
theorem iB_n (b : Bool) : iB (!b) = 252 - iB b := by cases b <;> decide
theorem hk : (∀ (S : Hp) (o : Nat), hI S o 0 = zI (S o 0)) ∧ (∀ (S : Hp) (o : Nat), hI S o 1 = zI (S o 1)) ∧ (∀ (S : Hp) (o : Nat), hI S o 2 = zI (S o 2)) ∧ (∀ (S : Hp) (o : Nat), hI S o 3 = zI (S o 3)) ∧ (∀ (S : Hp) (o : Nat), hI S o 4 = zI (S o 4)) ∧ (∀ (S : Hp) (o : Nat), hI S o 5 = zI (S o 5)) ∧ (∀ (S : Hp) (o : Nat), hI S o 6 = zI (S o 6)) ∧ (∀ (S : Hp) (o : Nat), hI S o 7 = zI (S o 7)) ∧ (∀ (S : Hp) (o : Nat), hI S o 8 = zI (S o 8)) ∧ (∀ (S : Hp) (o : Nat), hI S o 9 = zI (S o 9)) ∧ (∀ (S : Hp) (o : Nat), hI S o 10 = zI (S o 10)) ∧ (∀ (S : Hp) (o : Nat), hI S o 11 = zI (S o 11)) ∧ (∀ (S : Hp) (o : Nat), hI S o 12 = zI (S o 12)) ∧ (∀ (S : Hp) (o : Nat), hI S o 13 = zI (S o 13)) ∧ (∀ (S : Hp) (o : Nat), hI S o 14 = zI (S o 14)) ∧ (∀ (S : Hp) (o : Nat), hI S o 15 = zI (S o 15)) ∧ (∀ (S : Hp) (o : Nat), hI S o 16 = zI (S o 16)) ∧ (∀ (S : Hp) (o : Nat), hI S o 17 = zI (S o 17)) ∧ (∀ (S : Hp) (o : Nat), hI S o 18 = zI (S o 18)) ∧ (∀ (S : Hp) (o : Nat), hI S o 19 = zI (S o 19)) ∧ (∀ (S : Hp) (o : Nat), hI S o 20 = zI (S o 20)) ∧ (∀ (S : Hp) (o : Nat), hI S o 21 = zI (S o 21)) ∧ (∀ (S : Hp) (o : Nat), hI S o 22 = zI (S o 22)) ∧ (∀ (S : Hp) (o : Nat), hI S o 23 = zI (S o 23)) ∧ (∀ (S : Hp) (o : Nat), hI S o 24 = zI (S o 24)) ∧ (∀ (S : Hp) (o : Nat), hI S o 25 = zI (S o 25)) ∧ (∀ (S : Hp) (o : Nat), hI S o 26 = zI (S o 26)) ∧ (∀ (S : Hp) (o : Nat), hI S o 27 = zI (S o 27)) ∧ (∀ (S : Hp) (o : Nat), hI S o 28 = zI (S o 28)) ∧ (∀ (S : Hp) (o : Nat), hI S o 29 = zI (S o 29)) ∧ (∀ (S : Hp) (o : Nat), hI S o 30 = zI (S o 30)) ∧ (∀ (S : Hp) (o : Nat), hI S o 31 = zI (S o 31)) ∧ (∀ (S : Hp) (o : Nat), hI S o 32 = zI (S o 32)) ∧ (∀ (S : Hp) (o : Nat), hI S o 33 = zI (S o 33)) ∧ (∀ (S : Hp) (o : Nat), hI S o 34 = zI (S o 34)) ∧ (∀ (S : Hp) (o : Nat), hI S o 35 = zI (S o 35)) ∧ (∀ (S : Hp) (o : Nat), hI S o 36 = zI (S o 36)) ∧ (∀ (S : Hp) (o : Nat), hI S o 37 = zI (S o 37)) ∧ (∀ (S : Hp) (o : Nat), hI S o 38 = zI (S o 38)) ∧ (∀ (S : Hp) (o : Nat), hI S o 39 = zI (S o 39)) ∧ (∀ (S : Hp) (o : Nat), hI S o 40 = zI (S o 40)) ∧ (∀ (S : Hp) (o : Nat), hI S o 41 = zI (S o 41)) ∧ (∀ (S : Hp) (o : Nat), hI S o 42 = zI (S o 42)) ∧ (∀ (S : Hp) (o : Nat), hI S o 43 = zI (S o 43)) ∧ (∀ (S : Hp) (o : Nat), hI S o 44 = zI (S o 44)) ∧ (∀ (S : Hp) (o : Nat), hI S o 45 = zI (S o 45)) ∧ (∀ (S : Hp) (o : Nat), hI S o 46 = zI (S o 46)) ∧ (∀ (S : Hp) (o : Nat), hI S o 47 = zI (S o 47)) ∧ (∀ (S : Hp) (o : Nat), hI S o 48 = zI (S o 48)) ∧ (∀ (S : Hp) (o : Nat), hI S o 49 = zI (S o 49)) ∧ (∀ (S : Hp) (o : Nat), hI S o 50 = zI (S o 50)) :=
  ⟨fun _ _ => rfl, fun _ _ => rfl, fun _ _ => rfl, fun _ _ => rfl, fun _ _ => rfl, fun _ _ => rfl, fun _ _ => rfl, fun _ _ => rfl, fun _ _ => rfl, fun _ _ => rfl, fun _ _ => rfl, fun _ _ => rfl, fun _ _ => rfl, fun _ _ => rfl, fun _ _ => rfl, fun _ _ => rfl, fun _ _ => rfl, fun _ _ => rfl, fun _ _ => rfl, fun _ _ => rfl, fun _ _ => rfl, fun _ _ => rfl, fun _ _ => rfl, fun _ _ => rfl, fun _ _ => rfl, fun _ _ => rfl, fun _ _ => rfl, fun _ _ => rfl, fun _ _ => rfl, fun _ _ => rfl, fun _ _ => rfl, fun _ _ => rfl, fun _ _ => rfl, fun _ _ => rfl, fun _ _ => rfl, fun _ _ => rfl, fun _ _ => rfl, fun _ _ => rfl, fun _ _ => rfl, fun _ _ => rfl, fun _ _ => rfl, fun _ _ => rfl, fun _ _ => rfl, fun _ _ => rfl, fun _ _ => rfl, fun _ _ => rfl, fun _ _ => rfl, fun _ _ => rfl, fun _ _ => rfl, fun _ _ => rfl, fun _ _ => rfl⟩
theorem hu : (∀ (S : Hp) (o : Nat) (v : Int), uI (hI S) o 0 (zI v) = hI (uS S o 0 v)) ∧ (∀ (S : Hp) (o : Nat) (v : Int), uI (hI S) o 1 (zI v) = hI (uS S o 1 v)) ∧ (∀ (S : Hp) (o : Nat) (v : Int), uI (hI S) o 2 (zI v) = hI (uS S o 2 v)) ∧ (∀ (S : Hp) (o : Nat) (v : Int), uI (hI S) o 3 (zI v) = hI (uS S o 3 v)) ∧ (∀ (S : Hp) (o : Nat) (v : Int), uI (hI S) o 4 (zI v) = hI (uS S o 4 v)) ∧ (∀ (S : Hp) (o : Nat) (v : Int), uI (hI S) o 5 (zI v) = hI (uS S o 5 v)) ∧ (∀ (S : Hp) (o : Nat) (v : Int), uI (hI S) o 6 (zI v) = hI (uS S o 6 v)) ∧ (∀ (S : Hp) (o : Nat) (v : Int), uI (hI S) o 7 (zI v) = hI (uS S o 7 v)) ∧ (∀ (S : Hp) (o : Nat) (v : Int), uI (hI S) o 8 (zI v) = hI (uS S o 8 v)) ∧ (∀ (S : Hp) (o : Nat) (v : Int), uI (hI S) o 9 (zI v) = hI (uS S o 9 v)) ∧ (∀ (S : Hp) (o : Nat) (v : Int), uI (hI S) o 10 (zI v) = hI (uS S o 10 v)) ∧ (∀ (S : Hp) (o : Nat) (v : Int), uI (hI S) o 11 (zI v) = hI (uS S o 11 v)) ∧ (∀ (S : Hp) (o : Nat) (v : Int), uI (hI S) o 12 (zI v) = hI (uS S o 12 v)) ∧ (∀ (S : Hp) (o : Nat) (v : Int), uI (hI S) o 13 (zI v) = hI (uS S o 13 v)) ∧ (∀ (S : Hp) (o : Nat) (v : Int), uI (hI S) o 14 (zI v) = hI (uS S o 14 v)) ∧ (∀ (S : Hp) (o : Nat) (v : Int), uI (hI S) o 15 (zI v) = hI (uS S o 15 v)) ∧ (∀ (S : Hp) (o : Nat) (v : Int), uI (hI S) o 16 (zI v) = hI (uS S o 16 v)) ∧ (∀ (S : Hp) (o : Nat) (v : Int), uI (hI S) o 17 (zI v) = hI (uS S o 17 v)) ∧ (∀ (S : Hp) (o : Nat) (v : Int), uI (hI S) o 18 (zI v) = hI (uS S o 18 v)) ∧ (∀ (S : Hp) (o : Nat) (v : Int), uI (hI S) o 19 (zI v) = hI (uS S o 19 v)) ∧ (∀ (S : Hp) (o : Nat) (v : Int), uI (hI S) o 20 (zI v) = hI (uS S o 20 v)) ∧ (∀ (S : Hp) (o : Nat) (v : Int), uI (hI S) o 21 (zI v) = hI (uS S o 21 v)) ∧ (∀ (S : Hp) (o : Nat) (v : Int), uI (hI S) o 22 (zI v) = hI (uS S o 22 v)) ∧ (∀ (S : Hp) (o : Nat) (v : Int), uI (hI S) o 23 (zI v) = hI (uS S o 23 v)) ∧ (∀ (S : Hp) (o : Nat) (v : Int), uI (hI S) o 24 (zI v) = hI (uS S o 24 v)) ∧ (∀ (S : Hp) (o : Nat) (v : Int), uI (hI S) o 25 (zI v) = hI (uS S o 25 v)) ∧ (∀ (S : Hp) (o : Nat) (v : Int), uI (hI S) o 26 (zI v) = hI (uS S o 26 v)) ∧ (∀ (S : Hp) (o : Nat) (v : Int), uI (hI S) o 27 (zI v) = hI (uS S o 27 v)) ∧ (∀ (S : Hp) (o : Nat) (v : Int), uI (hI S) o 28 (zI v) = hI (uS S o 28 v)) ∧ (∀ (S : Hp) (o : Nat) (v : Int), uI (hI S) o 29 (zI v) = hI (uS S o 29 v)) ∧ (∀ (S : Hp) (o : Nat) (v : Int), uI (hI S) o 30 (zI v) = hI (uS S o 30 v)) ∧ (∀ (S : Hp) (o : Nat) (v : Int), uI (hI S) o 31 (zI v) = hI (uS S o 31 v)) ∧ (∀ (S : Hp) (o : Nat) (v : Int), uI (hI S) o 32 (zI v) = hI (uS S o 32 v)) ∧ (∀ (S : Hp) (o : Nat) (v : Int), uI (hI S) o 33 (zI v) = hI (uS S o 33 v)) ∧ (∀ (S : Hp) (o : Nat) (v : Int), uI (hI S) o 34 (zI v) = hI (uS S o 34 v)) ∧ (∀ (S : Hp) (o : Nat) (v : Int), uI (hI S) o 35 (zI v) = hI (uS S o 35 v)) ∧ (∀ (S : Hp) (o : Nat) (v : Int), uI (hI S) o 36 (zI v) = hI (uS S o 36 v)) ∧ (∀ (S : Hp) (o : Nat) (v : Int), uI (hI S) o 37 (zI v) = hI (uS S o 37 v)) ∧ (∀ (S : Hp) (o : Nat) (v : Int), uI (hI S) o 38 (zI v) = hI (uS S o 38 v)) ∧ (∀ (S : Hp) (o : Nat) (v : Int), uI (hI S) o 39 (zI v) = hI (uS S o 39 v)) ∧ (∀ (S : Hp) (o : Nat) (v : Int), uI (hI S) o 40 (zI v) = hI (uS S o 40 v)) ∧ (∀ (S : Hp) (o : Nat) (v : Int), uI (hI S) o 41 (zI v) = hI (uS S o 41 v)) ∧ (∀ (S : Hp) (o : Nat) (v : Int), uI (hI S) o 42 (zI v) = hI (uS S o 42 v)) ∧ (∀ (S : Hp) (o : Nat) (v : Int), uI (hI S) o 43 (zI v) = hI (uS S o 43 v)) ∧ (∀ (S : Hp) (o : Nat) (v : Int), uI (hI S) o 44 (zI v) = hI (uS S o 44 v)) ∧ (∀ (S : Hp) (o : Nat) (v : Int), uI (hI S) o 45 (zI v) = hI (uS S o 45 v)) ∧ (∀ (S : Hp) (o : Nat) (v : Int), uI (hI S) o 46 (zI v) = hI (uS S o 46 v)) ∧ (∀ (S : Hp) (o : Nat) (v : Int), uI (hI S) o 47 (zI v) = hI (uS S o 47 v)) ∧ (∀ (S : Hp) (o : Nat) (v : Int), uI (hI S) o 48 (zI v) = hI (uS S o 48 v)) ∧ (∀ (S : Hp) (o : Nat) (v : Int), uI (hI S) o 49 (zI v) = hI (uS S o 49 v)) ∧ (∀ (S : Hp) (o : Nat) (v : Int), uI (hI S) o 50 (zI v) = hI (uS S o 50 v)) :=
  ⟨fun S o v => hI_uk S o 0 v, fun S o v => hI_uk S o 1 v, fun S o v => hI_uk S o 2 v, fun S o v => hI_uk S o 3 v, fun S o v => hI_uk S o 4 v, fun S o v => hI_uk S o 5 v, fun S o v => hI_uk S o 6 v, fun S o v => hI_uk S o 7 v, fun S o v => hI_uk S o 8 v, fun S o v => hI_uk S o 9 v, fun S o v => hI_uk S o 10 v, fun S o v => hI_uk S o 11 v, fun S o v => hI_uk S o 12 v, fun S o v => hI_uk S o 13 v, fun S o v => hI_uk S o 14 v, fun S o v => hI_uk S o 15 v, fun S o v => hI_uk S o 16 v, fun S o v => hI_uk S o 17 v, fun S o v => hI_uk S o 18 v, fun S o v => hI_uk S o 19 v, fun S o v => hI_uk S o 20 v, fun S o v => hI_uk S o 21 v, fun S o v => hI_uk S o 22 v, fun S o v => hI_uk S o 23 v, fun S o v => hI_uk S o 24 v, fun S o v => hI_uk S o 25 v, fun S o v => hI_uk S o 26 v, fun S o v => hI_uk S o 27 v, fun S o v => hI_uk S o 28 v, fun S o v => hI_uk S o 29 v, fun S o v => hI_uk S o 30 v, fun S o v => hI_uk S o 31 v, fun S o v => hI_uk S o 32 v, fun S o v => hI_uk S o 33 v, fun S o v => hI_uk S o 34 v, fun S o v => hI_uk S o 35 v, fun S o v => hI_uk S o 36 v, fun S o v => hI_uk S o 37 v, fun S o v => hI_uk S o 38 v, fun S o v => hI_uk S o 39 v, fun S o v => hI_uk S o 40 v, fun S o v => hI_uk S o 41 v, fun S o v => hI_uk S o 42 v, fun S o v => hI_uk S o 43 v, fun S o v => hI_uk S o 44 v, fun S o v => hI_uk S o 45 v, fun S o v => hI_uk S o 46 v, fun S o v => hI_uk S o 47 v, fun S o v => hI_uk S o 48 v, fun S o v => hI_uk S o 49 v, fun S o v => hI_uk S o 50 v⟩
/-- how long the arrays of the class's twos are -/
theorem hLL : (∀ b : Bool, LL (iS b + 1) = 12) ∧ (∀ b : Bool, KK (iS b + 1) = 10) ∧ (∀ b : Bool, (iS b + 1 < 1000000) = True) ∧ (∀ b : Bool, LL (iS b + 2) = 12) ∧ (∀ b : Bool, KK (iS b + 2) = 10) ∧ (∀ b : Bool, (iS b + 2 < 1000000) = True) ∧ (∀ b : Bool, LL (iS b + 3) = 5) ∧ (∀ b : Bool, KK (iS b + 3) = 10) ∧ (∀ b : Bool, (iS b + 3 < 1000000) = True) ∧ (∀ b : Bool, LL (iS b + 4) = 5) ∧ (∀ b : Bool, KK (iS b + 4) = 10) ∧ (∀ b : Bool, (iS b + 4 < 1000000) = True) ∧ (∀ b : Bool, LL (iS b + 5) = 5) ∧ (∀ b : Bool, KK (iS b + 5) = 10) ∧ (∀ b : Bool, (iS b + 5 < 1000000) = True) ∧ (∀ b : Bool, LL (iS b + 6) = 5) ∧ (∀ b : Bool, KK (iS b + 6) = 10) ∧ (∀ b : Bool, (iS b + 6 < 1000000) = True) ∧ (∀ b : Bool, LL (iS b + 7) = 5) ∧ (∀ b : Bool, KK (iS b + 7) = 10) ∧ (∀ b : Bool, (iS b + 7 < 1000000) = True) ∧ (∀ b : Bool, LL (iS b + 8) = 51) ∧ (∀ b : Bool, KK (iS b + 8) = 10) ∧ (∀ b : Bool, (iS b + 8 < 1000000) = True) ∧ (∀ b : Bool, LL (iL b + 1) = 12) ∧ (∀ b : Bool, KK (iL b + 1) = 10) ∧ (∀ b : Bool, (iL b + 1 < 1000000) = True) ∧ (∀ b : Bool, LL (iL b + 2) = 12) ∧ (∀ b : Bool, KK (iL b + 2) = 10) ∧ (∀ b : Bool, (iL b + 2 < 1000000) = True) ∧ (∀ b : Bool, LL (iL b + 3) = 12) ∧ (∀ b : Bool, KK (iL b + 3) = 10) ∧ (∀ b : Bool, (iL b + 3 < 1000000) = True) ∧ (∀ b : Bool, LL (iL b + 4) = 12) ∧ (∀ b : Bool, KK (iL b + 4) = 10) ∧ (∀ b : Bool, (iL b + 4 < 1000000) = True) ∧ (∀ b : Bool, LL (iL b + 5) = 5) ∧ (∀ b : Bool, KK (iL b + 5) = 10) ∧ (∀ b : Bool, (iL b + 5 < 1000000) = True) ∧ (∀ b : Bool, LL (iL b + 6) = 5) ∧ (∀ b : Bool, KK (iL b + 6) = 10) ∧ (∀ b : Bool, (iL b + 6 < 1000000) = True) ∧ (∀ b : Bool, LL (iW b + 1) = 150) ∧ (∀ b : Bool, KK (iW b + 1) = 10) ∧ (∀ b : Bool, (iW b + 1 < 1000000) = True) ∧ (∀ b : Bool, LL (iW b + 2) = 150) ∧ (∀ b : Bool, KK (iW b + 2) = 10) ∧ (∀ b : Bool, (iW b + 2 < 1000000) = True) ∧ (∀ b : Bool, LL (iW b + 3) = 150) ∧ (∀ b : Bool, KK (iW b + 3) = 10) ∧ (∀ b : Bool, (iW b + 3 < 1000000) = True) ∧ (∀ b : Bool, LL (iW b + 4) = 8) ∧ (∀ b : Bool, KK (iW b + 4) = 10) ∧ (∀ b : Bool, (iW b + 4 < 1000000) = True) ∧ (∀ b : Bool, LL (iB b + 1) = 6) ∧ (∀ b : Bool, KK (iB b + 1) = 10) ∧ (∀ b : Bool, (iB b + 1 < 1000000) = True) ∧ (∀ b : Bool, LL (iB b + 2) = 6) ∧ (∀ b : Bool, KK (iB b + 2) = 10) ∧ (∀ b : Bool, (iB b + 2 < 1000000) = True) ∧ (∀ b : Bool, LL (iB b + 3) = 7) ∧ (∀ b : Bool, KK (iB b + 3) = 10) ∧ (∀ b : Bool, (iB b + 3 < 1000000) = True) :=
  ⟨(fun b => by cases b <;> rfl), (fun b => by cases b <;> rfl), (fun b => by cases b <;> exact eq_true (by decide)), (fun b => by cases b <;> rfl), (fun b => by cases b <;> rfl), (fun b => by cases b <;> exact eq_true (by decide)), (fun b => by cases b <;> rfl), (fun b => by cases b <;> rfl), (fun b => by cases b <;> exact eq_true (by decide)), (fun b => by cases b <;> rfl), (fun b => by cases b <;> rfl), (fun b => by cases b <;> exact eq_true (by decide)), (fun b => by cases b <;> rfl), (fun b => by cases b <;> rfl), (fun b => by cases b <;> exact eq_true (by decide)), (fun b => by cases b <;> rfl), (fun b => by cases b <;> rfl), (fun b => by cases b <;> exact eq_true (by decide)), (fun b => by cases b <;> rfl), (fun b => by cases b <;> rfl), (fun b => by cases b <;> exact eq_true (by decide)), (fun b => by cases b <;> rfl), (fun b => by cases b <;> rfl), (fun b => by cases b <;> exact eq_true (by decide)), (fun b => by cases b <;> rfl), (fun b => by cases b <;> rfl), (fun b => by cases b <;> exact eq_true (by decide)), (fun b => by cases b <;> rfl), (fun b => by cases b <;> rfl), (fun b => by cases b <;> exact eq_true (by decide)), (fun b => by cases b <;> rfl), (fun b => by cases b <;> rfl), (fun b => by cases b <;> exact eq_true (by decide)), (fun b => by cases b <;> rfl), (fun b => by cases b <;> rfl), (fun b => by cases b <;> exact eq_true (by decide)), (fun b => by cases b <;> rfl), (fun b => by cases b <;> rfl), (fun b => by cases b <;> exact eq_true (by decide)), (fun b => by cases b <;> rfl), (fun b => by cases b <;> rfl), (fun b => by cases b <;> exact eq_true (by decide)), (fun b => by cases b <;> rfl), (fun b => by cases b <;> rfl), (fun b => by cases b <;> exact eq_true (by decide)), (fun b => by cases b <;> rfl), (fun b => by cases b <;> rfl), (fun b => by cases b <;> exact eq_true (by decide)), (fun b => by cases b <;> rfl), (fun b => by cases b <;> rfl), (fun b => by cases b <;> exact eq_true (by decide)), (fun b => by cases b <;> rfl), (fun b => by cases b <;> rfl), (fun b => by cases b <;> exact eq_true (by decide)), (fun b => by cases b <;> rfl), (fun b => by cases b <;> rfl), (fun b => by cases b <;> exact eq_true (by decide)), (fun b => by cases b <;> rfl), (fun b => by cases b <;> rfl), (fun b => by cases b <;> exact eq_true (by decide)), (fun b => by cases b <;> rfl), (fun b => by cases b <;> rfl), (fun b => by cases b <;> exact eq_true (by decide))⟩
theorem hLL_kw (b : Bool) : KK (iW b + 4) = 10 := by cases b <;> rfl
theorem hLL_lw (b : Bool) : LL (iW b + 4) = 8 := by cases b <;> rfl
/-! LOOPS that count k up -/
def fold {α : Type} (g : Int → α → α) : Nat → Int → α → α
  | 0, _, a => a
  | j + 1, k, a => fold g j (k + 1) (g k a)
theorem fold_succ {α : Type} (g : Int → α → α) : ∀ (j : Nat) (k : Int) (a : α), fold g (j + 1) k a = g (k + j) (fold g j k a)
  | 0, k, a => by
    show g k a = g (k + ((0 : Nat) : Int)) a
    rw [show k + ((0 : Nat) : Int) = k by omega]
  | j + 1, k, a => by
    show fold g (j + 1) (k + 1) (g k a) = g (k + ((j + 1 : Nat) : Int)) (fold g j (k + 1) (g k a))
    rw [fold_succ g j (k + 1) (g k a), show k + 1 + (j : Int) = k + ((j + 1 : Nat) : Int) by omega]
/-- steps of one unit of fuel each, then the end -/
theorem loopA {α : Type} (R : Nat → Int → α → aRes) (g : Int → α → α) (V : Int → α → Prop) (K : Int) (c : Nat) (res : α → aRes) (step : ∀ n k a, 0 ≤ k → k < K → V k a → R (n + 1) k a = R n (k + 1) (g k a)) (pres : ∀ k a, 0 ≤ k → k < K → V k a → V (k + 1) (g k a)) (exit : ∀ n a, c ≤ n → V K a → R n K a = res a) : ∀ (j : Nat) (k : Int) (a : α), 0 ≤ k → k + j = K → V k a → ∀ n, c + j ≤ n → R n k a = res (fold g j k a)
  | 0, k, a, _, h, hv, n, hn => by
    have : k = K := by omega
    subst this
    exact exit n a (by omega) hv
  | j + 1, k, a, h0, h, hv, n, hn => by
    obtain ⟨n, rfl⟩ : ∃ m, n = m + 1 := ⟨n - 1, by omega⟩
    rw [step n k a h0 (by omega) hv]
    exact loopA R g V K c res step pres exit j (k + 1) (g k a) (by omega) (by omega) (pres k a h0 (by omega) hv) n (by omega)
/-- steps of c1 units of fuel at most -/
theorem loopB {α : Type} (R : Nat → Int → α → aRes) (g : Int → α → α) (V : Int → α → Prop) (K : Int) (c c1 : Nat) (res : α → aRes) (step : ∀ n k a, 0 ≤ k → k < K → V k a → c1 ≤ n → ∃ n', n ≤ n' + c1 ∧ R n k a = R n' (k + 1) (g k a)) (pres : ∀ k a, 0 ≤ k → k < K → V k a → V (k + 1) (g k a)) (exit : ∀ n a, c ≤ n → V K a → R n K a = res a) : ∀ (j : Nat) (k : Int) (a : α), 0 ≤ k → k + j = K → V k a → ∀ n, c + c1 * j ≤ n → R n k a = res (fold g j k a)
  | 0, k, a, _, h, hv, n, hn => by
    have : k = K := by omega
    subst this
    exact exit n a (by omega) hv
  | j + 1, k, a, h0, h, hv, n, hn => by
    have hc : c1 * (j + 1) = c1 * j + c1 := Nat.mul_succ _ _
    obtain ⟨n', h1, h2⟩ := step n k a h0 (by omega) hv (by omega)
    rw [h2]
    exact loopB R g V K c c1 res step pres exit j (k + 1) (g k a) (by omega) (by omega) (pres k a h0 (by omega) hv) n' (by omega)
/-- the same as a way from one place to another -/
theorem loopG {α : Type} (R : Nat → Int → α → aRes) (g : Int → α → α) (V : Int → α → Prop) (K : Int) (c1 : Nat) (step : ∀ n k a, 0 ≤ k → k < K → V k a → c1 ≤ n → ∃ n', n ≤ n' + c1 ∧ R n k a = R n' (k + 1) (g k a)) (pres : ∀ k a, 0 ≤ k → k < K → V k a → V (k + 1) (g k a)) : ∀ (j : Nat) (k : Int) (a : α), 0 ≤ k → k + j = K → V k a → V K (fold g j k a) ∧ ∀ n, c1 * j ≤ n → ∃ n', n ≤ n' + c1 * j ∧ R n k a = R n' K (fold g j k a)
  | 0, k, a, _, h, hv => by
    have : k = K := by omega
    subst this
    exact ⟨hv, fun n _ => ⟨n, by omega, rfl⟩⟩
  | j + 1, k, a, h0, h, hv => by
    have hc : c1 * (j + 1) = c1 * j + c1 := Nat.mul_succ _ _
    obtain ⟨q1, q2⟩ := loopG R g V K c1 step pres j (k + 1) (g k a) (by omega) (by omega) (pres k a h0 (by omega) hv)
    refine ⟨q1, fun n hn => ?_⟩
    obtain ⟨n', h1, h2⟩ := step n k a h0 (by omega) hv (by omega)
    obtain ⟨n2, h3, h4⟩ := q2 n' (by omega)
    exact ⟨n2, by omega, h2.trans h4⟩
theorem fold_V {α : Type} (g : Int → α → α) (V : Int → α → Prop) (K : Int) (pres : ∀ k a, 0 ≤ k → k < K → V k a → V (k + 1) (g k a)) : ∀ (j : Nat) (k : Int) (a : α), 0 ≤ k → k + j = K → V k a → V K (fold g j k a)
  | 0, k, a, _, h, hv => by
    have : k = K := by omega
    subst this
    exact hv
  | j + 1, k, a, h0, h, hv => fold_V g V K pres j (k + 1) (g k a) (by omega) (by omega) (pres k a h0 (by omega) hv)
theorem fold_congr {α : Type} {f g : Int → α → α} : ∀ (j : Nat) (k : Int) (a : α), (∀ i b, k ≤ i → i < k + j → f i b = g i b) → fold f j k a = fold g j k a
  | 0, _, _, _ => rfl
  | j + 1, k, a, h => by
    show fold f j (k + 1) (f k a) = fold g j (k + 1) (g k a)
    rw [h k a (by omega) (by omega)]
    exact fold_congr j (k + 1) (g k a) (fun i b h1 h2 => h i b (by omega) (by omega))
/-! BITS: a set of numbers below 31 as a Nat -/
def bits (p : Int → Bool) : Nat → Nat
  | 0 => 0
  | n + 1 => bits p n + if p n then 2 ^ n else 0
theorem bits_lt (p : Int → Bool) : ∀ n, bits p n < 2 ^ n
  | 0 => Nat.one_pos
  | n + 1 => by
    have := bits_lt p n
    have h2 : 2 ^ (n + 1) = 2 ^ n + 2 ^ n := by rw [Nat.pow_succ]; omega
    show bits p n + (if p n then 2 ^ n else 0) < _
    split <;> omega
theorem bits_congr {p q : Int → Bool} : ∀ n : Nat, (∀ k : Int, 0 ≤ k → k < n → p k = q k) → bits p n = bits q n
  | 0, _ => rfl
  | n + 1, h => by
    show bits p n + (if p n then 2 ^ n else 0) = bits q n + (if q n then 2 ^ n else 0)
    rw [bits_congr n (fun k h1 h2 => h k h1 (by omega)), h n (by omega) (by omega)]
theorem bits_test (p : Int → Bool) : ∀ n k : Nat, (bits p n).testBit k = (decide (k < n) && p k)
  | 0, k => by
    show Nat.testBit 0 k = _
    rw [Nat.zero_testBit]
    simp
  | n + 1, k => by
    have h1 := bits_lt p n
    have ih := bits_test p n k
    show (bits p n + (if p n then 2 ^ n else 0)).testBit k = _
    by_cases hp : p n = true
    · rw [if_pos hp, Nat.add_comm]
      by_cases hk : k = n
      · subst hk
        rw [Nat.testBit_two_pow_add_eq, ih]
        simp [hp]
      · by_cases hk2 : k < n
        · rw [Nat.testBit_two_pow_add_gt hk2, ih]
          simp [hk2, Nat.lt_succ_of_lt hk2]
        · have h3 : k > n := by omega
          rw [Nat.testBit_lt_two_pow]
          · simp; omega
          · have h4 : 2 ^ (n + 1) ≤ 2 ^ k := Nat.pow_le_pow_right (by decide) (by omega)
            rw [Nat.pow_succ] at h4
            omega
    · rw [if_neg hp, Nat.add_zero, ih]
      by_cases hk : k = n
      · subst hk
        simp [hp]
      · by_cases hk2 : k < n
        · simp [hk2, Nat.lt_succ_of_lt hk2]
        · have : ¬ k < n + 1 := by omega
          simp [hk2, this]
