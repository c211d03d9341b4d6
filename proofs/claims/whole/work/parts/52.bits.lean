/-! BITS of Int32 (the first rows are the kit's, to paste: BITS) -/
def bt (x : Int32) (i : Nat) : Bool := x.toBitVec.getLsbD i
theorem b_ext {x y : Int32} (h : ∀ i, i < 32 → bt x i = bt y i) : x = y := Int32.toBitVec_inj.mp (BitVec.eq_of_getLsbD_eq (fun i hi => h i hi))
theorem b_or (x y : Int32) (i : Nat) : bt (x ||| y) i = (bt x i || bt y i) := by unfold bt; rw [Int32.toBitVec_or, BitVec.getLsbD_or]
theorem b_and (x y : Int32) (i : Nat) : bt (x &&& y) i = (bt x i && bt y i) := by unfold bt; rw [Int32.toBitVec_and, BitVec.getLsbD_and]
theorem b_xor (x y : Int32) (i : Nat) : bt (x ^^^ y) i = (bt x i ^^ bt y i) := by unfold bt; rw [Int32.toBitVec_xor, BitVec.getLsbD_xor]
theorem b_m1 : ∀ i, i < 32 → bt (-1) i = true := by decide +kernel
theorem s_l : ∀ n, n < 32 → ((nI n &&& 31).toBitVec.smod 32).toNat = n := by decide +kernel
theorem s_u : ∀ n, n < 32 → (((nI n).toUInt32 &&& Int32.toUInt32 31).toBitVec % 32).toNat = n := by decide +kernel
theorem b_shl (n : Nat) (hn : n < 32) (x : Int32) {i : Nat} (hi : i < 32) : bt (x <<< (nI n &&& 31)) i = (decide (n ≤ i) && bt x (i - n)) := by
  unfold bt
  rw [Int32.toBitVec_shiftLeft]
  show (x.toBitVec <<< ((nI n &&& 31).toBitVec.smod 32).toNat).getLsbD i = _
  rw [s_l n hn, BitVec.getLsbD_shiftLeft]
  rcases Nat.lt_or_ge i n with h | h
  · simp [h, Nat.not_le.mpr h]
  · simp [hi, h, Nat.not_lt.mpr h]
theorem b_ushr (n : Nat) (hn : n < 32) (x : Int32) (i : Nat) : bt ((x.toUInt32 >>> ((nI n).toUInt32 &&& Int32.toUInt32 31)).toInt32) i = bt x (n + i) := by
  show (x.toUInt32 >>> ((nI n).toUInt32 &&& Int32.toUInt32 31)).toBitVec.getLsbD i = x.toUInt32.toBitVec.getLsbD (n + i)
  rw [UInt32.toBitVec_shiftRight]
  show (x.toUInt32.toBitVec >>> (((nI n).toUInt32 &&& Int32.toUInt32 31).toBitVec % 32).toNat).getLsbD i = _
  rw [s_u n hn, BitVec.getLsbD_ushiftRight]
theorem b_sshr (n : Nat) (hn : n < 32) (x : Int32) {i : Nat} (hi : i < 32) : bt (x >>> (nI n &&& 31)) i = if n + i < 32 then bt x (n + i) else bt x 31 := by
  unfold bt
  rw [Int32.toBitVec_shiftRight]
  show (x.toBitVec.sshiftRight ((nI n &&& 31).toBitVec.smod 32).toNat).getLsbD i = _
  rw [s_l n hn, BitVec.getLsbD_sshiftRight, BitVec.msb_eq_getLsbD_last]
  simp [hi]
theorem b_nat (m i : Nat) : bt (nI m) i = (decide (i < 32) && m.testBit i) := by
  show (BitVec.ofNat 32 m).getLsbD i = _
  rw [BitVec.getLsbD_ofNat]
theorem zn (m : Nat) : zI (m : Int) = nI m := (z_nI m).symm
theorem zn0 : zI 0 = nI 0 := (z_nI 0).symm
theorem z_or (a b : Nat) : zI (a : Int) ||| zI (b : Int) = zI ((a ||| b : Nat) : Int) := by
  rw [zn, zn, zn]
  apply b_ext
  intro i hi
  rw [b_or, b_nat, b_nat, b_nat, Nat.testBit_or]
  simp [hi]
theorem z_or0 (a : Int) : zI a ||| zI 0 = zI a := by
  rw [zn0]
  apply b_ext
  intro i hi
  rw [b_or, b_nat, Nat.zero_testBit, Bool.and_false, Bool.or_false]
theorem z_and (a b : Nat) : zI (a : Int) &&& zI (b : Int) = zI ((a &&& b : Nat) : Int) := by
  rw [zn, zn, zn]
  apply b_ext
  intro i hi
  rw [b_and, b_nat, b_nat, b_nat, Nat.testBit_and]
  simp [hi]
theorem z_mm1 : zI (-1) = (-1 : Int32) := by decide
/-- a less the bits of b -/
theorem z_andn (a b : Nat) : zI (a : Int) &&& (zI (b : Int) ^^^ zI (-1)) = zI ((a ^^^ (a &&& b) : Nat) : Int) := by
  rw [zn, zn, zn, z_mm1]
  apply b_ext
  intro i hi
  rw [b_and, b_xor, b_m1 i hi, b_nat, b_nat, b_nat, Nat.testBit_xor, Nat.testBit_and]
  simp only [hi, decide_true, Bool.true_and]
  cases a.testBit i <;> cases b.testBit i <;> rfl
theorem z_shl1 {k : Int} (h1 : 0 ≤ k) (h2 : k < 31) : zI 1 <<< (zI k &&& 31) = zI ((2 ^ k.toNat : Nat) : Int) := by
  have h3 : ∀ j, j < 31 → zI 1 <<< (nI j &&& 31) = nI (2 ^ j) := by decide +kernel
  have h4 : k = (k.toNat : Int) := by omega
  rw [zn]
  conv => lhs; rw [h4]
  rw [zn]
  exact h3 _ (by omega)
theorem z_shr {m : Nat} {k : Int} (hm : m < 2147483648) (h1 : 0 ≤ k) (h2 : k < 31) : zI (m : Int) >>> (zI k &&& 31) = zI ((m >>> k.toNat : Nat) : Int) := by
  have h4 : k = (k.toNat : Int) := by omega
  rw [zn, zn]
  conv => lhs; rw [h4]
  rw [zn]
  apply b_ext
  intro i hi
  rw [b_sshr _ (by omega) _ hi, b_nat, b_nat, b_nat, Nat.testBit_shiftRight]
  have hb : ∀ j, 31 ≤ j → m.testBit j = false := fun j hj => Nat.testBit_lt_two_pow (Nat.lt_of_lt_of_le hm (Nat.pow_le_pow_right (n := 2) (by decide) hj : 2 ^ 31 ≤ 2 ^ j))
  by_cases h : k.toNat + i < 32
  · rw [if_pos h]
    simp [h, hi]
  · rw [if_neg h, hb 31 (Nat.le_refl _), hb (k.toNat + i) (by omega)]
    simp
theorem z_bit {m : Nat} {k : Int} (hm : m < 2147483648) (h1 : 0 ≤ k) (h2 : k < 31) : (zI (m : Int) >>> (zI k &&& 31)) &&& zI 1 = zI (if m.testBit k.toNat = true then 1 else 0) := by
  rw [z_shr hm h1 h2, show zI 1 = zI ((1 : Nat) : Int) from rfl, z_and, Nat.and_one_is_mod, Nat.testBit_eq_decide_div_mod_eq, Nat.shiftRight_eq_div_pow]
  congr 1
  have : m / 2 ^ k.toNat % 2 < 2 := Nat.mod_lt _ (by decide)
  by_cases h : m / 2 ^ k.toNat % 2 = 1
  · simp [h]
  · have h0 : m / 2 ^ k.toNat % 2 = 0 := by omega
    simp [h0]
theorem z_all {k : Int} (h1 : 0 ≤ k) (h2 : k < 31) : zI ((2 ^ k.toNat : Nat) : Int) - zI 1 = zI ((2 ^ k.toNat - 1 : Nat) : Int) := by
  have : 0 < 2 ^ k.toNat := Nat.two_pow_pos _
  rw [z_sub]
  congr 1
  omega
theorem z_zero {m : Nat} (h : m < 2147483648) : (zI (m : Int) = zI 0) ↔ m = 0 := by
  rw [z_eq (by omega) (by omega) (by omega) (by omega)]
  omega
theorem nat_lt_two {m n : Nat} (h : m < 2 ^ n) (hn : n ≤ 31) : m < 2147483648 := Nat.lt_of_lt_of_le h (Nat.pow_le_pow_right (n := 2) (by decide) hn : 2 ^ n ≤ 2 ^ 31)
theorem or_lt {a b n : Nat} (ha : a < 2 ^ n) (hb : b < 2 ^ n) : a ||| b < 2 ^ n := Nat.or_lt_two_pow ha hb
/-- a bit more -/
theorem bits_or (p : Int → Bool) (n : Nat) : bits p n ||| (if p n then 2 ^ n else 0) = bits p (n + 1) := by
  apply Nat.eq_of_testBit_eq
  intro i
  rw [Nat.testBit_or, bits_test, bits_test]
  by_cases hp : p n = true
  · rw [if_pos hp, Nat.testBit_two_pow]
    by_cases hi : n = i
    · subst hi
      simp [hp]
    · by_cases h2 : i < n
      · simp [hi, h2, Nat.lt_succ_of_lt h2]
      · have : ¬ i < n + 1 := by omega
        simp [hi, h2, this]
  · rw [if_neg hp, Nat.zero_testBit]
    by_cases hi : n = i
    · subst hi
      simp [hp]
    · by_cases h2 : i < n
      · simp [h2, Nat.lt_succ_of_lt h2]
      · have : ¬ i < n + 1 := by omega
        simp [h2, this]
theorem bits_fold (p : Int → Bool) (n : Nat) : fold (fun k m => m ||| (if p k then 2 ^ k.toNat else 0)) n 0 0 = bits p n := by
  induction n with
  | zero => rfl
  | succ n ih =>
    rw [fold_succ, ih, show (0 : Int) + (n : Int) = (n : Int) by omega, Int.toNat_natCast]
    exact bits_or p n
/-- a loop that sets the bits of those of which p is true -/
theorem loop_bits (R : Nat → Int → Int → aRes) (p : Int → Bool) (K : Int) (c : Nat) (res : Int → aRes) (hK : 0 ≤ K ∧ K ≤ 31) (step : ∀ n k (m : Nat), 0 ≤ k → k < K → m < 2 ^ k.toNat → R (n + 1) k (m : Int) = R n (k + 1) ((m ||| (if p k then 2 ^ k.toNat else 0) : Nat) : Int)) (exit : ∀ n a, c ≤ n → R n K a = res a) (n : Nat) (hn : c + K.toNat ≤ n) : R n 0 0 = res ((bits p K.toNat : Nat) : Int) := by
  have h := loopA (α := Nat) (fun n k m => R n k (m : Int)) (fun k m => m ||| (if p k then 2 ^ k.toNat else 0)) (fun k m => m < 2 ^ k.toNat) K c (fun m => res (m : Int)) (fun n k m h1 h2 h3 => step n k m h1 h2 h3) (fun k m h1 h2 h3 => by
    have h3 : m < 2 ^ k.toNat := h3
    have h4 : 2 ^ (k + 1).toNat = 2 ^ k.toNat + 2 ^ k.toNat := by rw [show (k + 1).toNat = k.toNat + 1 by omega, Nat.pow_succ]; omega
    show (m ||| (if p k then 2 ^ k.toNat else 0)) < 2 ^ (k + 1).toNat
    have h5 : 2 ^ (k + 1).toNat = 2 ^ (k.toNat + 1) := by rw [show (k + 1).toNat = k.toNat + 1 by omega]
    rw [h5]
    apply Nat.or_lt_two_pow
    · rw [← h5]; omega
    · split
      · rw [← h5]; have : 0 < 2 ^ k.toNat := Nat.two_pow_pos _; omega
      · exact Nat.two_pow_pos _) (fun n a h1 _ => exit n a h1) K.toNat 0 0 (Int.le_refl _) (by omega) (by decide) n (by omega)
  rw [bits_fold] at h
  exact h
/-! numbers of a few bits -/
theorem z_mask (x : Int32) (j : Nat) : ∃ m : Nat, m < 2 ^ j ∧ x &&& nI (2 ^ j - 1) = nI m := by
  have hx : x = nI x.toBitVec.toNat := Int32.toBitVec_inj.mp (by show _ = BitVec.ofNat 32 _; simp)
  refine ⟨x.toBitVec.toNat % 2 ^ j, Nat.mod_lt _ (Nat.two_pow_pos _), ?_⟩
  conv => lhs; rw [hx]
  rw [← zn, ← zn, z_and, Nat.and_two_pow_sub_one_eq_mod, zn]
theorem b_15 (i : Nat) (hi : i < 32) : bt (nI 32767) i = decide (i < 15) := (by decide +kernel : ∀ i, i < 32 → bt (nI 32767) i = decide (i < 15)) i hi
theorem b_8 (i : Nat) (hi : i < 32) : bt (nI 255) i = decide (i < 8) := (by decide +kernel : ∀ i, i < 32 → bt (nI 255) i = decide (i < 8)) i hi
/-- what is drawn out of a seed -/
def drw (x : Int) : Int := ((zI x >>> (nI 16 &&& 31)) &&& nI 32767).toInt
theorem drw_l (x : Int) : (zI x >>> (nI 16 &&& 31)) &&& nI 32767 = zI (drw x) := z_of _
theorem drw_u (x : Int) : ((zI x).toUInt32 >>> ((nI 16).toUInt32 &&& Int32.toUInt32 31)).toInt32 &&& nI 32767 = zI (drw x) := by
  rw [← drw_l]
  apply b_ext
  intro i hi
  rw [b_and, b_and, b_15 i hi, b_ushr 16 (by decide), b_sshr 16 (by decide) _ hi]
  by_cases h : i < 15
  · rw [if_pos (by omega)]
  · simp [h]
theorem drw_r (x : Int) : 0 ≤ drw x ∧ drw x < 32768 := by
  obtain ⟨m, h1, h2⟩ := z_mask (zI x >>> (nI 16 &&& 31)) 15
  have h3 : drw x = (nI m).toInt := by
    unfold drw
    rw [show nI 32767 = nI (2 ^ 15 - 1) from rfl, h2]
  rw [h3, ← zn, z_toInt (by omega) (by omega)]
  omega
