/-! FEED -/
/-- a byte of a number -/
def fdB (a : Int32) (n : Nat) : Int := ((a >>> (nI n &&& 31)) &&& nI 255).toInt
theorem fdB_l (a : Int32) (n : Nat) : (a >>> (zI (n : Int) &&& 31)) &&& zI 255 = zI (fdB a n) := by
  rw [zn, show zI 255 = nI 255 from zn 255]
  exact z_of _
theorem fdB_u (a : Int32) {n : Nat} (hn : n ≤ 24) : (a.toUInt32 >>> ((zI (n : Int)).toUInt32 &&& Int32.toUInt32 31)).toInt32 &&& zI 255 = zI (fdB a n) := by
  rw [← fdB_l, zn, show zI 255 = nI 255 from zn 255]
  apply b_ext
  intro i hi
  rw [b_and, b_and, b_8 i hi, b_ushr n (by omega), b_sshr n (by omega) _ hi]
  by_cases h : i < 8
  · rw [if_pos (by omega)]
  · simp [h]
theorem fdB_r (a : Int32) (n : Nat) : 0 ≤ fdB a n ∧ fdB a n < 256 := by
  obtain ⟨m, h1, h2⟩ := z_mask (a >>> (nI n &&& 31)) 8
  have h3 : fdB a n = (nI m).toInt := by
    unfold fdB
    rw [show nI 255 = nI (2 ^ 8 - 1) from rfl, h2]
  rw [h3, ← zn, z_toInt (by omega) (by omega)]
  omega
def wS (S : Hp) (z v : Int) : Hp := uS (uS S 2 z v) 1 1 (z + 1)
section FED
variable {X : Nat × (Nat → Int32)} {d : Nat} {w : Bool × Bool × Bool} {S : Hp} {J : Nat → Nat → Int64} {B : Nat → Int} {z : Int} {a : Int32}
theorem c_put1 (h1 : S 1 1 = z) (hz : 0 ≤ z ∧ z < 600) {sh : Nat} (hs : sh ≤ 24) {f : Nat} : aR X d m_X7_put (f + 1) 2 [some (.ref 1), some (.int a), some (.int (zI sh))] (0, 0) (mkS w (hI S) J) = aR X d m_X7_put f 2 [some (.ref 1), some (.int a), some (.int (zI ((sh - 8))))] (0, 0) (mkS w (hI (wS S z (fdB a sh))) J) := by
  have e11 : ∀ v, uS S 2 z v 1 1 = z := fun v => (uS_ne _ _ (Or.inl (by decide))).trans h1
  have hfu := fdB_u a hs
  rw [e_X7_put_2]
  refine (if_neg ?_).trans ?_
  · simp (disch := omega) only [zl, z_lt]
    omega
  have v11 : hI S 1 1 = zI z := (hI_n S 1 (a := 1) (by decide)).trans (by rw [h1])
  have w11 : ∀ v, hI (uS S 2 z v) 1 1 = zI z := fun v => (hI_n _ 1 (a := 1) (by decide)).trans (by rw [e11])
  have u2 : ∀ v, uI (hI S) 2 z.toNat (zI v) = hI (uS S 2 z v) := fun v => hI_un S 2 v hz.1
  have u1 : ∀ v, uI (hI (uS S 2 z v)) 1 1 (zI (z + 1)) = hI (wS S z v) := fun v => hI_un _ 1 (a := 1) _ (by decide)
  simp (disch := omega) only [zl, v11, hfu, z_nat, u2, w11, u1, z_add, z_sub, z_lt, if_pos, if_neg]
end FED
/-- so many bytes fed -/
def fS (S : Hp) (o r : Nat) (c z : Int) (V : Nat → Int) : Nat → Hp
  | 0 => S
  | k + 1 => uS (uS (fS S o r c z V k) o (z + k) (V k)) r c (z + k + 1)
theorem fS_s (S : Hp) (o r : Nat) (c z : Int) (V : Nat → Int) (k : Nat) : fS S o r c z V (k + 1) = uS (uS (fS S o r c z V k) o (z + k) (V k)) r c (z + k + 1) := rfl
section FDS
variable {S : Hp} {o r : Nat} {c z : Int} {V : Nat → Int}
theorem fS_c (h : S r c = z) : ∀ k : Nat, fS S o r c z V k r c = z + k
  | 0 => by
    show S r c = z + ((0 : Nat) : Int)
    rw [h]
    omega
  | k + 1 => by
    rw [fS_s, uS_self]
    omega
theorem fS_k (ho : r ≠ o) {x : Int} (hx : x ≠ c) : ∀ k : Nat, fS S o r c z V k r x = S r x
  | 0 => rfl
  | k + 1 => by
    rw [fS_s, uS_ne _ _ (Or.inr hx), uS_ne _ _ (Or.inl ho)]
    exact fS_k ho hx k
theorem fS_row {o' : Nat} (h1 : o' ≠ o) (h2 : o' ≠ r) : ∀ k : Nat, fS S o r c z V k o' = S o'
  | 0 => rfl
  | k + 1 => by
    rw [fS_s, uS_row _ _ _ h2, uS_row _ _ _ h1]
    exact fS_row h1 h2 k
theorem fS_o (ho : r ≠ o) : ∀ (k : Nat) (x : Int), fS S o r c z V k o x = if z ≤ x ∧ x < z + k then V (x - z).toNat else S o x
  | 0, x => by
    rw [if_neg (by omega)]
    rfl
  | k + 1, x => by
    rw [fS_s, uS_ne _ _ (Or.inl (fun z => ho z.symm))]
    by_cases h : x = z + k
    · rw [if_pos (by omega), h, uS_self, show (z + (k : Int) - z).toNat = k by omega]
    · rw [uS_ne _ _ (Or.inr h), fS_o ho k x]
      by_cases h2 : z ≤ x ∧ x < z + k
      · rw [if_pos h2, if_pos (by omega)]
      · rw [if_neg h2, if_neg (by omega)]
/-- the bytes then -/
def fdT (B : Nat → Int) (z : Int) (V : Nat → Int) (k : Nat) : Int := if z ≤ (k : Int) ∧ (k : Int) < z + 20 then V ((k : Int) - z).toNat else B k
theorem fS_T {B : Nat → Int} (ho : r ≠ o) (hT : Tx S o B) (hV : ∀ k, 0 ≤ V k ∧ V k < 256) : Tx (fS S o r c z V 20) o (fdT B z V) := by
  refine ⟨fun k hk9 => ?_, fun k hk9 => ?_⟩
  · rw [fS_o ho]
    unfold fdT
    rw [hT.1 k hk9]
    rfl
  · unfold fdT
    by_cases h : z ≤ (k : Int) ∧ (k : Int) < z + 20
    · rw [if_pos h]
      exact hV _
    · rw [if_neg h]
      exact hT.2 k hk9
end FDS
/-- the bytes of five numbers -/
def fdV (a b c d e : Int32) (k : Nat) : Int := fdB (if k < 4 then a else if k < 8 then b else if k < 12 then c else if k < 16 then d else e) (24 - 8 * (k % 4))
section FD2
variable {X : Nat × (Nat → Int32)} {d : Nat} {w : Bool × Bool × Bool} {S : Hp} {J : Nat → Nat → Int64} {B : Nat → Int} {z : Int} {a : Int32} {V : Nat → Int} {k : Nat}
theorem c_putV (h1 : S 1 1 = z) (hz : 0 ≤ z ∧ z + k + 4 ≤ 600) (v0 : V k = fdB a 24) (v1 : V (k + 1) = fdB a 16) (v2 : V (k + 2) = fdB a 8) (v3 : V (k + 3) = fdB a 0) : am_call X aP (d + 1) 79 [.ref 1, .int a] (mkS w (hI (fS S 2 1 1 z V k)) J) = some (.inl none, (mkS w (hI (fS S 2 1 1 z V (k + 4))) J)) := by
  have e : ∀ j : Nat, fS S 2 1 1 z V j 1 1 = z + j := fS_c h1
  have st : ∀ (j sh f : Nat), z + j < 600 → sh ≤ 24 → V j = fdB a sh → aR X d m_X7_put (f + 1) 2 [some (.ref 1), some (.int a), some (.int (zI sh))] (0, 0) (mkS w (hI (fS S 2 1 1 z V j)) J) = aR X d m_X7_put f 2 [some (.ref 1), some (.int a), some (.int (zI ((sh - 8))))] (0, 0) (mkS w (hI (fS S 2 1 1 z V (j + 1))) J) := fun j sh f hj hs hv => by
    rw [c_put1 (e j) ⟨by omega, hj⟩ hs, ← hv]
    rfl
  rw [go_X7_put, e_X7_put_0]
  have s0 := st k 24 9999998 (by omega) (by decide) v0
  have s1 := st (k + 1) 16 9999997 (by omega) (by decide) v1
  have s2 := st (k + 2) 8 9999996 (by omega) (by decide) v2
  have s3 := st (k + 3) 0 9999995 (by omega) (by decide) v3
  simp only [zl]
  refine s0.trans (s1.trans (s2.trans (s3.trans ?_)))
  rw [show 9999995 = 9999994 + 1 from rfl, e_X7_put_2]
  refine (if_pos (by decide)).trans ?_
  simp only [rV_d]
theorem c_feed (a b c x e : Int32) (h1 : S 1 1 = z) (hz : 0 ≤ z ∧ z + 20 ≤ 600) : am_call X aP (d + 2) 103 [.ref 0, .int a, .int b, .int c, .int x, .int e] (mkS w (hI S) J) = some (.inl (some (.int (zI (z + 20)))), (mkS w (hI (fS S 2 1 1 z (fdV a b c x e) 20)) J)) := by
  have v11 : ∀ T : Hp, hI T 1 1 = zI (T 1 1) := fun T => hI_n T 1 (a := 1) (by decide)
  rw [go_X9_feed, e_X9_feed_0]
  refine (if_neg ?_).trans ?_
  · simp (disch := omega) only [zl, v11, h1, z_add, z_lt]
    omega
  refine cV_go (st := mkS w (hI (fS S 2 1 1 z (fdV a b c x e) 4)) J) ?_ ?_
  · exact c_putV (d := d) (k := 0) h1 ⟨hz.1, by omega⟩ rfl rfl rfl rfl
  refine cV_go (st := mkS w (hI (fS S 2 1 1 z (fdV a b c x e) 8)) J) ?_ ?_
  · simp only [gI_mk, gJ_mk]
    exact c_putV (d := d) (k := 4) h1 ⟨hz.1, by omega⟩ rfl rfl rfl rfl
  refine cV_go (st := mkS w (hI (fS S 2 1 1 z (fdV a b c x e) 12)) J) ?_ ?_
  · simp only [gI_mk, gJ_mk]
    exact c_putV (d := d) (k := 8) h1 ⟨hz.1, by omega⟩ rfl rfl rfl rfl
  refine cV_go (st := mkS w (hI (fS S 2 1 1 z (fdV a b c x e) 16)) J) ?_ ?_
  · simp only [gI_mk, gJ_mk]
    exact c_putV (d := d) (k := 12) h1 ⟨hz.1, by omega⟩ rfl rfl rfl rfl
  refine cV_go (st := mkS w (hI (fS S 2 1 1 z (fdV a b c x e) 20)) J) ?_ ?_
  · simp only [gI_mk, gJ_mk]
    exact c_putV (d := d) (k := 16) h1 ⟨hz.1, by omega⟩ rfl rfl rfl rfl
  simp only [gI_mk, gJ_mk]
  rw [v11, fS_c h1, rI_d]
  rfl
theorem c_feed0 (a b c x e : Int32) (h1 : S 1 1 = z) (hz : 580 < z ∧ z ≤ 600) : am_call X aP (d + 2) 103 [.ref 0, .int a, .int b, .int c, .int x, .int e] (mkS w (hI S) J) = some (.inl (some (.int (zI (-1)))), (mkS w (hI S) J)) := by
  have v11 : ∀ T : Hp, hI T 1 1 = zI (T 1 1) := fun T => hI_n T 1 (a := 1) (by decide)
  rw [go_X9_feed, e_X9_feed_0]
  refine (if_pos ?_).trans ?_
  · simp (disch := omega) only [zl, v11, h1, z_add, z_lt]
    omega
  simp only [zl, rI_d]
theorem m_feed0 (a b c x e : Int32) (h1 : S 132 2 = z) (hz : 580 < z ∧ z ≤ 600) : am_call X aP (d + 1) 156 [.ref 132, .int a, .int b, .int c, .int x, .int e] (mkS w (hI S) J) = some (.inl (some (.int (zI (-1)))), (mkS w (hI (uS S 132 0 0)) J)) := by
  have e2 : uS S 132 0 0 132 2 = z := (uS_ne _ _ (Or.inr (by decide))).trans h1
  rw [go_X10_feed, e_X10_feed_0]
  refine (if_pos ?_).trans ?_
  · simp (disch := omega) only [hk, hu, hI_n, hI_un, z_nat, em_d, zl, z_add, z_sub, z_mul, z_lt, z_eq, gI_mk, gJ_mk, cI_some, cV_some, cJ_some, cI_x, cV_x, cJ_x, uS_self, uS_ne, if_pos, if_neg, b01, b01n, ite_not, if_true, if_false, Bool.false_eq_true, e2]
    omega
  simp (disch := omega) only [hk, hu, hI_n, hI_un, z_nat, em_d, zl, z_add, z_sub, z_mul, z_lt, z_eq, gI_mk, gJ_mk, cI_some, cV_some, cJ_some, cI_x, cV_x, cJ_x, uS_self, uS_ne, if_pos, if_neg, b01, b01n, ite_not, if_true, if_false, Bool.false_eq_true, rI_d]
end FD2
