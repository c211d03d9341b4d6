/-! THE BOOK: fits and look -/
def gonN (h off : Int) (k : Nat) : Int := sumZ (fun i => if dayOf (h + i) = off then 0 else 1) k
def goS (h off : Int) : Int := (if h / 8 = off then 0 else 8 - h % 8) + (if (h / 8 + 1) % 7 = off then 0 else h % 8)
theorem gon_ok : ∀ h : Nat, h < 56 → ∀ off : Nat, off < 7 → gonN (h : Int) (off : Int) 8 = goS (h : Int) (off : Int) := by decide +kernel
def dlV (len p off h : Int) : Int := min len (p * goS h off)
def BkR (nB : Int) (bk : Int → Int) : Prop := 0 ≤ nB ∧ nB ≤ 6 ∧ ∀ i, 0 ≤ i → i < nB → 0 ≤ bk (2 * i) ∧ bk (2 * i) < 56 ∧ 0 ≤ bk (2 * i + 1) ∧ bk (2 * i + 1) ≤ 99
def BkP (S : Hp) (nB : Int) (bk : Int → Int) : Prop := S 132 42 = nB ∧ (∀ i, 0 ≤ i → i < nB → S 152 (2 * i) = bk (2 * i) ∧ S 152 (2 * i + 1) = bk (2 * i + 1)) ∧ BkR nB bk
def CB (S : Hp) (l : Nat) (nB : Int) (bk : Int → Int) : Prop := S l 3 = nB ∧ (∀ i, 0 ≤ i → i < nB → S (l + 1) i = bk (2 * i) ∧ S (l + 2) i = bk (2 * i + 1)) ∧ BkR nB bk
theorem CB_of {S S' : Hp} {l : Nat} {nB : Int} {bk : Int → Int} (h : CB S l nB bk) (h0 : S' l 3 = S l 3) (h1 : S' (l + 1) = S (l + 1)) (h2 : S' (l + 2) = S (l + 2)) : CB S' l nB bk := ⟨h0.trans h.1, by rw [h1, h2]; exact h.2.1, h.2.2⟩
theorem BkP_of {S S' : Hp} {nB : Int} {bk : Int → Int} (h : BkP S nB bk) (h0 : S' 132 42 = S 132 42) (h1 : S' 152 = S 152) : BkP S' nB bk := ⟨h0.trans h.1, by rw [h1]; exact h.2.1, h.2.2⟩
theorem BkP_q {S S' : Hp} {nB : Int} {bk : Int → Int} (h : BkP S nB bk) (hq : QuM S S') : BkP S' nB bk := BkP_of h (hq.2.1 42 (by decide) (by decide)) (hq.1 152 (by decide))
def fitA (bk : Int → Int) (len p off : Int) : Nat → Bool
  | 0 => true
  | k + 1 => fitA bk len p off k && decide (dlV len p off (bk (2 * (k : Int))) = bk (2 * (k : Int) + 1))
def fitB (nB : Int) (bk : Int → Int) (len p : Int) : Nat := bits (fun off => fitA bk len p off nB.toNat) 7
def tolB (bk : Int → Int) (h : Int) : Nat → Int → Bool
  | 0, _ => false
  | j + 1, k => decide (bk (2 * k) = h) || tolB bk h j (k + 1)
def aliN (g : Int → Int) (D : Nat) (one : Nat) : Int := sumZ (fun o => if D.testBit o.toNat = true ∧ g o = g (one : Int) then 1 else 0) 7
def worst (g : Int → Int) (D : Nat) : Int := mosF (fun _ => True) (aliN g D) 7 0 0
theorem aliN_r (g : Int → Int) (D one : Nat) : 0 ≤ aliN g D one ∧ aliN g D one ≤ 7 := by
  have := sumZ_r (f := fun o => if D.testBit o.toNat = true ∧ g o = g (one : Int) then 1 else 0) (a := 0) (b := 1) 7 (fun k _ _ => by split <;> decide)
  unfold aliN
  omega
theorem worst_eq (g : Int → Int) (D : Nat) : worst g D = mosF (fun d => D.testBit d = true) (aliN g D) 7 0 0 := by
  obtain ⟨g1, g2⟩ := mosF_ge (fun d => D.testBit d = true) (aliN g D) 7 0 0
  obtain ⟨h1, h2⟩ := mosF_ge (fun _ => True) (aliN g D) 7 0 0
  have k1 := mosF_le (fun d => D.testBit d = true) (aliN g D) (worst g D) 7 0 0 h1 (fun x x1 x2 _ => h2 x x1 x2 trivial)
  have k2 := mosF_le (fun _ => True) (aliN g D) (mosF (fun d => D.testBit d = true) (aliN g D) 7 0 0) 7 0 0 g1 (fun x x1 x2 _ => by
    by_cases q : ∃ o : Int, 0 ≤ o ∧ o < 7 ∧ D.testBit o.toNat = true ∧ g o = g (x : Int)
    · obtain ⟨o, o1, o2, o3, o4⟩ := q
      have e : aliN g D o.toNat = aliN g D x := by
        unfold aliN
        rw [Int.toNat_of_nonneg o1, o4]
      rw [← e]
      exact g2 o.toNat (by omega) (by omega) o3
    · have e : aliN g D x = 0 := by
        unfold aliN
        have := sumZ_r (f := fun o => if D.testBit o.toNat = true ∧ g o = g (x : Int) then 1 else 0) (a := 0) (b := 0) 7 (fun k k1 k2 => by
          show 0 ≤ (if D.testBit k.toNat = true ∧ g k = g (x : Int) then 1 else 0) ∧ (if D.testBit k.toNat = true ∧ g k = g (x : Int) then 1 else 0) ≤ 0
          rw [if_neg (fun z => q ⟨k, k1, k2, z.1, z.2⟩)]
          decide)
        omega
      rw [e]
      exact g1)
  unfold worst at k1 ⊢
  omega
theorem worst_r (g : Int → Int) (D : Nat) : 0 ≤ worst g D ∧ worst g D ≤ 7 := ⟨(mosF_ge _ _ 7 0 0).1, mosF_le _ _ 7 7 0 0 (by decide) (fun x _ _ _ => (aliN_r g D x).2)⟩
/-- best hour, the least left -/
def lokS (nB : Int) (bk : Int → Int) (len p : Int) (D : Nat) (h : Int) (a : Int × Int) : Int × Int := if tolB bk h nB.toNat 0 = true then a else if a.1 = -1 ∨ worst (fun o => dlV len p o h) D < a.2 then (h, worst (fun o => dlV len p o h) D) else a
def lokF (nB : Int) (bk : Int → Int) (len p : Int) (D : Nat) : Int × Int := fold (lokS nB bk len p D) 56 0 (-1, -1)
def lokA (nB : Int) (bk : Int → Int) (len p q : Int) : Int := if fitB nB bk len p = 0 then -1 else if q = 0 then (lokF nB bk len p (fitB nB bk len p)).1 else (lokF nB bk len p (fitB nB bk len p)).2
abbrev okLk (a : Int × Int) : Prop := (a.1 = -1 ∧ a.2 = -1) ∨ (0 ≤ a.1 ∧ a.1 < 56 ∧ 0 ≤ a.2 ∧ a.2 ≤ 7)
theorem lokS_ok {nB : Int} {bk : Int → Int} {len p : Int} {D : Nat} {h : Int} {a : Int × Int} (hh : 0 ≤ h ∧ h < 56) (ha : okLk a) : okLk (lokS nB bk len p D h a) := by
  unfold lokS
  split
  · exact ha
  · split
    · exact Or.inr ⟨hh.1, hh.2, worst_r _ _⟩
    · exact ha
theorem goS_r {h off : Int} (hh : 0 ≤ h ∧ h < 56) : 0 ≤ goS h off ∧ goS h off ≤ 8 := by
  unfold goS
  split <;> split <;> omega
theorem dlV_r {len p off h : Int} (hl : 0 ≤ len ∧ len ≤ 40) (hp : 0 ≤ p ∧ p ≤ 9) (hh : 0 ≤ h ∧ h < 56) : 0 ≤ dlV len p off h ∧ dlV len p off h ≤ 40 := by
  have hg := goS_r (off := off) hh
  have := Int.mul_nonneg hp.1 hg.1
  unfold dlV
  omega
section BKS
variable {X : Nat × (Nat → Int32)} {d : Nat} {w : Bool × Bool × Bool} {S : Hp} {J : Nat → Nat → Int64} {nT nR nC nB : Int} {rd s bk : Int → Int} {cd : List (Int × Int)} {bb : Bool}
theorem c_dayLater {len p off h : Int} (hl : 0 ≤ len ∧ len ≤ 40) (hp : 0 ≤ p ∧ p ≤ 9) (ho : 0 ≤ off ∧ off < 7) (hh : 0 ≤ h ∧ h < 56) : am_call X aP (d + 2) 5 [.int (zI len), .int (zI p), .int (zI off), .int (zI h)] (mkS w (hI S) J) = some (.inl (some (.int (zI (dlV len p off h)))), (mkS w (hI S) J)) := by
  have hb : ∀ g, 0 ≤ g → g ≤ 8 → 0 ≤ p * g ∧ p * g ≤ 72 := fun g g1 g2 => by
    have h1 := Int.mul_nonneg hp.1 g1
    have h2 : p * g ≤ 9 * 8 := Int.mul_le_mul hp.2 g2 g1 (by decide)
    omega
  rw [go_X0_dayLater, e_X0_dayLater_0]
  unfold dlV goS
  by_cases q1 : h / 8 = off
  · by_cases q2 : (h / 8 + 1) % 7 = off
    · exfalso
      omega
    · have := hb (0 + h % 8) (by omega) (by omega)
      rw [if_pos q1, if_neg q2]
      simp (disch := omega) only [hk, hu, hI_n, hI_un, z_nat, em_d, zl, z_add, z_sub, z_mul, z_lt, z_eq, gI_mk, gJ_mk, cI_some, cV_some, cJ_some, cI_x, cV_x, cJ_x, uS_self, uS_ne, if_pos, if_neg, b01, b01n, ite_not, if_true, if_false, z_div, c_min, rI_d]
  · by_cases q2 : (h / 8 + 1) % 7 = off
    · have := hb (8 - h % 8 + 0) (by omega) (by omega)
      rw [if_neg q1, if_pos q2]
      simp (disch := omega) only [hk, hu, hI_n, hI_un, z_nat, em_d, zl, z_add, z_sub, z_mul, z_lt, z_eq, gI_mk, gJ_mk, cI_some, cV_some, cJ_some, cI_x, cV_x, cJ_x, uS_self, uS_ne, if_pos, if_neg, b01, b01n, ite_not, if_true, if_false, z_div, c_min, rI_d]
    · have := hb (8 - h % 8 + h % 8) (by omega) (by omega)
      rw [if_neg q1, if_neg q2]
      simp (disch := omega) only [hk, hu, hI_n, hI_un, z_nat, em_d, zl, z_add, z_sub, z_mul, z_lt, z_eq, gI_mk, gJ_mk, cI_some, cV_some, cJ_some, cI_x, cV_x, cJ_x, uS_self, uS_ne, if_pos, if_neg, b01, b01n, ite_not, if_true, if_false, z_div, c_min, rI_d]
theorem l_fit (hB : CB S (iB bb) nB bk) {len p off m : Int} (hl : 0 ≤ len ∧ len ≤ 40) (hp : 0 ≤ p ∧ p ≤ 9) (ho : 0 ≤ off ∧ off < 7) : ∀ (j k f : Nat), (k : Int) + j = nB → aR X (d + 2) m_X0_fitting (f + j + 1) 11 [some (.ref ((iB bb))), some (.int (zI len)), some (.int (zI p)), some (.int (zI m)), some (.int (zI off)), some (.int (zI ((if fitA bk len p off k = true then 1 else 0)))), some (.int (zI ((k : Int))))] (0, 0) (mkS w (hI S) J) = aR X (d + 2) m_X0_fitting (f + 1) 11 [some (.ref ((iB bb))), some (.int (zI len)), some (.int (zI p)), some (.int (zI m)), some (.int (zI off)), some (.int (zI ((if fitA bk len p off nB.toNat = true then 1 else 0)))), some (.int (zI nB))] (0, 0) (mkS w (hI S) J)
  | 0, k, f, h => by
    rw [show k = nB.toNat by omega, show ((nB.toNat : Nat) : Int) = nB by omega]
  | j + 1, k, f, h => by
    obtain ⟨t3, ht, r1, r2, r3⟩ := id hB
    have ih := l_fit hB (m := m) hl hp ho j (k + 1) f (by omega)
    obtain ⟨e1, e2⟩ := ht (k : Int) (by omega) (by omega)
    obtain ⟨v1, v2, v3, v4⟩ := r3 (k : Int) (by omega) (by omega)
    have hdl := dlV_r (off := off) hl hp ⟨v1, v2⟩
    have hd := fun d => c_dayLater (X := X) (d := d) (w := w) (S := S) (J := J) hl hp ho ⟨v1, v2⟩
    have ef : fitA bk len p off (k + 1) = (fitA bk len p off k && decide (dlV len p off (bk (2 * (k : Int))) = bk (2 * (k : Int) + 1))) := rfl
    rw [ef, show ((k + 1 : Nat) : Int) = (k : Int) + 1 by omega] at ih
    rw [show f + (j + 1) + 1 = (f + j + 1) + 1 by omega, e_X0_fitting_11]
    cases q1 : fitA bk len p off k with
    | false =>
      rw [q1, Bool.false_and] at ih
      simp (disch := omega) only [hk, hu, hI_n, hI_un, z_nat, em_d, zl, z_add, z_sub, z_mul, z_lt, z_eq, gI_mk, gJ_mk, cI_some, cV_some, cJ_some, cI_x, cV_x, cJ_x, uS_self, uS_ne, if_pos, if_neg, b01, b01n, ite_not, if_true, if_false, hLL, t3, Bool.false_eq_true] at ih ⊢
      exact ih
    | true =>
      rw [q1, Bool.true_and] at ih
      by_cases q2 : dlV len p off (bk (2 * (k : Int))) = bk (2 * (k : Int) + 1)
      · rw [decide_eq_true q2] at ih
        simp (disch := omega) only [hk, hu, hI_n, hI_un, z_nat, em_d, zl, z_add, z_sub, z_mul, z_lt, z_eq, gI_mk, gJ_mk, cI_some, cV_some, cJ_some, cI_x, cV_x, cJ_x, uS_self, uS_ne, if_pos, if_neg, b01, b01n, ite_not, if_true, if_false, hLL, t3, e1, e2] at ih ⊢
        rw [hd]
        simp (disch := omega) only [hk, hu, hI_n, hI_un, z_nat, em_d, zl, z_add, z_sub, z_mul, z_lt, z_eq, gI_mk, gJ_mk, cI_some, cV_some, cJ_some, cI_x, cV_x, cJ_x, uS_self, uS_ne, if_pos, if_neg, b01, b01n, ite_not, if_true, if_false, hLL, e2]
        exact ih
      · rw [decide_eq_false q2] at ih
        simp (disch := omega) only [hk, hu, hI_n, hI_un, z_nat, em_d, zl, z_add, z_sub, z_mul, z_lt, z_eq, gI_mk, gJ_mk, cI_some, cV_some, cJ_some, cI_x, cV_x, cJ_x, uS_self, uS_ne, if_pos, if_neg, b01, b01n, ite_not, if_true, if_false, hLL, t3, e1, e2, Bool.false_eq_true] at ih ⊢
        rw [hd]
        simp (disch := omega) only [hk, hu, hI_n, hI_un, z_nat, em_d, zl, z_add, z_sub, z_mul, z_lt, z_eq, gI_mk, gJ_mk, cI_some, cV_some, cJ_some, cI_x, cV_x, cJ_x, uS_self, uS_ne, if_pos, if_neg, b01, b01n, ite_not, if_true, if_false, hLL, e2]
        exact ih
theorem l_fits (hB : CB S (iB bb) nB bk) {len p : Int} (hl : 0 ≤ len ∧ len ≤ 40) (hp : 0 ≤ p ∧ p ≤ 9) : ∀ (j k n : Nat), k + j = 7 → 8 * j + 1 ≤ n → aR X (d + 2) m_X0_fitting n 4 [some (.ref ((iB bb))), some (.int (zI len)), some (.int (zI p)), some (.int (zI ((bits (fun off => fitA bk len p off nB.toNat) k : Nat)))), some (.int (zI ((k : Int)))), none, none] (0, 0) (mkS w (hI S) J) = some (.inl (some (.int (zI ((fitB nB bk len p : Nat))))), (mkS w (hI S) J))
  | 0, k, n, h, hn => by
    obtain ⟨n, rfl⟩ : ∃ m, n = m + 1 := ⟨n - 1, by omega⟩
    have : k = 7 := by omega
    subst this
    rw [e_X0_fitting_4]
    simp (disch := omega) only [hk, hu, hI_n, hI_un, z_nat, em_d, zl, z_add, z_sub, z_mul, z_lt, z_eq, gI_mk, gJ_mk, cI_some, cV_some, cJ_some, cI_x, cV_x, cJ_x, uS_self, uS_ne, if_pos, if_neg, b01, b01n, ite_not, if_true, if_false, hLL, rI_d]
    rfl
  | j + 1, k, n, h, hn => by
    obtain ⟨t3, ht, r1, r2, r3⟩ := id hB
    obtain ⟨n, rfl⟩ : ∃ m, n = m + nB.toNat + 1 + 1 := ⟨n - nB.toNat - 2, by omega⟩
    have ih := l_fits hB hl hp j (k + 1) n (by omega) (by omega)
    rw [← bits_or, show ((k + 1 : Nat) : Int) = (k : Int) + 1 by omega] at ih
    have hg := l_fit (X := X) (d := d) (w := w) (J := J) hB (m := (bits (fun off => fitA bk len p off nB.toNat) k : Nat)) (off := (k : Int)) hl hp (by omega) nB.toNat 0 n (by omega)
    rw [e_X0_fitting_4]
    simp (disch := omega) only [hk, hu, hI_n, hI_un, z_nat, em_d, zl, z_add, z_sub, z_mul, z_lt, z_eq, gI_mk, gJ_mk, cI_some, cV_some, cJ_some, cI_x, cV_x, cJ_x, uS_self, uS_ne, if_pos, if_neg, b01, b01n, ite_not, if_true, if_false, hLL]
    refine (show _ = _ from hg).trans ?_
    rw [e_X0_fitting_11]
    cases q : fitA bk len p (k : Int) nB.toNat with
    | true =>
      rw [if_pos q] at ih
      simp (disch := omega) only [hk, hu, hI_n, hI_un, z_nat, em_d, zl, z_add, z_sub, z_mul, z_lt, z_eq, gI_mk, gJ_mk, cI_some, cV_some, cJ_some, cI_x, cV_x, cJ_x, uS_self, uS_ne, if_pos, if_neg, b01, b01n, ite_not, if_true, if_false, hLL, t3, z_shl1, z_or, Int.toNat_natCast]
      exact ih
    | false =>
      rw [if_neg (by rw [q]; decide), Nat.or_zero] at ih
      simp (disch := omega) only [hk, hu, hI_n, hI_un, z_nat, em_d, zl, z_add, z_sub, z_mul, z_lt, z_eq, gI_mk, gJ_mk, cI_some, cV_some, cJ_some, cI_x, cV_x, cJ_x, uS_self, uS_ne, if_pos, if_neg, b01, b01n, ite_not, if_true, if_false, hLL, t3, z_or0, Bool.false_eq_true]
      exact ih
theorem c_fitting (hB : CB S (iB bb) nB bk) {len p : Int} (hl : 0 ≤ len ∧ len ≤ 40) (hp : 0 ≤ p ∧ p ≤ 9) : am_call X aP (d + 3) 6 [.ref ((iB bb)), .int (zI len), .int (zI p)] (mkS w (hI S) J) = some (.inl (some (.int (zI ((fitB nB bk len p : Nat))))), (mkS w (hI S) J)) := by
  rw [go_X0_fitting, e_X0_fitting_0]
  exact l_fits hB hl hp 7 0 9999999 (by decide) (by decide)
theorem c_isTold (hB : CB S (iB bb) nB bk) {h : Int} (hh : 0 ≤ h ∧ h < 56) : am_call X aP (d + 1) 4 [.ref ((iB bb)), .int (zI h)] (mkS w (hI S) J) = some (.inl (some (.int (zI (if tolB bk h nB.toNat 0 = true then 1 else 0)))), (mkS w (hI S) J)) := by
  obtain ⟨t3, ht, r1, r2, r3⟩ := id hB
  have key : ∀ (j k n : Nat), (k : Int) + j = nB → j + 1 ≤ n → aR X d m_X0_isTold n 2 [some (.ref ((iB bb))), some (.int (zI h)), some (.int (zI ((k : Int))))] (0, 0) (mkS w (hI S) J) = some (.inl (some (.int (zI (if tolB bk h j (k : Int) = true then 1 else 0)))), (mkS w (hI S) J)) := by
    intro j
    induction j with
    | zero =>
      intro k n h1 h2
      obtain ⟨n, rfl⟩ : ∃ m, n = m + 1 := ⟨n - 1, by omega⟩
      rw [e_X0_isTold_2]
      simp (disch := omega) only [hk, hu, hI_n, hI_un, z_nat, em_d, zl, z_add, z_sub, z_mul, z_lt, z_eq, gI_mk, gJ_mk, cI_some, cV_some, cJ_some, cI_x, cV_x, cJ_x, uS_self, uS_ne, if_pos, if_neg, b01, b01n, ite_not, if_true, if_false, hLL, t3, rI_d]
      rfl
    | succ j ih =>
      intro k n h1 h2
      obtain ⟨n, rfl⟩ : ∃ m, n = m + 1 := ⟨n - 1, by omega⟩
      have ih := ih (k + 1) n (by omega) (by omega)
      obtain ⟨e1, e2⟩ := ht (k : Int) (by omega) (by omega)
      obtain ⟨v1, v2, v3, v4⟩ := r3 (k : Int) (by omega) (by omega)
      rw [show ((k + 1 : Nat) : Int) = (k : Int) + 1 by omega] at ih
      have et : tolB bk h (j + 1) (k : Int) = (decide (bk (2 * (k : Int)) = h) || tolB bk h j ((k : Int) + 1)) := rfl
      rw [et, e_X0_isTold_2]
      by_cases q : bk (2 * (k : Int)) = h
      · rw [decide_eq_true q, Bool.true_or]
        simp (disch := omega) only [hk, hu, hI_n, hI_un, z_nat, em_d, zl, z_add, z_sub, z_mul, z_lt, z_eq, gI_mk, gJ_mk, cI_some, cV_some, cJ_some, cI_x, cV_x, cJ_x, uS_self, uS_ne, if_pos, if_neg, b01, b01n, ite_not, if_true, if_false, hLL, t3, e1, rI_d]
      · rw [decide_eq_false q, Bool.false_or]
        simp (disch := omega) only [hk, hu, hI_n, hI_un, z_nat, em_d, zl, z_add, z_sub, z_mul, z_lt, z_eq, gI_mk, gJ_mk, cI_some, cV_some, cJ_some, cI_x, cV_x, cJ_x, uS_self, uS_ne, if_pos, if_neg, b01, b01n, ite_not, if_true, if_false, hLL, t3, e1]
        exact ih
  rw [go_X0_isTold, e_X0_isTold_0]
  exact key nB.toNat 0 9999999 (by omega) (by omega)
theorem l_alike {g : Int → Int} (hg : ∀ o, 0 ≤ o → o < 7 → S (iB bb + 3) o = g o ∧ 0 ≤ g o ∧ g o ≤ 40) {D : Nat} (hD : D < 2147483648) {most : Int} (hm : 0 ≤ most ∧ most ≤ 7) {one : Nat} (ho : one < 7) : ∀ (j k f : Nat), k + j = 7 → aR X (d + 1) m_X0_mostAlike (f + j + 1) 11 [some (.ref ((iB bb))), some (.int (zI ((D : Int)))), some (.int (zI most)), some (.int (zI ((one : Int)))), some (.int (zI ((sumZ (fun o => if D.testBit o.toNat = true ∧ g o = g (one : Int) then 1 else 0) k)))), some (.int (zI ((k : Int)))), none] (0, 0) (mkS w (hI S) J) = aR X (d + 1) m_X0_mostAlike f 4 [some (.ref ((iB bb))), some (.int (zI ((D : Int)))), some (.int (zI ((if True ∧ most < aliN g D one then aliN g D one else most)))), some (.int (zI (((one : Int) + 1)))), none, none, none] (0, 0) (mkS w (hI S) J)
  | 0, k, f, h => by
    have hr := aliN_r g D one
    have : k = 7 := by omega
    subst this
    rw [e_X0_mostAlike_11]
    unfold aliN at hr ⊢
    generalize sumZ (fun o => if D.testBit o.toNat = true ∧ g o = g (one : Int) then 1 else 0) 7 = q at *
    have em : (if True ∧ most < q then q else most) = max most q := by
      by_cases z : most < q
      · rw [if_pos ⟨trivial, z⟩]
        omega
      · rw [if_neg (fun y => z y.2)]
        omega
    rw [em]
    simp (disch := omega) only [hk, hu, hI_n, hI_un, z_nat, em_d, zl, z_add, z_sub, z_mul, z_lt, z_eq, gI_mk, gJ_mk, cI_some, cV_some, cJ_some, cI_x, cV_x, cJ_x, uS_self, uS_ne, if_pos, if_neg, b01, b01n, ite_not, if_true, if_false, hLL, c_max]
  | j + 1, k, f, h => by
    have ih := l_alike hg hD hm ho j (k + 1) f (by omega)
    have hr := sumZ_r (f := fun o => if D.testBit o.toNat = true ∧ g o = g (one : Int) then 1 else 0) (a := 0) (b := 1) k (fun k _ _ => by split <;> decide)
    have es : sumZ (fun o => if D.testBit o.toNat = true ∧ g o = g (one : Int) then 1 else 0) (k + 1) = sumZ (fun o => if D.testBit o.toNat = true ∧ g o = g (one : Int) then 1 else 0) k + (if D.testBit (k : Int).toNat = true ∧ g (k : Int) = g (one : Int) then 1 else 0) := rfl
    obtain ⟨e1, v1, v2⟩ := hg (k : Int) (by omega) (by omega)
    obtain ⟨e2, v3, v4⟩ := hg (one : Int) (by omega) (by omega)
    rw [es, show ((k + 1 : Nat) : Int) = (k : Int) + 1 by omega] at ih
    generalize sumZ (fun o => if D.testBit o.toNat = true ∧ g o = g (one : Int) then 1 else 0) k = q at *
    rw [show f + (j + 1) + 1 = (f + j + 1) + 1 by omega, e_X0_mostAlike_11]
    by_cases p1 : D.testBit (k : Int).toNat = true
    · by_cases p2 : g (k : Int) = g (one : Int)
      · rw [if_pos ⟨p1, p2⟩] at ih
        simp (disch := omega) only [hk, hu, hI_n, hI_un, z_nat, em_d, zl, z_add, z_sub, z_mul, z_lt, z_eq, gI_mk, gJ_mk, cI_some, cV_some, cJ_some, cI_x, cV_x, cJ_x, uS_self, uS_ne, if_pos, if_neg, b01, b01n, ite_not, if_true, if_false, hLL, z_bit hD, p1, e1, e2]
        exact ih
      · rw [if_neg (fun z => p2 z.2), Int.add_zero] at ih
        simp (disch := omega) only [hk, hu, hI_n, hI_un, z_nat, em_d, zl, z_add, z_sub, z_mul, z_lt, z_eq, gI_mk, gJ_mk, cI_some, cV_some, cJ_some, cI_x, cV_x, cJ_x, uS_self, uS_ne, if_pos, if_neg, b01, b01n, ite_not, if_true, if_false, hLL, z_bit hD, p1, e1, e2, Int.add_zero]
        exact ih
    · rw [if_neg (fun z => p1 z.1), Int.add_zero] at ih
      simp (disch := omega) only [hk, hu, hI_n, hI_un, z_nat, em_d, zl, z_add, z_sub, z_mul, z_lt, z_eq, gI_mk, gJ_mk, cI_some, cV_some, cJ_some, cI_x, cV_x, cJ_x, uS_self, uS_ne, if_pos, if_neg, b01, b01n, ite_not, if_true, if_false, hLL, z_bit hD, p1, Int.add_zero]
      exact ih
theorem c_alike {g : Int → Int} (hg : ∀ o, 0 ≤ o → o < 7 → S (iB bb + 3) o = g o ∧ 0 ≤ g o ∧ g o ≤ 40) {D : Nat} (hD : D < 2147483648) : am_call X aP (d + 2) 8 [.ref ((iB bb)), .int (zI ((D : Int)))] (mkS w (hI S) J) = some (.inl (some (.int (zI (worst g D)))), (mkS w (hI S) J)) := by
  have key : ∀ (j k f : Nat) (most : Int), k + j = 7 → 0 ≤ most ∧ most ≤ 7 → aR X (d + 1) m_X0_mostAlike (f + 9 * j + 1) 4 [some (.ref ((iB bb))), some (.int (zI ((D : Int)))), some (.int (zI most)), some (.int (zI ((k : Int)))), none, none, none] (0, 0) (mkS w (hI S) J) = some (.inl (some (.int (zI (mosF (fun _ => True) (aliN g D) j k most)))), (mkS w (hI S) J)) := by
    intro j
    induction j with
    | zero =>
      intro k f most h1 h2
      rw [e_X0_mostAlike_4]
      simp (disch := omega) only [hk, hu, hI_n, hI_un, z_nat, em_d, zl, z_add, z_sub, z_mul, z_lt, z_eq, gI_mk, gJ_mk, cI_some, cV_some, cJ_some, cI_x, cV_x, cJ_x, uS_self, uS_ne, if_pos, if_neg, b01, b01n, ite_not, if_true, if_false, hLL, rI_d]
      rfl
    | succ j ih =>
      intro k f most h1 h2
      have hr := aliN_r g D k
      have hl := l_alike (X := X) (d := d) (w := w) (J := J) hg hD h2 (one := k) (by omega) 7 0 (f + 9 * j + 1) (by decide)
      have ih := ih (k + 1) f (if True ∧ most < aliN g D k then aliN g D k else most) (by omega) (by split <;> omega)
      rw [show ((k + 1 : Nat) : Int) = (k : Int) + 1 by omega] at ih
      rw [show f + 9 * (j + 1) + 1 = (f + 9 * j + 1 + 7 + 1) + 1 by omega, e_X0_mostAlike_4]
      simp (disch := omega) only [hk, hu, hI_n, hI_un, z_nat, em_d, zl, z_add, z_sub, z_mul, z_lt, z_eq, gI_mk, gJ_mk, cI_some, cV_some, cJ_some, cI_x, cV_x, cJ_x, uS_self, uS_ne, if_pos, if_neg, b01, b01n, ite_not, if_true, if_false, hLL]
      exact hl.trans ih
  rw [go_X0_mostAlike, e_X0_mostAlike_0]
  exact key 7 0 9999935 0 (by decide) (by decide)
end BKS
