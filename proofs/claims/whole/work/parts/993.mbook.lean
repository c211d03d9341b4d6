/-! THE BOOK'S TEXT: the reference; both calls -/
theorem RXx_big (w : Bool × Bool × Bool) {k : Nat} (h : 12 ≤ k) : RXx w k = none := by
  unfold RXx
  rw [if_neg (by omega), if_neg (by omega), if_neg (by omega), if_neg (by omega)]
theorem RX_0 (w : Bool × Bool × Bool) (k : Nat) : RX w 0 k = RXx w k := rfl
theorem RX_o (w w' : Bool × Bool × Bool) {o : Nat} (h : o ≠ 0) (k : Nat) : RX w o k = RX w' o k := by
  unfold RX
  by_cases h1 : o = 132
  · rw [if_pos h1, if_pos h1]
  · rw [if_neg h1, if_neg h1, if_neg h, if_neg h]
theorem RX_sw {w w' : Bool × Bool × Bool} {a b : Nat} {x y : Option Nat} (hab : a ≠ b) (h1 : RXx w' a = x) (h2 : RXx w' b = y) (h3 : ∀ k, k < 12 → k ≠ a → k ≠ b → RXx w k = RXx w' k) : uR (uR (RX w) 0 a x) 0 b y = RX w' := by
  funext o k
  unfold uR
  by_cases ho : o = 0
  · subst ho
    rw [va_up_self, va_up_self]
    by_cases e1 : k = b
    · rw [e1, va_up_self, RX_0, h2]
    · rw [va_up_ne _ _ e1]
      by_cases e2 : k = a
      · rw [e2, va_up_self, RX_0, h1]
      · rw [va_up_ne _ _ e2, RX_0, RX_0]
        by_cases e3 : k < 12
        · exact h3 k e3 e2 e1
        · rw [RXx_big w (by omega), RXx_big w' (by omega)]
  · rw [va_up_ne _ _ ho, va_up_ne _ _ ho]
    exact RX_o w w' ho k
theorem RX_B (w : Bool × Bool × Bool) : uR (uR (RX w) 0 10 (some (iB (!w.2.2)))) 0 11 (some (iB w.2.2)) = RX (w.1, w.2.1, !w.2.2) := by
  obtain ⟨w1, w2, w3⟩ := w
  refine RX_sw (by decide) rfl ?_ ?_
  · cases w3 <;> rfl
  · cases w1 <;> cases w2 <;> cases w3 <;> decide
theorem RX_W (w : Bool × Bool × Bool) : uR (uR (RX w) 0 8 (some (iW (!w.2.1)))) 0 9 (some (iW w.2.1)) = RX (w.1, !w.2.1, w.2.2) := by
  obtain ⟨w1, w2, w3⟩ := w
  refine RX_sw (by decide) rfl ?_ ?_
  · cases w2 <;> rfl
  · cases w1 <;> cases w2 <;> cases w3 <;> decide
theorem RX_L (w : Bool × Bool × Bool) : uR (uR (RX w) 0 6 (some (iL (!w.1)))) 0 7 (some (iL w.1)) = RX (!w.1, w.2.1, w.2.2) := by
  obtain ⟨w1, w2, w3⟩ := w
  refine RX_sw (by decide) rfl ?_ ?_
  · cases w1 <;> rfl
  · cases w1 <;> cases w2 <;> cases w3 <;> decide
section MBK
variable {X : Nat × (Nat → Int32)} {d : Nat} {w : Bool × Bool × Bool} {S : Hp} {J : Nat → Nat → Int64} {B : Nat → Int} {e p q : Nat} {nB : Int} {bk : Int → Int} {bb : Bool}
/-- the lines read so far -/
def NBk (S : Hp) (nB : Int) (bk : Int → Int) : Prop := (∀ i, 0 ≤ i → i < nB → S 151 (2 * i) = bk (2 * i) ∧ S 151 (2 * i + 1) = bk (2 * i + 1)) ∧ BkR nB bk
abbrev FB (S S' : Hp) : Prop := Fr [132, 151] S S' ∧ ∀ k, k < 4 ∨ 6 < k → S' 132 k = S 132 k
theorem FB_m {S S' : Hp} (h : FM S S') : FB S S' := ⟨fun o ho => h.1 o (fun z => ho (by rw [List.mem_singleton.mp z]; exact List.mem_cons_self ..)), h.2⟩
theorem FB_tr {S S1 S2 : Hp} (h : FB S S1) (h2 : FB S1 S2) : FB S S2 := ⟨fun o ho => (h2.1 o ho).trans (h.1 o ho), fun k hk1 => (h2.2 k hk1).trans (h.2 k hk1)⟩
theorem FB_u (S : Hp) (a v : Int) : FB S (uS S 151 a v) := ⟨fun x hx => uS_row _ _ _ (fun z => hx (by rw [z]; decide)), fun k _ => by rw [uS_row _ _ _ (by decide)]⟩
theorem NBk_m {S S' : Hp} (h : NBk S nB bk) (hF : FM S S') : NBk S' nB bk := ⟨by rw [hF.1 151 (by decide)]; exact h.1, h.2⟩
/-- all is wrong already: the loop over the lines runs through -/
theorem ml_43B {k pl h : Int} (hB : Bd S k pl) (hn : 0 ≤ nB ∧ nB ≤ 6) {t : Int} : ∀ (j i n : Nat), (i : Int) + j = nB → j + 1 ≤ n → ∃ n', n = n' + j + 1 ∧ aR X (d + 2) m_X10_book n 43 [some (.ref 132), none, some (.int (zI nB)), some (.int (zI t)), some (.int (zI h)), some (.int (zI ((i : Int))))] (0, 0) (mkS w (hI S) J) = aR X (d + 2) m_X10_book n' 73 [some (.ref 132), none, some (.int (zI nB)), none, some (.int (zI h)), none] (0, 0) (mkS w (hI S) J)
  | 0, i, n, h1, h2 => by
    obtain ⟨n, rfl⟩ : ∃ m, n = m + 1 := ⟨n - 1, by omega⟩
    have hf := fun d => M_fine0 (X := X) (d := d) (w := w) (J := J) hB
    refine ⟨n, rfl, ?_⟩
    rw [e_X10_book_43]
    simp (disch := omega) only [hk, hu, hI_n, hI_un, z_nat, em_d, zl, z_add, z_sub, z_mul, z_lt, z_eq, gI_mk, gJ_mk, cI_some, cV_some, cJ_some, cI_x, cV_x, cJ_x, uS_self, uS_ne, if_pos, if_neg, b01, b01n, ite_not, if_true, if_false, Bool.false_eq_true]
    rw [hf]
    simp (disch := omega) only [hk, hu, hI_n, hI_un, z_nat, em_d, zl, z_add, z_sub, z_mul, z_lt, z_eq, gI_mk, gJ_mk, cI_some, cV_some, cJ_some, cI_x, cV_x, cJ_x, uS_self, uS_ne, if_pos, if_neg, b01, b01n, ite_not, if_true, if_false, Bool.false_eq_true]
  | j + 1, i, n, h1, h2 => by
    obtain ⟨n, rfl⟩ : ∃ m, n = m + 1 := ⟨n - 1, by omega⟩
    have hf := fun d => M_fine0 (X := X) (d := d) (w := w) (J := J) hB
    obtain ⟨n', g1, g2⟩ := ml_43B (h := h) hB hn (t := t) j (i + 1) n (by omega) (by omega)
    rw [show ((i + 1 : Nat) : Int) = (i : Int) + 1 by omega] at g2
    refine ⟨n', by omega, ?_⟩
    rw [e_X10_book_43]
    simp (disch := omega) only [hk, hu, hI_n, hI_un, z_nat, em_d, zl, z_add, z_sub, z_mul, z_lt, z_eq, gI_mk, gJ_mk, cI_some, cV_some, cJ_some, cI_x, cV_x, cJ_x, uS_self, uS_ne, if_pos, if_neg, b01, b01n, ite_not, if_true, if_false, Bool.false_eq_true]
    rw [hf]
    simp (disch := omega) only [hk, hu, hI_n, hI_un, z_nat, em_d, zl, z_add, z_sub, z_mul, z_lt, z_eq, gI_mk, gJ_mk, cI_some, cV_some, cJ_some, cI_x, cV_x, cJ_x, uS_self, uS_ne, if_pos, if_neg, b01, b01n, ite_not, if_true, if_false, Bool.false_eq_true]
    exact g2
/-- fine so far: is the hour told, are there too many -/
theorem ml_43 (w : Bool × Bool × Bool) (J : Nat → Nat → Int64) (hM : Mp S B e p) (hN : NBk S nB bk) {h : Int} (hh : 0 ≤ h ∧ h ≤ 55) (hq : q ≤ 600) : ∀ (j i : Nat), (i : Int) + j = nB → ∃ S', (∀ d n, j + 1 ≤ n → ∃ n', n = n' + j + 1 ∧ aR X (d + 2) m_X10_book n 43 [some (.ref 132), none, some (.int (zI nB)), some (.int (zI ((q : Int)))), some (.int (zI h)), some (.int (zI ((i : Int))))] (0, 0) (mkS w (hI S) J) = aR X (d + 2) m_X10_book n' 73 [some (.ref 132), none, some (.int (zI nB)), none, some (.int (zI h)), none] (0, 0) (mkS w (hI S') J)) ∧ (tolB bk h j (i : Int) = true → Bd S' 2 (q : Int)) ∧ (¬ tolB bk h j (i : Int) = true → nB = 6 → Bd S' 3 (q : Int)) ∧ (¬ tolB bk h j (i : Int) = true → ¬ nB = 6 → S' = S) ∧ FM S S'
  | 0, i, h1 => by
    obtain ⟨ht, r1, r2, r3⟩ := id hN
    have hf := fun d => M_fine1 (X := X) (d := d) (w := w) (J := J) hM
    by_cases q6 : nB = 6
    · obtain ⟨S1, g1, g2, -, g3⟩ := M_wrong1 (X := X) w J hM 3 (q : Int) (by omega)
      refine ⟨S1, fun d n hn => ?_, fun z => absurd (show false = true from z) (by decide), fun _ _ => g2, fun _ z => absurd q6 z, g3⟩
      obtain ⟨n, rfl⟩ : ∃ m, n = m + 1 := ⟨n - 1, by omega⟩
      refine ⟨n, rfl, ?_⟩
      rw [e_X10_book_43]
      simp (disch := omega) only [hk, hu, hI_n, hI_un, z_nat, em_d, zl, z_add, z_sub, z_mul, z_lt, z_eq, gI_mk, gJ_mk, cI_some, cV_some, cJ_some, cI_x, cV_x, cJ_x, uS_self, uS_ne, if_pos, if_neg, b01, b01n, ite_not, if_true, if_false, Bool.false_eq_true]
      rw [hf]
      simp (disch := omega) only [hk, hu, hI_n, hI_un, z_nat, em_d, zl, z_add, z_sub, z_mul, z_lt, z_eq, gI_mk, gJ_mk, cI_some, cV_some, cJ_some, cI_x, cV_x, cJ_x, uS_self, uS_ne, if_pos, if_neg, b01, b01n, ite_not, if_true, if_false, Bool.false_eq_true]
      rw [g1]
      simp (disch := omega) only [hk, hu, hI_n, hI_un, z_nat, em_d, zl, z_add, z_sub, z_mul, z_lt, z_eq, gI_mk, gJ_mk, cI_some, cV_some, cJ_some, cI_x, cV_x, cJ_x, uS_self, uS_ne, if_pos, if_neg, b01, b01n, ite_not, if_true, if_false, Bool.false_eq_true]
    · refine ⟨S, fun d n hn => ?_, fun z => absurd (show false = true from z) (by decide), fun _ z => absurd z q6, fun _ _ => rfl, FM_rf S⟩
      obtain ⟨n, rfl⟩ : ∃ m, n = m + 1 := ⟨n - 1, by omega⟩
      refine ⟨n, rfl, ?_⟩
      rw [e_X10_book_43]
      simp (disch := omega) only [hk, hu, hI_n, hI_un, z_nat, em_d, zl, z_add, z_sub, z_mul, z_lt, z_eq, gI_mk, gJ_mk, cI_some, cV_some, cJ_some, cI_x, cV_x, cJ_x, uS_self, uS_ne, if_pos, if_neg, b01, b01n, ite_not, if_true, if_false, Bool.false_eq_true]
      rw [hf]
      simp (disch := omega) only [hk, hu, hI_n, hI_un, z_nat, em_d, zl, z_add, z_sub, z_mul, z_lt, z_eq, gI_mk, gJ_mk, cI_some, cV_some, cJ_some, cI_x, cV_x, cJ_x, uS_self, uS_ne, if_pos, if_neg, b01, b01n, ite_not, if_true, if_false, Bool.false_eq_true]
  | j + 1, i, h1 => by
    obtain ⟨ht, r1, r2, r3⟩ := id hN
    have hf := fun d => M_fine1 (X := X) (d := d) (w := w) (J := J) hM
    obtain ⟨e1, -⟩ := ht (i : Int) (by omega) (by omega)
    obtain ⟨v1, v2, -⟩ := r3 (i : Int) (by omega) (by omega)
    have et : tolB bk h (j + 1) (i : Int) = (decide (bk (2 * (i : Int)) = h) || tolB bk h j ((i : Int) + 1)) := rfl
    by_cases q2 : bk (2 * (i : Int)) = h
    · obtain ⟨S1, g1, g2, -, g3⟩ := M_wrong1 (X := X) w J hM 2 (q : Int) (by omega)
      have ett : tolB bk h (j + 1) (i : Int) = true := by rw [et, decide_eq_true q2, Bool.true_or]
      refine ⟨S1, fun d n hn => ?_, fun _ => g2, fun z => absurd ett z, fun z => absurd ett z, g3⟩
      obtain ⟨n, rfl⟩ : ∃ m, n = m + 1 := ⟨n - 1, by omega⟩
      obtain ⟨n', f1, f2⟩ := ml_43B (X := X) (d := d) (w := w) (J := J) (h := h) (nB := nB) (t := (q : Int)) g2 ⟨r1, r2⟩ j (i + 1) n (by omega) (by omega)
      rw [show ((i + 1 : Nat) : Int) = (i : Int) + 1 by omega] at f2
      refine ⟨n', by omega, ?_⟩
      rw [e_X10_book_43]
      simp (disch := omega) only [hk, hu, hI_n, hI_un, z_nat, em_d, zl, z_add, z_sub, z_mul, z_lt, z_eq, gI_mk, gJ_mk, cI_some, cV_some, cJ_some, cI_x, cV_x, cJ_x, uS_self, uS_ne, if_pos, if_neg, b01, b01n, ite_not, if_true, if_false, Bool.false_eq_true]
      rw [hf]
      simp (disch := omega) only [hk, hu, hI_n, hI_un, z_nat, em_d, zl, z_add, z_sub, z_mul, z_lt, z_eq, gI_mk, gJ_mk, cI_some, cV_some, cJ_some, cI_x, cV_x, cJ_x, uS_self, uS_ne, if_pos, if_neg, b01, b01n, ite_not, if_true, if_false, Bool.false_eq_true, e1]
      rw [g1]
      simp (disch := omega) only [hk, hu, hI_n, hI_un, z_nat, em_d, zl, z_add, z_sub, z_mul, z_lt, z_eq, gI_mk, gJ_mk, cI_some, cV_some, cJ_some, cI_x, cV_x, cJ_x, uS_self, uS_ne, if_pos, if_neg, b01, b01n, ite_not, if_true, if_false, Bool.false_eq_true]
      exact f2
    · obtain ⟨S1, g1, g2, g3, g4, g5⟩ := ml_43 w J hM hN hh hq j (i + 1) (by omega)
      rw [show ((i + 1 : Nat) : Int) = (i : Int) + 1 by omega] at g1 g2 g3 g4
      rw [et, decide_eq_false q2, Bool.false_or]
      refine ⟨S1, fun d n hn => ?_, g2, g3, g4, g5⟩
      obtain ⟨n, rfl⟩ : ∃ m, n = m + 1 := ⟨n - 1, by omega⟩
      obtain ⟨n', f1, f2⟩ := g1 d n (by omega)
      refine ⟨n', by omega, ?_⟩
      rw [e_X10_book_43]
      simp (disch := omega) only [hk, hu, hI_n, hI_un, z_nat, em_d, zl, z_add, z_sub, z_mul, z_lt, z_eq, gI_mk, gJ_mk, cI_some, cV_some, cJ_some, cI_x, cV_x, cJ_x, uS_self, uS_ne, if_pos, if_neg, b01, b01n, ite_not, if_true, if_false, Bool.false_eq_true]
      rw [hf]
      simp (disch := omega) only [hk, hu, hI_n, hI_un, z_nat, em_d, zl, z_add, z_sub, z_mul, z_lt, z_eq, gI_mk, gJ_mk, cI_some, cV_some, cJ_some, cI_x, cV_x, cJ_x, uS_self, uS_ne, if_pos, if_neg, b01, b01n, ite_not, if_true, if_false, Bool.false_eq_true, e1]
      exact f2
/-- wrong: the rest of the line is passed over -/
theorem ml_73B {k pl h : Int} (hB : Bd S k pl) {n : Nat} : aR X (d + 2) m_X10_book (n + 1) 73 [some (.ref 132), none, some (.int (zI nB)), none, some (.int (zI h)), none] (0, 0) (mkS w (hI S) J) = aR X (d + 2) m_X10_book n 103 [some (.ref 132), none, some (.int (zI nB)), none, none, none] (0, 0) (mkS w (hI S) J) := by
  rw [e_X10_book_73]
  simp (disch := omega) only [hk, hu, hI_n, hI_un, z_nat, em_d, zl, z_add, z_sub, z_mul, z_lt, z_eq, gI_mk, gJ_mk, cI_some, cV_some, cJ_some, cI_x, cV_x, cJ_x, uS_self, uS_ne, if_pos, if_neg, b01, b01n, ite_not, if_true, if_false, Bool.false_eq_true]
  rw [M_numB hB]
  simp (disch := omega) only [hk, hu, hI_n, hI_un, z_nat, em_d, zl, z_add, z_sub, z_mul, z_lt, z_eq, gI_mk, gJ_mk, cI_some, cV_some, cJ_some, cI_x, cV_x, cJ_x, uS_self, uS_ne, if_pos, if_neg, b01, b01n, ite_not, if_true, if_false, Bool.false_eq_true]
  rw [M_signB hB]
  simp (disch := omega) only [hk, hu, hI_n, hI_un, z_nat, em_d, zl, z_add, z_sub, z_mul, z_lt, z_eq, gI_mk, gJ_mk, cI_some, cV_some, cJ_some, cI_x, cV_x, cJ_x, uS_self, uS_ne, if_pos, if_neg, b01, b01n, ite_not, if_true, if_false, Bool.false_eq_true]
  rw [M_fine0 hB]
  simp (disch := omega) only [hk, hu, hI_n, hI_un, z_nat, em_d, zl, z_add, z_sub, z_mul, z_lt, z_eq, gI_mk, gJ_mk, cI_some, cV_some, cJ_some, cI_x, cV_x, cJ_x, uS_self, uS_ne, if_pos, if_neg, b01, b01n, ite_not, if_true, if_false, Bool.false_eq_true]
/-- from the loop's head to behind the first number -/
theorem ml_27 (w : Bool × Bool × Bool) (J : Nat → Nat → Int64) (hM : Mp S B e p) (q1 : sk B e p < e) : ∃ S1, (∀ d n, aR X (d + 2) m_X10_book (n + 1) 27 [some (.ref 132), none, some (.int (zI nB)), none, none, none] (0, 0) (mkS w (hI S) J) = cI (am_call X aP (d + 2) 165 [.ref 132, .int (zI 0), .int (zI 55)] (mkS w (hI S1) J)) (fun r6 s5 => aR X (d + 2) m_X10_book n 43 [some (.ref 132), none, some (.int (zI nB)), some (.int (zI ((sk B e p : Nat)))), some (.int r6), some (.int (zI 0))] (0, 0) (mkS w (gI s5) (gJ s5))) (fun e9 s5 => rX e9 (mkS w (gI s5) (gJ s5)))) ∧ Mp S1 B e (sk B e p) ∧ FM S S1 := by
  have hf := fun d => M_fine1 (X := X) (d := d) (w := w) (J := J) hM
  obtain ⟨S1, g1, g2, g3⟩ := M_isMore (X := X) w J hM
  have a6 := g2.2.2.2.2.1
  refine ⟨S1, fun d n => ?_, g2, g3⟩
  rw [e_X10_book_27]
  simp (disch := omega) only [hk, hu, hI_n, hI_un, z_nat, em_d, zl, z_add, z_sub, z_mul, z_lt, z_eq, gI_mk, gJ_mk, cI_some, cV_some, cJ_some, cI_x, cV_x, cJ_x, uS_self, uS_ne, if_pos, if_neg, b01, b01n, ite_not, if_true, if_false, Bool.false_eq_true]
  rw [hf]
  simp (disch := omega) only [hk, hu, hI_n, hI_un, z_nat, em_d, zl, z_add, z_sub, z_mul, z_lt, z_eq, gI_mk, gJ_mk, cI_some, cV_some, cJ_some, cI_x, cV_x, cJ_x, uS_self, uS_ne, if_pos, if_neg, b01, b01n, ite_not, if_true, if_false, Bool.false_eq_true]
  rw [g1]
  simp (disch := omega) only [hk, hu, hI_n, hI_un, z_nat, em_d, zl, z_add, z_sub, z_mul, z_lt, z_eq, gI_mk, gJ_mk, cI_some, cV_some, cJ_some, cI_x, cV_x, cJ_x, uS_self, uS_ne, if_pos, if_neg, b01, b01n, ite_not, if_true, if_false, Bool.false_eq_true, a6]
theorem ml_27e (w : Bool × Bool × Bool) (J : Nat → Nat → Int64) (hM : Mp S B e p) (hN : NBk S nB bk) (q1 : ¬ sk B e p < e) : ∃ S1, (∀ d n, aR X (d + 2) m_X10_book (n + 1) 27 [some (.ref 132), none, some (.int (zI nB)), none, none, none] (0, 0) (mkS w (hI S) J) = aR X (d + 2) m_X10_book n 103 [some (.ref 132), none, some (.int (zI nB)), none, none, none] (0, 0) (mkS w (hI S1) J)) ∧ Mp S1 B e (sk B e p) ∧ NBk S1 nB bk ∧ FB S S1 := by
  have hf := fun d => M_fine1 (X := X) (d := d) (w := w) (J := J) hM
  obtain ⟨S1, g1, g2, g3⟩ := M_isMore (X := X) w J hM
  refine ⟨S1, fun d n => ?_, g2, NBk_m hN g3, FB_m g3⟩
  rw [e_X10_book_27]
  simp (disch := omega) only [hk, hu, hI_n, hI_un, z_nat, em_d, zl, z_add, z_sub, z_mul, z_lt, z_eq, gI_mk, gJ_mk, cI_some, cV_some, cJ_some, cI_x, cV_x, cJ_x, uS_self, uS_ne, if_pos, if_neg, b01, b01n, ite_not, if_true, if_false, Bool.false_eq_true]
  rw [hf]
  simp (disch := omega) only [hk, hu, hI_n, hI_un, z_nat, em_d, zl, z_add, z_sub, z_mul, z_lt, z_eq, gI_mk, gJ_mk, cI_some, cV_some, cJ_some, cI_x, cV_x, cJ_x, uS_self, uS_ne, if_pos, if_neg, b01, b01n, ite_not, if_true, if_false, Bool.false_eq_true]
  rw [g1, if_neg q1]
  simp (disch := omega) only [hk, hu, hI_n, hI_un, z_nat, em_d, zl, z_add, z_sub, z_mul, z_lt, z_eq, gI_mk, gJ_mk, cI_some, cV_some, cJ_some, cI_x, cV_x, cJ_x, uS_self, uS_ne, if_pos, if_neg, b01, b01n, ite_not, if_true, if_false, Bool.false_eq_true]
theorem ml_lnA (w : Bool × Bool × Bool) (J : Nat → Nat → Int64) (hM : Mp S B e p) (hN : NBk S nB bk) (q1 : sk B e p < e) (k1 : ¬ numK B e (sk B e p) 0 55 = 0) : ∃ S2, (∀ d n, 10 ≤ n → ∃ n', n ≤ n' + 10 ∧ aR X (d + 2) m_X10_book n 27 [some (.ref 132), none, some (.int (zI nB)), none, none, none] (0, 0) (mkS w (hI S) J) = aR X (d + 2) m_X10_book n' 103 [some (.ref 132), none, some (.int (zI nB)), none, none, none] (0, 0) (mkS w (hI S2) J)) ∧ Bd S2 (numK B e (sk B e p) 0 55) (sk B e p : Nat) ∧ FB S S2 := by
  obtain ⟨S1, g1, g2, g3⟩ := ml_27 (X := X) (nB := nB) w J hM q1
  obtain ⟨-, r1, r2, -⟩ := id hN
  obtain ⟨S2, f1, f2, f3⟩ := M_num0 (X := X) w J g2 sk_sk (lo := 0) (hi := 55) (by decide) (by decide) k1
  refine ⟨S2, fun d n hn => ?_, f2, FB_tr (FB_m g3) (FB_m f3)⟩
  obtain ⟨n, rfl⟩ : ∃ m, n = m + 1 := ⟨n - 1, by omega⟩
  obtain ⟨n', z1, z2⟩ := ml_43B (X := X) (d := d) (w := w) (J := J) (h := 0) (nB := nB) (t := (sk B e p : Nat)) f2 ⟨r1, r2⟩ nB.toNat 0 n (by omega) (by omega)
  obtain ⟨n'', rfl⟩ : ∃ m, n' = m + 1 := ⟨n' - 1, by omega⟩
  refine ⟨n'', by omega, ?_⟩
  rw [g1, f1]
  simp (disch := omega) only [hk, hu, hI_n, hI_un, z_nat, em_d, zl, z_add, z_sub, z_mul, z_lt, z_eq, gI_mk, gJ_mk, cI_some, cV_some, cJ_some, cI_x, cV_x, cJ_x, uS_self, uS_ne, if_pos, if_neg, b01, b01n, ite_not, if_true, if_false, Bool.false_eq_true]
  exact z2.trans (ml_73B f2)
theorem ml_lnB (w : Bool × Bool × Bool) (J : Nat → Nat → Int64) (hM : Mp S B e p) (hN : NBk S nB bk) (q1 : sk B e p < e) (k1 : numK B e (sk B e p) 0 55 = 0) : ∃ S2, (∀ d n, 10 ≤ n → ∃ n', n ≤ n' + 9 ∧ aR X (d + 2) m_X10_book n 27 [some (.ref 132), none, some (.int (zI nB)), none, none, none] (0, 0) (mkS w (hI S) J) = aR X (d + 2) m_X10_book n' 73 [some (.ref 132), none, some (.int (zI nB)), none, some (.int (zI ((numV B e (sk B e p))))), none] (0, 0) (mkS w (hI S2) J)) ∧ (tolB bk (numV B e (sk B e p)) nB.toNat 0 = true → Bd S2 2 (sk B e p : Nat)) ∧ (¬ tolB bk (numV B e (sk B e p)) nB.toNat 0 = true → nB = 6 → Bd S2 3 (sk B e p : Nat)) ∧ (¬ tolB bk (numV B e (sk B e p)) nB.toNat 0 = true → ¬ nB = 6 → Mp S2 B e (numE B e (sk B e p)) ∧ NBk S2 nB bk) ∧ FB S S2 := by
  obtain ⟨S1, g1, g2, g3⟩ := ml_27 (X := X) (nB := nB) w J hM q1
  obtain ⟨-, r1, r2, -⟩ := id hN
  obtain ⟨n1, n2, n3⟩ := numK_0 k1
  obtain ⟨S2, f1, f2, f3⟩ := M_num1 (X := X) w J g2 sk_sk (lo := 0) (hi := 55) (by decide) (by decide) k1
  have hN2 := NBk_m (NBk_m hN g3) f3
  obtain ⟨S3, y1, y2, y3, y4, y5⟩ := ml_43 (X := X) (q := sk B e p) w J f2 hN2 (h := numV B e (sk B e p)) ⟨n2, n3⟩ (by have := hM.2.2.1; omega) nB.toNat 0 (by omega)
  refine ⟨S3, fun d n hn => ?_, y2, y3, fun a b => ?_, FB_tr (FB_m g3) (FB_tr (FB_m f3) (FB_m y5))⟩
  · obtain ⟨n, rfl⟩ : ∃ m, n = m + 1 := ⟨n - 1, by omega⟩
    obtain ⟨n', z1, z2⟩ := y1 d n (by omega)
    refine ⟨n', by omega, ?_⟩
    rw [g1, f1]
    simp (disch := omega) only [hk, hu, hI_n, hI_un, z_nat, em_d, zl, z_add, z_sub, z_mul, z_lt, z_eq, gI_mk, gJ_mk, cI_some, cV_some, cJ_some, cI_x, cV_x, cJ_x, uS_self, uS_ne, if_pos, if_neg, b01, b01n, ite_not, if_true, if_false, Bool.false_eq_true]
    exact z2
  · rw [y4 a b]
    exact ⟨f2, hN2⟩
theorem ml_lnC (w : Bool × Bool × Bool) (J : Nat → Nat → Int64) (hM : Mp S B e p) (k4 : ¬ numK B e (sk B e p) 0 99 = 0) {h : Int} : ∃ S2, (∀ d n, aR X (d + 2) m_X10_book (n + 1) 73 [some (.ref 132), none, some (.int (zI nB)), none, some (.int (zI h)), none] (0, 0) (mkS w (hI S) J) = aR X (d + 2) m_X10_book n 103 [some (.ref 132), none, some (.int (zI nB)), none, none, none] (0, 0) (mkS w (hI S2) J)) ∧ Bd S2 (numK B e (sk B e p) 0 99) (sk B e p : Nat) ∧ FB S S2 := by
  obtain ⟨S4, x1, x2, x3⟩ := M_num0 (X := X) w J hM rfl (lo := 0) (hi := 99) (by decide) (by decide) k4
  have hs4 := fun d => M_signB (X := X) (d := d) (w := w) (J := J) (c := 59) x2
  have hf4 := fun d => M_fine0 (X := X) (d := d) (w := w) (J := J) x2
  refine ⟨S4, fun d n => ?_, x2, FB_m x3⟩
  rw [e_X10_book_73]
  simp (disch := omega) only [hk, hu, hI_n, hI_un, z_nat, em_d, zl, z_add, z_sub, z_mul, z_lt, z_eq, gI_mk, gJ_mk, cI_some, cV_some, cJ_some, cI_x, cV_x, cJ_x, uS_self, uS_ne, if_pos, if_neg, b01, b01n, ite_not, if_true, if_false, Bool.false_eq_true]
  rw [x1]
  simp (disch := omega) only [hk, hu, hI_n, hI_un, z_nat, em_d, zl, z_add, z_sub, z_mul, z_lt, z_eq, gI_mk, gJ_mk, cI_some, cV_some, cJ_some, cI_x, cV_x, cJ_x, uS_self, uS_ne, if_pos, if_neg, b01, b01n, ite_not, if_true, if_false, Bool.false_eq_true]
  rw [hs4]
  simp (disch := omega) only [hk, hu, hI_n, hI_un, z_nat, em_d, zl, z_add, z_sub, z_mul, z_lt, z_eq, gI_mk, gJ_mk, cI_some, cV_some, cJ_some, cI_x, cV_x, cJ_x, uS_self, uS_ne, if_pos, if_neg, b01, b01n, ite_not, if_true, if_false, Bool.false_eq_true]
  rw [hf4]
  simp (disch := omega) only [hk, hu, hI_n, hI_un, z_nat, em_d, zl, z_add, z_sub, z_mul, z_lt, z_eq, gI_mk, gJ_mk, cI_some, cV_some, cJ_some, cI_x, cV_x, cJ_x, uS_self, uS_ne, if_pos, if_neg, b01, b01n, ite_not, if_true, if_false, Bool.false_eq_true]
theorem ml_lnD (w : Bool × Bool × Bool) (J : Nat → Nat → Int64) (hM : Mp S B e p) (k4 : numK B e (sk B e p) 0 99 = 0) (k5 : ¬ (sk B e (numE B e (sk B e p)) < e ∧ B (sk B e (numE B e (sk B e p))) = 59)) {h : Int} : ∃ S2, (∀ d n, aR X (d + 2) m_X10_book (n + 1) 73 [some (.ref 132), none, some (.int (zI nB)), none, some (.int (zI h)), none] (0, 0) (mkS w (hI S) J) = aR X (d + 2) m_X10_book n 103 [some (.ref 132), none, some (.int (zI nB)), none, none, none] (0, 0) (mkS w (hI S2) J)) ∧ Bd S2 1 (sk B e (numE B e (sk B e p)) : Nat) ∧ FB S S2 := by
  obtain ⟨S4, x1, x2, x3⟩ := M_num1 (X := X) w J hM rfl (lo := 0) (hi := 99) (by decide) (by decide) k4
  obtain ⟨S5, v1, v2, v3⟩ := M_sign0 (X := X) w J x2 (c := 59) (by decide) k5
  have hf5 := fun d => M_fine0 (X := X) (d := d) (w := w) (J := J) v2
  refine ⟨S5, fun d n => ?_, v2, FB_tr (FB_m x3) (FB_m v3)⟩
  rw [e_X10_book_73]
  simp (disch := omega) only [hk, hu, hI_n, hI_un, z_nat, em_d, zl, z_add, z_sub, z_mul, z_lt, z_eq, gI_mk, gJ_mk, cI_some, cV_some, cJ_some, cI_x, cV_x, cJ_x, uS_self, uS_ne, if_pos, if_neg, b01, b01n, ite_not, if_true, if_false, Bool.false_eq_true]
  rw [x1]
  simp (disch := omega) only [hk, hu, hI_n, hI_un, z_nat, em_d, zl, z_add, z_sub, z_mul, z_lt, z_eq, gI_mk, gJ_mk, cI_some, cV_some, cJ_some, cI_x, cV_x, cJ_x, uS_self, uS_ne, if_pos, if_neg, b01, b01n, ite_not, if_true, if_false, Bool.false_eq_true]
  rw [v1]
  simp (disch := omega) only [hk, hu, hI_n, hI_un, z_nat, em_d, zl, z_add, z_sub, z_mul, z_lt, z_eq, gI_mk, gJ_mk, cI_some, cV_some, cJ_some, cI_x, cV_x, cJ_x, uS_self, uS_ne, if_pos, if_neg, b01, b01n, ite_not, if_true, if_false, Bool.false_eq_true]
  rw [hf5]
  simp (disch := omega) only [hk, hu, hI_n, hI_un, z_nat, em_d, zl, z_add, z_sub, z_mul, z_lt, z_eq, gI_mk, gJ_mk, cI_some, cV_some, cJ_some, cI_x, cV_x, cJ_x, uS_self, uS_ne, if_pos, if_neg, b01, b01n, ite_not, if_true, if_false, Bool.false_eq_true]
theorem ml_lnE (w : Bool × Bool × Bool) (J : Nat → Nat → Int64) (hM : Mp S B e p) (hN : NBk S nB bk) (h6 : ¬ nB = 6) (k4 : numK B e (sk B e p) 0 99 = 0) (k5 : sk B e (numE B e (sk B e p)) < e ∧ B (sk B e (numE B e (sk B e p))) = 59) {h : Int} (hh : 0 ≤ h ∧ h ≤ 55) : ∃ S2, (∀ d n, aR X (d + 2) m_X10_book (n + 1) 73 [some (.ref 132), none, some (.int (zI nB)), none, some (.int (zI h)), none] (0, 0) (mkS w (hI S) J) = aR X (d + 2) m_X10_book n 27 [some (.ref 132), none, some (.int (zI ((nB + 1)))), none, none, none] (0, 0) (mkS w (hI S2) J)) ∧ Mp S2 B e (sk B e (numE B e (sk B e p)) + 1) ∧ NBk S2 (nB + 1) (bkU bk nB h (numV B e (sk B e p))) ∧ FB S S2 := by
  obtain ⟨m1, m2, m3⟩ := numK_0 k4
  obtain ⟨S4, x1, x2, x3⟩ := M_num1 (X := X) w J hM rfl (lo := 0) (hi := 99) (by decide) (by decide) k4
  obtain ⟨S5, v1, v2, v3⟩ := M_sign1 (X := X) w J x2 (c := 59) (by decide) k5
  have hf5 := fun d => M_fine1 (X := X) (d := d) (w := w) (J := J) v2
  have hN5 := NBk_m (NBk_m hN x3) v3
  obtain ⟨-, r1, r2, -⟩ := id hN
  generalize numV B e (sk B e p) = m at *
  refine ⟨uS (uS S5 151 (2 * nB) h) 151 (2 * nB + 1) m, fun d n => ?_, Mp_o v2 (fun k _ _ => by rw [uS_row _ _ _ (by decide), uS_row _ _ _ (by decide)]) (by rw [uS_row _ _ _ (by decide), uS_row _ _ _ (by decide)]), ⟨fun i i1 i2 => ?_, BkR_u hN.2 h6 hh ⟨m2, m3⟩⟩, FB_tr (FB_m x3) (FB_tr (FB_m v3) (FB_tr (FB_u S5 _ _) (FB_u _ _ _)))⟩
  · rw [e_X10_book_73]
    simp (disch := omega) only [hk, hu, hI_n, hI_un, z_nat, em_d, zl, z_add, z_sub, z_mul, z_lt, z_eq, gI_mk, gJ_mk, cI_some, cV_some, cJ_some, cI_x, cV_x, cJ_x, uS_self, uS_ne, if_pos, if_neg, b01, b01n, ite_not, if_true, if_false, Bool.false_eq_true]
    rw [x1]
    simp (disch := omega) only [hk, hu, hI_n, hI_un, z_nat, em_d, zl, z_add, z_sub, z_mul, z_lt, z_eq, gI_mk, gJ_mk, cI_some, cV_some, cJ_some, cI_x, cV_x, cJ_x, uS_self, uS_ne, if_pos, if_neg, b01, b01n, ite_not, if_true, if_false, Bool.false_eq_true]
    rw [v1]
    simp (disch := omega) only [hk, hu, hI_n, hI_un, z_nat, em_d, zl, z_add, z_sub, z_mul, z_lt, z_eq, gI_mk, gJ_mk, cI_some, cV_some, cJ_some, cI_x, cV_x, cJ_x, uS_self, uS_ne, if_pos, if_neg, b01, b01n, ite_not, if_true, if_false, Bool.false_eq_true]
    rw [hf5]
    simp (disch := omega) only [hk, hu, hI_n, hI_un, z_nat, em_d, zl, z_add, z_sub, z_mul, z_lt, z_eq, gI_mk, gJ_mk, cI_some, cV_some, cJ_some, cI_x, cV_x, cJ_x, uS_self, uS_ne, if_pos, if_neg, b01, b01n, ite_not, if_true, if_false, Bool.false_eq_true]
  · by_cases ei : i = nB
    · rw [ei, bkU_0, bkU_1]
      simp (disch := omega) only [uS_ne, uS_self, and_self]
    · rw [bkU_o _ _ _ _ (by omega) (by omega), bkU_o _ _ _ _ (by omega) (by omega), uS_ne _ _ (Or.inr (by omega)), uS_ne _ _ (Or.inr (by omega)), uS_ne _ _ (Or.inr (by omega)), uS_ne _ _ (Or.inr (by omega))]
      exact hN5.1 i i1 (by omega)
def mbFin (S' : Hp) (B : Nat → Int) (e : Nat) (m : Int) (r : Flt ⊕ (Int × (Int → Int))) : Prop := match r with
  | .inl f => Bd S' f.1 f.2
  | .inr x => (∃ p', Mp S' B e p') ∧ m = x.1 ∧ NBk S' x.1 x.2
theorem bkRun_l {j q : Nat} {f : Flt} (q1 : q < e) (h : bkLn B e q nB bk = .inl f) : bkRun B e (j + 1) q nB bk = .inl f := by
  unfold bkRun
  rw [if_pos q1, h]
theorem bkRun_r {j q : Nat} {x : Int × Int × Nat} (q1 : q < e) (h : bkLn B e q nB bk = .inr x) : bkRun B e (j + 1) q nB bk = if x.2.2 < e ∧ B x.2.2 = 59 then bkRun B e j (sk B e (x.2.2 + 1)) (nB + 1) (bkU bk nB x.1 x.2.1) else .inl (1, (x.2.2 : Int)) := by
  show (if q < e then _ else _) = _
  rw [if_pos q1, h]
theorem ml_bkRun (w : Bool × Bool × Bool) (J : Nat → Nat → Int64) (he : e ≤ 60) : ∀ (j p i : Nat) (S : Hp) (nB : Int) (bk : Int → Int), i + j = 60 → i ≤ p → Mp S B e p → NBk S nB bk → ∃ S' m, (∀ d n, 20 * j + 20 ≤ n → ∃ n', aR X (d + 2) m_X10_book n 27 [some (.ref 132), none, some (.int (zI nB)), none, none, none] (0, 0) (mkS w (hI S) J) = aR X (d + 2) m_X10_book (n' + 1) 103 [some (.ref 132), none, some (.int (zI m)), none, none, none] (0, 0) (mkS w (hI S') J)) ∧ mbFin S' B e m (bkRun B e j (sk B e p) nB bk) ∧ FB S S'
  | 0, p, i, S, nB, bk, h1, h2, hM, hN => by
    have hsk := sk_ge (B := B) (e := e) (p := p)
    obtain ⟨S1, g1, g2, g3, g4⟩ := ml_27e (X := X) w J hM hN (by omega)
    refine ⟨S1, nB, fun d n hn => ⟨n - 2, ?_⟩, ⟨⟨_, g2⟩, rfl, g3⟩, g4⟩
    obtain ⟨n, rfl⟩ : ∃ m, n = m + 1 + 1 := ⟨n - 2, by omega⟩
    exact g1 d (n + 1)
  | j + 1, p, i, S, nB, bk, h1, h2, hM, hN => by
    have hsk := sk_ge (B := B) (e := e) (p := p)
    by_cases q1 : sk B e p < e
    · by_cases k1 : numK B e (sk B e p) 0 55 = 0
      · obtain ⟨n1, n2, n3⟩ := numK_0 k1
        have p1 := dg_pos n1
        obtain ⟨S2, g1, g2, g3, g4, g5⟩ := ml_lnB (X := X) w J hM hN q1 k1
        have bad : ∀ k, Bd S2 k (sk B e p : Nat) → bkLn B e (sk B e p) nB bk = .inl (k, ((sk B e p : Nat) : Int)) → ∃ S' m, (∀ d n, 20 * (j + 1) + 20 ≤ n → ∃ n', aR X (d + 2) m_X10_book n 27 [some (.ref 132), none, some (.int (zI nB)), none, none, none] (0, 0) (mkS w (hI S) J) = aR X (d + 2) m_X10_book (n' + 1) 103 [some (.ref 132), none, some (.int (zI m)), none, none, none] (0, 0) (mkS w (hI S') J)) ∧ mbFin S' B e m (bkRun B e (j + 1) (sk B e p) nB bk) ∧ FB S S' := fun k hb er => by
          rw [bkRun_l q1 er]
          refine ⟨S2, nB, fun d n hn => ?_, hb, g5⟩
          obtain ⟨n', z1, z2⟩ := g1 d n (by omega)
          obtain ⟨n'', rfl⟩ : ∃ m, n' = m + 1 + 1 := ⟨n' - 2, by omega⟩
          exact ⟨n'', z2.trans (ml_73B hb)⟩
        by_cases k2 : tolB bk (numV B e (sk B e p)) nB.toNat 0 = true
        · exact bad 2 (g2 k2) (by
            unfold bkLn
            rw [if_neg (fun z => z k1), if_pos k2])
        · by_cases k3 : nB = 6
          · exact bad 3 (g3 k2 k3) (by
              unfold bkLn
              rw [if_neg (fun z => z k1), if_neg k2, if_pos k3])
          · obtain ⟨hM2, hN2⟩ := g4 k2 k3
            by_cases k4 : numK B e (sk B e (numE B e (sk B e p))) 0 99 = 0
            · have er : bkLn B e (sk B e p) nB bk = .inr (numV B e (sk B e p), numV B e (sk B e (numE B e (sk B e p))), sk B e (numE B e (sk B e (numE B e (sk B e p))))) := by
                unfold bkLn
                rw [if_neg (fun z => z k1), if_neg k2, if_neg k3, if_neg (fun z => z k4)]
              have o1 := sk_ge (B := B) (e := e) (p := numE B e (sk B e p))
              have p2 := dg_pos (numK_0 k4).1
              have o2 := sk_ge (B := B) (e := e) (p := numE B e (sk B e (numE B e (sk B e p))))
              rw [bkRun_r q1 er]
              dsimp only
              by_cases k5 : sk B e (numE B e (sk B e (numE B e (sk B e p)))) < e ∧ B (sk B e (numE B e (sk B e (numE B e (sk B e p))))) = 59
              · rw [if_pos k5]
                obtain ⟨S3, f1, f2, f3, f4⟩ := ml_lnE (X := X) w J hM2 hN2 k3 k4 k5 ⟨n2, n3⟩
                obtain ⟨S4, m, u1, u2, u3⟩ := ml_bkRun w J he j _ (i + 1) S3 (nB + 1) _ (by omega) (by omega) f2 f3
                refine ⟨S4, m, fun d n hn => ?_, u2, FB_tr g5 (FB_tr f4 u3)⟩
                obtain ⟨n', z1, z2⟩ := g1 d n (by omega)
                obtain ⟨n'', rfl⟩ : ∃ m, n' = m + 1 := ⟨n' - 1, by omega⟩
                obtain ⟨n3, z3⟩ := u1 d n'' (by omega)
                exact ⟨n3, z2.trans ((f1 d n'').trans z3)⟩
              · rw [if_neg k5]
                obtain ⟨S3, f1, f2, f4⟩ := ml_lnD (X := X) (nB := nB) (h := numV B e (sk B e p)) w J hM2 k4 k5
                refine ⟨S3, nB, fun d n hn => ?_, f2, FB_tr g5 f4⟩
                obtain ⟨n', z1, z2⟩ := g1 d n (by omega)
                obtain ⟨n'', rfl⟩ : ∃ m, n' = m + 1 + 1 := ⟨n' - 2, by omega⟩
                exact ⟨n'', z2.trans (f1 d (n'' + 1))⟩
            · have er : bkLn B e (sk B e p) nB bk = .inl (numK B e (sk B e (numE B e (sk B e p))) 0 99, ((sk B e (numE B e (sk B e p)) : Nat) : Int)) := by
                unfold bkLn
                rw [if_neg (fun z => z k1), if_neg k2, if_neg k3, if_pos k4]
              rw [bkRun_l q1 er]
              obtain ⟨S3, f1, f2, f4⟩ := ml_lnC (X := X) (nB := nB) (h := numV B e (sk B e p)) w J hM2 k4
              refine ⟨S3, nB, fun d n hn => ?_, f2, FB_tr g5 f4⟩
              obtain ⟨n', z1, z2⟩ := g1 d n (by omega)
              obtain ⟨n'', rfl⟩ : ∃ m, n' = m + 1 + 1 := ⟨n' - 2, by omega⟩
              exact ⟨n'', z2.trans (f1 d (n'' + 1))⟩
      · have er : bkLn B e (sk B e p) nB bk = .inl (numK B e (sk B e p) 0 55, ((sk B e p : Nat) : Int)) := by
          unfold bkLn
          rw [if_pos k1]
        rw [bkRun_l q1 er]
        obtain ⟨S2, f1, f2, f4⟩ := ml_lnA (X := X) w J hM hN q1 k1
        refine ⟨S2, nB, fun d n hn => ?_, f2, f4⟩
        obtain ⟨n', z1, z2⟩ := f1 d n (by omega)
        obtain ⟨n'', rfl⟩ : ∃ m, n' = m + 1 := ⟨n' - 1, by omega⟩
        exact ⟨n'', z2⟩
    · have es : bkRun B e (j + 1) (sk B e p) nB bk = .inr (nB, bk) := if_neg q1
      rw [es]
      obtain ⟨S1, g1, g2, g3, g4⟩ := ml_27e (X := X) w J hM hN q1
      refine ⟨S1, nB, fun d n hn => ⟨n - 2, ?_⟩, ⟨⟨_, g2⟩, rfl, g3⟩, g4⟩
      obtain ⟨n, rfl⟩ : ∃ m, n = m + 1 + 1 := ⟨n - 2, by omega⟩
      exact g1 d (n + 1)
end MBK
