/-! THE BOOK'S TEXT -/
abbrev Flt : Type := Int × Int
def bkU (bk : Int → Int) (nB h m : Int) : Int → Int := pu (pu bk (2 * nB) h) (2 * nB + 1) m
def bkLn (B : Nat → Int) (e q : Nat) (nB : Int) (bk : Int → Int) : Flt ⊕ (Int × Int × Nat) :=
  if ¬ numK B e q 0 55 = 0 then .inl (numK B e q 0 55, (q : Int))
  else if tolB bk (numV B e q) nB.toNat 0 = true then .inl (2, (q : Int))
  else if nB = 6 then .inl (3, (q : Int))
  else if ¬ numK B e (sk B e (numE B e q)) 0 99 = 0 then .inl (numK B e (sk B e (numE B e q)) 0 99, ((sk B e (numE B e q) : Nat) : Int))
  else .inr (numV B e q, numV B e (sk B e (numE B e q)), sk B e (numE B e (sk B e (numE B e q))))
def bkRun (B : Nat → Int) (e : Nat) : Nat → Nat → Int → (Int → Int) → Flt ⊕ (Int × (Int → Int))
  | 0, _, nB, bk => .inr (nB, bk)
  | j + 1, q, nB, bk => if q < e then (match bkLn B e q nB bk with
    | .inl f => .inl f
    | .inr x => if x.2.2 < e ∧ B x.2.2 = 59 then bkRun B e j (sk B e (x.2.2 + 1)) (nB + 1) (bkU bk nB x.1 x.2.1) else .inl (1, (x.2.2 : Int))) else .inr (nB, bk)
theorem bkU_o (bk : Int → Int) (nB h m : Int) {k : Int} (hk1 : k ≠ 2 * nB) (hk2 : k ≠ 2 * nB + 1) : bkU bk nB h m k = bk k := by
  unfold bkU pu
  rw [if_neg hk2, if_neg hk1]
theorem bkU_0 (bk : Int → Int) (nB h m : Int) : bkU bk nB h m (2 * nB) = h := by
  unfold bkU pu
  rw [if_neg (by omega), if_pos rfl]
theorem bkU_1 (bk : Int → Int) (nB h m : Int) : bkU bk nB h m (2 * nB + 1) = m := by
  unfold bkU pu
  rw [if_pos rfl]
theorem BkR_u {nB : Int} {bk : Int → Int} (h : BkR nB bk) (h6 : ¬ nB = 6) {x y : Int} (hx : 0 ≤ x ∧ x ≤ 55) (hy : 0 ≤ y ∧ y ≤ 99) : BkR (nB + 1) (bkU bk nB x y) := by
  obtain ⟨h1, h2, h3⟩ := h
  refine ⟨by omega, by omega, fun i i1 i2 => ?_⟩
  by_cases e : i = nB
  · rw [e, bkU_0, bkU_1]
    omega
  · rw [bkU_o _ _ _ _ (by omega) (by omega), bkU_o _ _ _ _ (by omega) (by omega)]
    exact h3 i i1 (by omega)
section BKT
variable {X : Nat × (Nat → Int32)} {d : Nat} {w : Bool × Bool × Bool} {S : Hp} {J : Nat → Nat → Int64} {B : Nat → Int} {e p q : Nat} {nB : Int} {bk : Int → Int} {bb : Bool}
/-- what reading changes of the class: the tape, the book -/
abbrev Fl (l : Nat) (S S' : Hp) : Prop := Fr [1, l, l + 1, l + 2] S S' ∧ ∀ k, k < 3 → S' 1 k = S 1 k
theorem Fl_t {l : Nat} {S S' : Hp} (h : FT S S') : Fl l S S' := ⟨fun o ho => h.1 o (fun z => ho (by rw [List.mem_singleton.mp z]; exact List.mem_cons_self ..)), fun k hk1 => h.2 k (Or.inl hk1)⟩
theorem Fl_tr {l : Nat} {S S1 S2 : Hp} (h : Fl l S S1) (h2 : Fl l S1 S2) : Fl l S S2 := ⟨fun o ho => (h2.1 o ho).trans (h.1 o ho), fun k hk1 => (h2.2 k hk1).trans (h.2 k hk1)⟩
theorem Fl_u {l : Nat} (S : Hp) {o : Nat} (a v : Int) (h : o = l ∨ o = l + 1 ∨ o = l + 2) (hl : 2 < l) : Fl l S (uS S o a v) := ⟨fun x hx => uS_row _ _ _ (fun z => hx (by rw [z]; simp only [List.mem_cons, List.not_mem_nil, or_false]; omega)), fun k _ => by rw [uS_row _ _ _ (by omega)]⟩
theorem CB_ft {l : Nat} (hl : 2 < l) {S S' : Hp} (h : CB S l nB bk) (hF : FT S S') : CB S' l nB bk := CB_of h (by rw [hF.1 l (fun z => by have := List.mem_singleton.mp z; omega)]) (hF.1 _ (fun z => by have := List.mem_singleton.mp z; omega)) (hF.1 _ (fun z => by have := List.mem_singleton.mp z; omega))
def sg {α β : Type} (r : α ⊕ β) : Int := match r with
  | .inl _ => 0
  | .inr _ => 1
theorem sg_l {α β : Type} (f : α) : sg (.inl f : α ⊕ β) = 0 := id rfl
theorem sg_r {α β : Type} (x : β) : sg (.inr x : α ⊕ β) = 1 := id rfl
/-- what a line comes to -/
def bkFin (S' : Hp) (l : Nat) (B : Nat → Int) (e : Nat) (nB : Int) (bk : Int → Int) (r : Flt ⊕ (Int × Int × Nat)) : Prop := match r with
  | .inl f => S' 1 6 = f.1 ∧ S' 1 7 = f.2
  | .inr x => Tp S' B e x.2.2 ∧ CB S' l (nB + 1) (bkU bk nB x.1 x.2.1)
theorem c_readLine (w : Bool × Bool × Bool) (J : Nat → Nat → Int64) (h : Tp S B e q) (hB : CB S (iB bb) nB bk) : ∃ S', (∀ d, am_call X aP (d + 4) 3 [.ref ((iB bb)), .ref 1] (mkS w (hI S) J) = some (.inl (some (.int (zI (sg (bkLn B e q nB bk))))), (mkS w (hI S') J))) ∧ bkFin S' (iB bb) B e nB bk (bkLn B e q nB bk) ∧ Fl (iB bb) S S' ∧ ∀ x, bkLn B e q nB bk = .inr x → q < x.2.2 := by
  have hb := iB_c bb
  by_cases k1 : numK B e q 0 55 = 0
  · obtain ⟨n1, n2, n3⟩ := numK_0 k1
    have p1 := dg_pos n1
    obtain ⟨S1, g1, g2, g3, g4, g5⟩ := T_num1 (X := X) w J h (lo := 0) (hi := 55) (by decide) (by decide) k1
    have hB1 := CB_ft (by omega) hB g5
    obtain ⟨t3, ht, r1, r2, r3⟩ := id hB1
    have hto := fun d => c_isTold (X := X) (d := d) (w := w) (J := J) hB1 (h := numV B e q) ⟨n2, by omega⟩
    by_cases k2 : tolB bk (numV B e q) nB.toNat 0 = true
    · have er : bkLn B e q nB bk = .inl (2, (q : Int)) := by
        unfold bkLn
        rw [if_neg (fun z => z k1), if_pos k2]
      obtain ⟨S2, f1, f2, f3⟩ := T_failTok (X := X) w J g2 2 g3
      rw [er]
      refine ⟨S2, fun d => ?_, f2, Fl_tr (Fl_t g5) (Fl_t f3), fun x hx => by cases hx⟩
      rw [go_X0_readLine, e_X0_readLine_0]
      simp (disch := omega) only [hk, hu, hI_n, hI_un, z_nat, em_d, zl, z_add, z_sub, z_mul, z_lt, z_eq, gI_mk, gJ_mk, cI_some, cV_some, cJ_some, cI_x, cV_x, cJ_x, uS_self, uS_ne, if_pos, if_neg, b01, b01n, ite_not, if_true, if_false, Bool.false_eq_true, hLL]
      rw [g1]
      simp (disch := omega) only [hk, hu, hI_n, hI_un, z_nat, em_d, zl, z_add, z_sub, z_mul, z_lt, z_eq, gI_mk, gJ_mk, cI_some, cV_some, cJ_some, cI_x, cV_x, cJ_x, uS_self, uS_ne, if_pos, if_neg, b01, b01n, ite_not, if_true, if_false, Bool.false_eq_true, hLL, g4]
      rw [hto]
      simp (disch := omega) only [hk, hu, hI_n, hI_un, z_nat, em_d, zl, z_add, z_sub, z_mul, z_lt, z_eq, gI_mk, gJ_mk, cI_some, cV_some, cJ_some, cI_x, cV_x, cJ_x, uS_self, uS_ne, if_pos, if_neg, b01, b01n, ite_not, if_true, if_false, Bool.false_eq_true, hLL, k2]
      rw [f1]
      simp (disch := omega) only [hk, hu, hI_n, hI_un, z_nat, em_d, zl, z_add, z_sub, z_mul, z_lt, z_eq, gI_mk, gJ_mk, cI_some, cV_some, cJ_some, cI_x, cV_x, cJ_x, uS_self, uS_ne, if_pos, if_neg, b01, b01n, ite_not, if_true, if_false, Bool.false_eq_true, hLL, z_bok0, rI_d]
      rfl
    · by_cases k3 : nB = 6
      · have er : bkLn B e q nB bk = .inl (3, (q : Int)) := by
          unfold bkLn
          rw [if_neg (fun z => z k1), if_neg k2, if_pos k3]
        obtain ⟨S2, f1, f2, f3⟩ := T_failTok (X := X) w J g2 3 g3
        rw [er]
        refine ⟨S2, fun d => ?_, f2, Fl_tr (Fl_t g5) (Fl_t f3), fun x hx => by cases hx⟩
        rw [go_X0_readLine, e_X0_readLine_0]
        simp (disch := omega) only [hk, hu, hI_n, hI_un, z_nat, em_d, zl, z_add, z_sub, z_mul, z_lt, z_eq, gI_mk, gJ_mk, cI_some, cV_some, cJ_some, cI_x, cV_x, cJ_x, uS_self, uS_ne, if_pos, if_neg, b01, b01n, ite_not, if_true, if_false, Bool.false_eq_true, hLL]
        rw [g1]
        simp (disch := omega) only [hk, hu, hI_n, hI_un, z_nat, em_d, zl, z_add, z_sub, z_mul, z_lt, z_eq, gI_mk, gJ_mk, cI_some, cV_some, cJ_some, cI_x, cV_x, cJ_x, uS_self, uS_ne, if_pos, if_neg, b01, b01n, ite_not, if_true, if_false, Bool.false_eq_true, hLL, g4]
        rw [hto]
        simp (disch := omega) only [hk, hu, hI_n, hI_un, z_nat, em_d, zl, z_add, z_sub, z_mul, z_lt, z_eq, gI_mk, gJ_mk, cI_some, cV_some, cJ_some, cI_x, cV_x, cJ_x, uS_self, uS_ne, if_pos, if_neg, b01, b01n, ite_not, if_true, if_false, Bool.false_eq_true, hLL, k2, t3]
        rw [f1]
        simp (disch := omega) only [hk, hu, hI_n, hI_un, z_nat, em_d, zl, z_add, z_sub, z_mul, z_lt, z_eq, gI_mk, gJ_mk, cI_some, cV_some, cJ_some, cI_x, cV_x, cJ_x, uS_self, uS_ne, if_pos, if_neg, b01, b01n, ite_not, if_true, if_false, Bool.false_eq_true, hLL, z_bok0, rI_d]
        rfl
      · by_cases k4 : numK B e (sk B e (numE B e q)) 0 99 = 0
        · obtain ⟨m1, m2, m3⟩ := numK_0 k4
          have p2 := dg_pos m1
          obtain ⟨S2, f1, f2, f3, f4, f5⟩ := T_num1 (X := X) w J g2 (lo := 0) (hi := 99) (by decide) (by decide) k4
          have hB2 := CB_ft (by omega) hB1 f5
          obtain ⟨u3, -⟩ := id hB2
          have er : bkLn B e q nB bk = .inr (numV B e q, numV B e (sk B e (numE B e q)), sk B e (numE B e (sk B e (numE B e q)))) := by
            unfold bkLn
            rw [if_neg (fun z => z k1), if_neg k2, if_neg k3, if_neg (fun z => z k4)]
          rw [er]
          refine ⟨uS (uS (uS S2 (iB bb + 1) nB (numV B e q)) (iB bb + 2) nB (numV B e (sk B e (numE B e q)))) (iB bb) 3 (nB + 1), fun d => ?_, ⟨Tp_o f2 ?_ ?_, ?_, fun i i1 i2 => ?_, BkR_u hB.2.2 k3 ⟨n2, n3⟩ ⟨m2, m3⟩⟩, Fl_tr (Fl_t g5) (Fl_tr (Fl_t f5) (Fl_tr (Fl_u _ _ _ (Or.inr (Or.inl rfl)) (by omega)) (Fl_tr (Fl_u _ _ _ (Or.inr (Or.inr rfl)) (by omega)) (Fl_u _ _ _ (Or.inl rfl) (by omega))))), fun x hx => ?_⟩
          · rw [go_X0_readLine, e_X0_readLine_0]
            simp (disch := omega) only [hk, hu, hI_n, hI_un, z_nat, em_d, zl, z_add, z_sub, z_mul, z_lt, z_eq, gI_mk, gJ_mk, cI_some, cV_some, cJ_some, cI_x, cV_x, cJ_x, uS_self, uS_ne, if_pos, if_neg, b01, b01n, ite_not, if_true, if_false, Bool.false_eq_true, hLL]
            rw [g1]
            simp (disch := omega) only [hk, hu, hI_n, hI_un, z_nat, em_d, zl, z_add, z_sub, z_mul, z_lt, z_eq, gI_mk, gJ_mk, cI_some, cV_some, cJ_some, cI_x, cV_x, cJ_x, uS_self, uS_ne, if_pos, if_neg, b01, b01n, ite_not, if_true, if_false, Bool.false_eq_true, hLL, g4]
            rw [hto]
            simp (disch := omega) only [hk, hu, hI_n, hI_un, z_nat, em_d, zl, z_add, z_sub, z_mul, z_lt, z_eq, gI_mk, gJ_mk, cI_some, cV_some, cJ_some, cI_x, cV_x, cJ_x, uS_self, uS_ne, if_pos, if_neg, b01, b01n, ite_not, if_true, if_false, Bool.false_eq_true, hLL, k2, t3]
            rw [f1]
            simp (disch := omega) only [hk, hu, hI_n, hI_un, z_nat, em_d, zl, z_add, z_sub, z_mul, z_lt, z_eq, gI_mk, gJ_mk, cI_some, cV_some, cJ_some, cI_x, cV_x, cJ_x, uS_self, uS_ne, if_pos, if_neg, b01, b01n, ite_not, if_true, if_false, Bool.false_eq_true, hLL, u3, f4, rI_d]
            rfl
          · rw [uS_row _ _ _ (by omega), uS_row _ _ _ (by omega), uS_row _ _ _ (by omega)]
          · rw [uS_row _ _ _ (by omega), uS_row _ _ _ (by omega), uS_row _ _ _ (by omega)]
          · exact uS_self _ _ _ _
          · by_cases ei : i = nB
            · rw [ei, bkU_0, bkU_1]
              simp (disch := omega) only [uS_ne, uS_self, and_self]
            · rw [bkU_o _ _ _ _ (by omega) (by omega), bkU_o _ _ _ _ (by omega) (by omega)]
              simp (disch := omega) only [uS_ne]
              exact hB2.2.1 i i1 (by omega)
          · injection hx with hx
            rw [← hx]
            have y1 := sk_ge (B := B) (e := e) (p := numE B e q)
            have y2 := sk_ge (B := B) (e := e) (p := numE B e (sk B e (numE B e q)))
            show q < sk B e (numE B e (sk B e (numE B e q)))
            omega
        · have er : bkLn B e q nB bk = .inl (numK B e (sk B e (numE B e q)) 0 99, ((sk B e (numE B e q) : Nat) : Int)) := by
            unfold bkLn
            rw [if_neg (fun z => z k1), if_neg k2, if_neg k3, if_pos k4]
          obtain ⟨S2, f1, f2, f3⟩ := T_num0 (X := X) w J g2 (lo := 0) (hi := 99) (by decide) (by decide) k4
          rw [er]
          refine ⟨S2, fun d => ?_, f2, Fl_tr (Fl_t g5) (Fl_t f3), fun x hx => by cases hx⟩
          rw [go_X0_readLine, e_X0_readLine_0]
          simp (disch := omega) only [hk, hu, hI_n, hI_un, z_nat, em_d, zl, z_add, z_sub, z_mul, z_lt, z_eq, gI_mk, gJ_mk, cI_some, cV_some, cJ_some, cI_x, cV_x, cJ_x, uS_self, uS_ne, if_pos, if_neg, b01, b01n, ite_not, if_true, if_false, Bool.false_eq_true, hLL]
          rw [g1]
          simp (disch := omega) only [hk, hu, hI_n, hI_un, z_nat, em_d, zl, z_add, z_sub, z_mul, z_lt, z_eq, gI_mk, gJ_mk, cI_some, cV_some, cJ_some, cI_x, cV_x, cJ_x, uS_self, uS_ne, if_pos, if_neg, b01, b01n, ite_not, if_true, if_false, Bool.false_eq_true, hLL, g4]
          rw [hto]
          simp (disch := omega) only [hk, hu, hI_n, hI_un, z_nat, em_d, zl, z_add, z_sub, z_mul, z_lt, z_eq, gI_mk, gJ_mk, cI_some, cV_some, cJ_some, cI_x, cV_x, cJ_x, uS_self, uS_ne, if_pos, if_neg, b01, b01n, ite_not, if_true, if_false, Bool.false_eq_true, hLL, k2, t3]
          rw [f1]
          simp (disch := omega) only [hk, hu, hI_n, hI_un, z_nat, em_d, zl, z_add, z_sub, z_mul, z_lt, z_eq, gI_mk, gJ_mk, cI_some, cV_some, cJ_some, cI_x, cV_x, cJ_x, uS_self, uS_ne, if_pos, if_neg, b01, b01n, ite_not, if_true, if_false, Bool.false_eq_true, hLL, rI_d]
          rfl
  · have er : bkLn B e q nB bk = .inl (numK B e q 0 55, (q : Int)) := by
      unfold bkLn
      rw [if_pos k1]
    obtain ⟨S1, g1, g2, g3⟩ := T_num0 (X := X) w J h (lo := 0) (hi := 55) (by decide) (by decide) k1
    rw [er]
    refine ⟨S1, fun d => ?_, g2, Fl_t g3, fun x hx => by cases hx⟩
    rw [go_X0_readLine, e_X0_readLine_0]
    simp (disch := omega) only [hk, hu, hI_n, hI_un, z_nat, em_d, zl, z_add, z_sub, z_mul, z_lt, z_eq, gI_mk, gJ_mk, cI_some, cV_some, cJ_some, cI_x, cV_x, cJ_x, uS_self, uS_ne, if_pos, if_neg, b01, b01n, ite_not, if_true, if_false, Bool.false_eq_true, hLL]
    rw [g1]
    simp (disch := omega) only [hk, hu, hI_n, hI_un, z_nat, em_d, zl, z_add, z_sub, z_mul, z_lt, z_eq, gI_mk, gJ_mk, cI_some, cV_some, cJ_some, cI_x, cV_x, cJ_x, uS_self, uS_ne, if_pos, if_neg, b01, b01n, ite_not, if_true, if_false, Bool.false_eq_true, hLL, rI_d]
    rfl
/-- what the whole text comes to -/
def brFin (S' : Hp) (l : Nat) (r : Flt ⊕ (Int × (Int → Int))) : Prop := match r with
  | .inl f => S' 1 6 = f.1 ∧ S' 1 7 = f.2
  | .inr x => CB S' l x.1 x.2
theorem l_bkRun (w : Bool × Bool × Bool) (J : Nat → Nat → Int64) (he : e ≤ 60) : ∀ (j q i : Nat) (S : Hp) (nB : Int) (bk : Int → Int), i + j = 60 → i ≤ q → Tp S B e q → CB S (iB bb) nB bk → ∃ S', (∀ d n, j + 1 ≤ n → aR X (d + 4) m_X0_readFrom n 5 [some (.ref ((iB bb))), some (.ref 1), some (.int (zI ((i : Int))))] (0, 0) (mkS w (hI S) J) = some (.inl (some (.int (zI (sg (bkRun B e j q nB bk))))), (mkS w (hI S') J))) ∧ brFin S' (iB bb) (bkRun B e j q nB bk) ∧ Fl (iB bb) S S'
  | 0, q, i, S, nB, bk, h1, h2, hT, hB => by
    refine ⟨S, fun d n hn => ?_, hB, ⟨fun _ _ => rfl, fun _ _ => rfl⟩⟩
    obtain ⟨n, rfl⟩ : ∃ m, n = m + 1 := ⟨n - 1, by omega⟩
    rw [e_X0_readFrom_5]
    simp (disch := omega) only [hk, hu, hI_n, hI_un, z_nat, em_d, zl, z_add, z_sub, z_mul, z_lt, z_eq, gI_mk, gJ_mk, cI_some, cV_some, cJ_some, cI_x, cV_x, cJ_x, uS_self, uS_ne, if_pos, if_neg, b01, b01n, ite_not, if_true, if_false, Bool.false_eq_true, hLL, rI_d]
    rfl
  | j + 1, q, i, S, nB, bk, h1, h2, hT, hB => by
    have hen := fun d => T_ends (X := X) (d := d) (w := w) (J := J) hT
    by_cases q1 : q < e
    · obtain ⟨S1, g1, g2, g3, g4⟩ := c_readLine (X := X) w J hT hB
      have es : bkRun B e (j + 1) q nB bk = (match bkLn B e q nB bk with
        | .inl f => .inl f
        | .inr x => if x.2.2 < e ∧ B x.2.2 = 59 then bkRun B e j (sk B e (x.2.2 + 1)) (nB + 1) (bkU bk nB x.1 x.2.1) else .inl (1, (x.2.2 : Int))) := if_pos q1
      rw [es]
      cases er : bkLn B e q nB bk with
      | inl f =>
        rw [er] at g1 g2
        refine ⟨S1, fun d n hn => ?_, g2, g3⟩
        obtain ⟨n, rfl⟩ : ∃ m, n = m + 1 := ⟨n - 1, by omega⟩
        rw [e_X0_readFrom_5]
        simp (disch := omega) only [hk, hu, hI_n, hI_un, z_nat, em_d, zl, z_add, z_sub, z_mul, z_lt, z_eq, gI_mk, gJ_mk, cI_some, cV_some, cJ_some, cI_x, cV_x, cJ_x, uS_self, uS_ne, if_pos, if_neg, b01, b01n, ite_not, if_true, if_false, Bool.false_eq_true, hLL]
        rw [hen]
        simp (disch := omega) only [hk, hu, hI_n, hI_un, z_nat, em_d, zl, z_add, z_sub, z_mul, z_lt, z_eq, gI_mk, gJ_mk, cI_some, cV_some, cJ_some, cI_x, cV_x, cJ_x, uS_self, uS_ne, if_pos, if_neg, b01, b01n, ite_not, if_true, if_false, Bool.false_eq_true, hLL]
        rw [g1]
        simp (disch := omega) only [hk, hu, hI_n, hI_un, z_nat, em_d, zl, z_add, z_sub, z_mul, z_lt, z_eq, gI_mk, gJ_mk, cI_some, cV_some, cJ_some, cI_x, cV_x, cJ_x, uS_self, uS_ne, if_pos, if_neg, b01, b01n, ite_not, if_true, if_false, Bool.false_eq_true, hLL, sg_l, rI_d]
      | inr x =>
        rw [er] at g1 g2
        obtain ⟨hT1, hB1⟩ := g2
        have hx := g4 x er
        show ∃ S', (∀ d n, j + 1 + 1 ≤ n → aR X (d + 4) m_X0_readFrom n 5 [some (.ref ((iB bb))), some (.ref 1), some (.int (zI ((i : Int))))] (0, 0) (mkS w (hI S) J) = some (.inl (some (.int (zI (sg (if x.2.2 < e ∧ B x.2.2 = 59 then bkRun B e j (sk B e (x.2.2 + 1)) (nB + 1) (bkU bk nB x.1 x.2.1) else (Sum.inl (1, (x.2.2 : Int)) : Flt ⊕ (Int × (Int → Int)))))))), (mkS w (hI S') J))) ∧ brFin S' (iB bb) (if x.2.2 < e ∧ B x.2.2 = 59 then bkRun B e j (sk B e (x.2.2 + 1)) (nB + 1) (bkU bk nB x.1 x.2.1) else (Sum.inl (1, (x.2.2 : Int)) : Flt ⊕ (Int × (Int → Int)))) ∧ Fl (iB bb) S S'
        by_cases q2 : x.2.2 < e ∧ B x.2.2 = 59
        · obtain ⟨S2, f1, f2, f3⟩ := T_needs1 (X := X) w J hT1 (c := 59) (by decide) q2
          have hsk := sk_ge (B := B) (e := e) (p := x.2.2 + 1)
          have hB2 := CB_ft (by have := iB_c bb; omega) hB1 f3
          obtain ⟨S3, y1, y2, y3⟩ := l_bkRun w J he j (sk B e (x.2.2 + 1)) (i + 1) S2 (nB + 1) (bkU bk nB x.1 x.2.1) (by omega) (by omega) f2 hB2
          rw [if_pos q2]
          refine ⟨S3, fun d n hn => ?_, y2, Fl_tr g3 (Fl_tr (Fl_t f3) y3)⟩
          · obtain ⟨n, rfl⟩ : ∃ m, n = m + 1 := ⟨n - 1, by omega⟩
            have y1 := y1 d n (by omega)
            rw [show ((i + 1 : Nat) : Int) = (i : Int) + 1 by omega] at y1
            rw [e_X0_readFrom_5]
            simp (disch := omega) only [hk, hu, hI_n, hI_un, z_nat, em_d, zl, z_add, z_sub, z_mul, z_lt, z_eq, gI_mk, gJ_mk, cI_some, cV_some, cJ_some, cI_x, cV_x, cJ_x, uS_self, uS_ne, if_pos, if_neg, b01, b01n, ite_not, if_true, if_false, Bool.false_eq_true, hLL]
            rw [hen]
            simp (disch := omega) only [hk, hu, hI_n, hI_un, z_nat, em_d, zl, z_add, z_sub, z_mul, z_lt, z_eq, gI_mk, gJ_mk, cI_some, cV_some, cJ_some, cI_x, cV_x, cJ_x, uS_self, uS_ne, if_pos, if_neg, b01, b01n, ite_not, if_true, if_false, Bool.false_eq_true, hLL]
            rw [g1]
            simp (disch := omega) only [hk, hu, hI_n, hI_un, z_nat, em_d, zl, z_add, z_sub, z_mul, z_lt, z_eq, gI_mk, gJ_mk, cI_some, cV_some, cJ_some, cI_x, cV_x, cJ_x, uS_self, uS_ne, if_pos, if_neg, b01, b01n, ite_not, if_true, if_false, Bool.false_eq_true, hLL, sg_r]
            rw [f1]
            simp (disch := omega) only [hk, hu, hI_n, hI_un, z_nat, em_d, zl, z_add, z_sub, z_mul, z_lt, z_eq, gI_mk, gJ_mk, cI_some, cV_some, cJ_some, cI_x, cV_x, cJ_x, uS_self, uS_ne, if_pos, if_neg, b01, b01n, ite_not, if_true, if_false, Bool.false_eq_true, hLL]
            exact y1
        · obtain ⟨S2, f1, f2, f3⟩ := T_needs0 (X := X) w J hT1 (c := 59) (by decide) q2
          rw [if_neg q2]
          refine ⟨S2, fun d n hn => ?_, f2, Fl_tr g3 (Fl_t f3)⟩
          obtain ⟨n, rfl⟩ : ∃ m, n = m + 1 := ⟨n - 1, by omega⟩
          rw [e_X0_readFrom_5]
          simp (disch := omega) only [hk, hu, hI_n, hI_un, z_nat, em_d, zl, z_add, z_sub, z_mul, z_lt, z_eq, gI_mk, gJ_mk, cI_some, cV_some, cJ_some, cI_x, cV_x, cJ_x, uS_self, uS_ne, if_pos, if_neg, b01, b01n, ite_not, if_true, if_false, Bool.false_eq_true, hLL]
          rw [hen]
          simp (disch := omega) only [hk, hu, hI_n, hI_un, z_nat, em_d, zl, z_add, z_sub, z_mul, z_lt, z_eq, gI_mk, gJ_mk, cI_some, cV_some, cJ_some, cI_x, cV_x, cJ_x, uS_self, uS_ne, if_pos, if_neg, b01, b01n, ite_not, if_true, if_false, Bool.false_eq_true, hLL]
          rw [g1]
          simp (disch := omega) only [hk, hu, hI_n, hI_un, z_nat, em_d, zl, z_add, z_sub, z_mul, z_lt, z_eq, gI_mk, gJ_mk, cI_some, cV_some, cJ_some, cI_x, cV_x, cJ_x, uS_self, uS_ne, if_pos, if_neg, b01, b01n, ite_not, if_true, if_false, Bool.false_eq_true, hLL, sg_r]
          rw [f1]
          simp (disch := omega) only [hk, hu, hI_n, hI_un, z_nat, em_d, zl, z_add, z_sub, z_mul, z_lt, z_eq, gI_mk, gJ_mk, cI_some, cV_some, cJ_some, cI_x, cV_x, cJ_x, uS_self, uS_ne, if_pos, if_neg, b01, b01n, ite_not, if_true, if_false, Bool.false_eq_true, hLL, rI_d]
          rfl
    · have es : bkRun B e (j + 1) q nB bk = .inr (nB, bk) := if_neg q1
      rw [es]
      refine ⟨S, fun d n hn => ?_, hB, ⟨fun _ _ => rfl, fun _ _ => rfl⟩⟩
      obtain ⟨n, rfl⟩ : ∃ m, n = m + 1 := ⟨n - 1, by omega⟩
      rw [e_X0_readFrom_5]
      simp (disch := omega) only [hk, hu, hI_n, hI_un, z_nat, em_d, zl, z_add, z_sub, z_mul, z_lt, z_eq, gI_mk, gJ_mk, cI_some, cV_some, cJ_some, cI_x, cV_x, cJ_x, uS_self, uS_ne, if_pos, if_neg, b01, b01n, ite_not, if_true, if_false, Bool.false_eq_true, hLL]
      rw [hen]
      simp (disch := omega) only [hk, hu, hI_n, hI_un, z_nat, em_d, zl, z_add, z_sub, z_mul, z_lt, z_eq, gI_mk, gJ_mk, cI_some, cV_some, cJ_some, cI_x, cV_x, cJ_x, uS_self, uS_ne, if_pos, if_neg, b01, b01n, ite_not, if_true, if_false, Bool.false_eq_true, hLL, rI_d]
      rfl
def bkAll (B : Nat → Int) (e : Nat) : Flt ⊕ (Int × (Int → Int)) := bkRun B e 60 (sk B e 0) 0 (fun _ => 0)
theorem c_bookRead (w : Bool × Bool × Bool) (J : Nat → Nat → Int64) (he : e ≤ 60) (hT : Tp S B e (sk B e 0)) : ∃ S', (∀ d, am_call X aP (d + 5) 2 [.ref ((iB bb)), .ref 1] (mkS w (hI S) J) = some (.inl (some (.int (zI (sg (bkAll B e))))), (mkS w (hI S') J))) ∧ brFin S' (iB bb) (bkAll B e) ∧ Fl (iB bb) S S' := by
  have hb := iB_c bb
  obtain ⟨S', g1, g2, g3⟩ := l_bkRun (X := X) (B := B) (e := e) (bb := bb) w J he 60 (sk B e 0) 0 (uS S (iB bb) 3 0) 0 (fun _ => 0) (by decide) (Nat.zero_le _) (Tp_o hT (uS_row _ _ _ (by omega)) (uS_row _ _ _ (by omega))) ⟨uS_self _ _ _ _, fun i i1 i2 => absurd i2 (by omega), by decide, by decide, fun i i1 i2 => absurd i2 (by omega)⟩
  refine ⟨S', fun d => ?_, g2, Fl_tr (Fl_u S _ _ (Or.inl rfl) (by omega)) g3⟩
  rw [go_X0_readFrom, e_X0_readFrom_0]
  simp (disch := omega) only [hk, hu, hI_n, hI_un, z_nat, em_d, zl, z_add, z_sub, z_mul, z_lt, z_eq, gI_mk, gJ_mk, cI_some, cV_some, cJ_some, cI_x, cV_x, cJ_x, uS_self, uS_ne, if_pos, if_neg, b01, b01n, ite_not, if_true, if_false, Bool.false_eq_true, hLL]
  exact g1 d 9999999 (by decide)
end BKT
