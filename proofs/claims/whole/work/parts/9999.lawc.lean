/-! THE CALLS OF law -/
abbrev LRes : Type := Flt ⊕ List (Int × Int)
def lawRes (e : Nat) : LOut → LRes
  | .inl g => .inl g
  | .inr y => if y.2 < e then .inl (1, (y.2 : Int)) else .inr y.1
def lwFin (S' : Hp) (l : Nat) : LRes → Prop
  | .inl f => S' 1 6 = f.1 ∧ S' 1 7 = f.2
  | .inr cd => CKl S' l cd
def lwMin (S' : Hp) (B : Nat → Int) (e : Nat) : LRes → Prop
  | .inl f => Bd S' f.1 f.2
  | .inr cd => (∃ p', Mp S' B e p') ∧ MKl S' cd
theorem CPs_ren {S S' : Hp} {o1 o2 p1 p2 : Nat} : ∀ (K : List (Int × Int)) (i : Int), (∀ j, i ≤ j → j < i + K.length → S' p1 j = S o1 j ∧ S' p2 j = S o2 j) → CPs S o1 o2 i K → CPs S' p1 p2 i K
  | [], _, _, _ => trivial
  | (k, v) :: K, i, h, ⟨h1, h2, h3⟩ => by
    have hl : (((k, v) :: K).length : Int) = (K.length : Int) + 1 := by rw [List.length_cons]; omega
    obtain ⟨e1, e2⟩ := h i (by omega) (by omega)
    exact ⟨e1.trans h1, e2.trans h2, CPs_ren K (i + 1) (fun j j1 j2 => h j (by omega) (by omega)) h3⟩
section LWC
variable {X : Nat × (Nat → Int32)} {d : Nat} {w : Bool × Bool × Bool} {S : Hp} {J : Nat → Nat → Int64} {B : Nat → Int} {e : Nat} {sz n tp : Int} {bw : Bool}
/-- what both come to -/
theorem law_both (X : Nat × (Nat → Int32)) (B : Nat → Int) {e : Nat} (he : e ≤ 150) (bw : Bool) : ∃ res : LRes, (∀ cd, res = .inr cd → cd ≠ [] ∧ okc cd 0 ∧ cd.length ≤ 150) ∧ (∀ (w : Bool × Bool × Bool) (J : Nat → Nat → Int64) (S : Hp), Tp S B e (sk B e 0) → ∃ S', (∀ d, am_call X aP (d + 33) 29 [.ref (iW bw), .ref 1] (mkS w (hI S) J) = some (.inl (some (.int (zI (sg res)))), (mkS w (hI S') J))) ∧ lwFin S' (iW bw) res ∧ FW (iW bw) S S') ∧ (∀ (w : Bool × Bool × Bool) (J : Nat → Nat → Int64) (S : Hp), Mp S B e 0 → S 132 7 = 0 → MKl S [] → ∃ S1 S2, (∀ d, am_call X aP (d + 32) 182 [.ref 132] (mkS w (hI S) J) = some (.inl none, (mkS w (hI S1) J))) ∧ ((∀ d, am_call X aP (d + 1) 157 [.ref 132] (mkS w (hI S1) J) = some (.inl (some (.int (zI 0))), (mkS w (hI S1) J))) ∧ S2 = S1 ∨ (∀ d, am_call X aP (d + 1) 157 [.ref 132] (mkS w (hI S1) J) = some (.inl (some (.int (zI 1))), (mkS w (hI S1) J))) ∧ ((∀ d, am_call X aP (d + 2) 167 [.ref 132] (mkS w (hI S1) J) = some (.inl (some (.int (zI 0))), (mkS w (hI S2) J))) ∨ ∃ S3 q, (∀ d, am_call X aP (d + 2) 167 [.ref 132] (mkS w (hI S1) J) = some (.inl (some (.int (zI 1))), (mkS w (hI S3) J))) ∧ S3 132 4 = q ∧ (0 ≤ q ∧ q ≤ 600) ∧ (∀ d, am_call X aP (d + 1) 158 [.ref 132, .int (zI 1), .int (zI q)] (mkS w (hI S3) J) = some (.inl none, (mkS w (hI S2) J))))) ∧ lwMin S2 B e res ∧ FZ S S2) := by
  have hb := iW_c bw
  obtain ⟨out, hw, hc, hm⟩ := law_sum (X := X) (B := B) (bw := bw) he 6 (Nat.le_refl _) (sk B e 0) (sk_le (Nat.zero_le _)) sk_sk
  have h60 : (6 : Int) - ((6 : Nat) : Int) = 0 := by decide
  refine ⟨lawRes e out, fun cd h => ?_, fun w J S hT => ?_, fun w J S hM h7 hK => ?_⟩
  · cases out with
    | inl g => cases h
    | inr y =>
      have h : (if y.2 < e then (Sum.inl (1, (y.2 : Int)) : LRes) else .inr y.1) = .inr cd := h
      by_cases k : y.2 < e
      · rw [if_pos k] at h
        cases h
      · rw [if_neg k] at h
        injection h with h
        obtain ⟨⟨a1, a2, a3, a4⟩, a6, a5⟩ := hw
        rw [← h]
        refine ⟨a6, ?_, by omega⟩
        have := a5 [] 0 rfl
        rw [List.append_nil] at this
        exact this
  · obtain ⟨S1, g1, g2, g3⟩ := hc w J (uS S (iW bw) 4 0) [] (Tp_o hT (uS_row _ _ _ (by omega)) (uS_row _ _ _ (by omega))) ⟨uS_self _ _ _ _, trivial⟩ (Nat.zero_le _)
    have hF : FW (iW bw) S (uS S (iW bw) 4 0) := ⟨fun o ho => uS_row _ _ _ (fun z => ho (by rw [z]; exact List.mem_cons_of_mem _ (List.mem_cons_self ..))), fun k _ => by rw [uS_row _ _ _ (by omega)]⟩
    have head : ∀ (d : Nat) (R : aRes), (cI (some (.inl (some (.int (zI (sg out)))), (mkS w (hI S1) J))) (fun r2 s1 => if r2 = nI 0 then rI (nI 0) (mkS w (gI s1) (gJ s1)) else cI (am_call X aP (d + 32) 82 [.ref 1] (mkS w (gI s1) (gJ s1))) (fun r4 s3 => if r4 = nI 0 then cI (am_call X aP (d + 32) 91 [.ref 1, .int (nI 1)] (mkS w (gI s3) (gJ s3))) (fun r6 s5 => if r6 = nI 0 then rI (nI 0) (mkS w (gI s5) (gJ s5)) else rI (nI 1) (mkS w (gI s5) (gJ s5))) (fun e9 s5 => rX e9 (mkS w (gI s5) (gJ s5))) else rI (nI 1) (mkS w (gI s3) (gJ s3))) (fun e9 s3 => rX e9 (mkS w (gI s3) (gJ s3)))) (fun e9 s1 => rX e9 (mkS w (gI s1) (gJ s1))) = R) → am_call X aP (d + 33) 29 [.ref (iW bw), .ref 1] (mkS w (hI S) J) = R := fun d R hR => by
      rw [show d + 33 = (d + 32) + 1 from rfl, go_X3_readFrom, e_X3_readFrom_0]
      simp only [zl, hu]
      have g1 := g1 d
      rw [h60] at g1
      rw [g1]
      simp only [zl] at hR
      exact hR
    cases out with
    | inl g =>
      refine ⟨S1, fun d => head d _ ?_, g2, FW_tr hF g3⟩
      simp (disch := omega) only [hk, hu, hI_n, hI_un, z_nat, em_d, zl, z_add, z_sub, z_mul, z_lt, z_eq, gI_mk, gJ_mk, cI_some, cV_some, cJ_some, cI_x, cV_x, cJ_x, uS_self, uS_ne, if_pos, if_neg, b01, b01n, ite_not, if_true, if_false, Bool.false_eq_true, hLL, sg_l, rI_d]
      rfl
    | inr y =>
      obtain ⟨hT1, hK1⟩ := g2
      show ∃ S', (∀ d, am_call X aP (d + 33) 29 [.ref (iW bw), .ref 1] (mkS w (hI S) J) = some (.inl (some (.int (zI (sg (if y.2 < e then (Sum.inl (1, (y.2 : Int)) : LRes) else .inr y.1))))), (mkS w (hI S') J))) ∧ lwFin S' (iW bw) (if y.2 < e then (Sum.inl (1, (y.2 : Int)) : LRes) else .inr y.1) ∧ FW (iW bw) S S'
      by_cases k : y.2 < e
      · rw [if_pos k]
        obtain ⟨S2, f1, f2, f3⟩ := T_failHere (X := X) w J hT1 1
        refine ⟨S2, fun d => head d _ ?_, f2, FW_tr hF (FW_tr g3 (FW_t f3))⟩
        rw [cI_some, sg_r]
        refine (if_neg (by decide)).trans ?_
        refine cI_go (r := zI 0) (st := mkS w (hI S1) J) ?_ ?_
        · have := T_ends (X := X) (d := d + 31) (w := w) (J := J) hT1
          rw [if_pos k] at this
          exact this
        refine (if_pos rfl).trans ?_
        refine cI_go (r := zI 0) (st := mkS w (hI S2) J) (f1 (d + 31)) ?_
        simp (disch := omega) only [hk, hu, hI_n, hI_un, z_nat, em_d, zl, z_add, z_sub, z_mul, z_lt, z_eq, gI_mk, gJ_mk, cI_some, cV_some, cJ_some, cI_x, cV_x, cJ_x, uS_self, uS_ne, if_pos, if_neg, b01, b01n, ite_not, if_true, if_false, Bool.false_eq_true, hLL, rI_d]
        rfl
      · rw [if_neg k]
        refine ⟨S1, fun d => head d _ ?_, hK1, FW_tr hF g3⟩
        rw [cI_some, sg_r]
        refine (if_neg (by decide)).trans ?_
        refine cI_go (r := zI 1) (st := mkS w (hI S1) J) ?_ ?_
        · have := T_ends (X := X) (d := d + 31) (w := w) (J := J) hT1
          rw [if_neg k] at this
          exact this
        simp (disch := omega) only [hk, hu, hI_n, hI_un, z_nat, em_d, zl, z_add, z_sub, z_mul, z_lt, z_eq, gI_mk, gJ_mk, cI_some, cV_some, cJ_some, cI_x, cV_x, cJ_x, uS_self, uS_ne, if_pos, if_neg, b01, b01n, ite_not, if_true, if_false, Bool.false_eq_true, hLL, rI_d]
        rfl
  · obtain ⟨S1, g1, g2, g3⟩ := hm w J S 0 [] hM rfl (by rw [h60]; exact h7) hK (Nat.zero_le _)
    cases out with
    | inl g => exact ⟨S1, S1, g1, Or.inl ⟨fun d => M_fine0 g2, rfl⟩, g2, g3⟩
    | inr y =>
      obtain ⟨⟨p', hM1, hs1⟩, hK1, h71⟩ := g2
      obtain ⟨S3, f1, f2, f3⟩ := M_isMore (X := X) w J hM1
      rw [hs1] at f1 f2
      show ∃ S1 S2, (∀ d, am_call X aP (d + 32) 182 [.ref 132] (mkS w (hI S) J) = some (.inl none, (mkS w (hI S1) J))) ∧ ((∀ d, am_call X aP (d + 1) 157 [.ref 132] (mkS w (hI S1) J) = some (.inl (some (.int (zI 0))), (mkS w (hI S1) J))) ∧ S2 = S1 ∨ (∀ d, am_call X aP (d + 1) 157 [.ref 132] (mkS w (hI S1) J) = some (.inl (some (.int (zI 1))), (mkS w (hI S1) J))) ∧ ((∀ d, am_call X aP (d + 2) 167 [.ref 132] (mkS w (hI S1) J) = some (.inl (some (.int (zI 0))), (mkS w (hI S2) J))) ∨ ∃ S3 q, (∀ d, am_call X aP (d + 2) 167 [.ref 132] (mkS w (hI S1) J) = some (.inl (some (.int (zI 1))), (mkS w (hI S3) J))) ∧ S3 132 4 = q ∧ (0 ≤ q ∧ q ≤ 600) ∧ (∀ d, am_call X aP (d + 1) 158 [.ref 132, .int (zI 1), .int (zI q)] (mkS w (hI S3) J) = some (.inl none, (mkS w (hI S2) J))))) ∧ lwMin S2 B e (if y.2 < e then (Sum.inl (1, (y.2 : Int)) : LRes) else .inr y.1) ∧ FZ S S2
      by_cases k : y.2 < e
      · rw [if_pos k]
        obtain ⟨S4, z1, z2, -, z3⟩ := M_wrong1 (X := X) w J f2 1 (y.2 : Int) (by omega)
        refine ⟨S1, S4, g1, Or.inr ⟨fun d => M_fine1 hM1, Or.inr ⟨S3, (y.2 : Int), fun d => ?_, f2.2.2.2.2.1, by omega, z1⟩⟩, z2, FZ_tr g3 (FZ_tr (FZ_m f3) (FZ_m z3))⟩
        rw [f1, if_pos k]
      · rw [if_neg k]
        refine ⟨S1, S3, g1, Or.inr ⟨fun d => M_fine1 hM1, Or.inl (fun d => ?_)⟩, ⟨⟨_, f2⟩, MKl_m hK1 f3⟩, FZ_tr g3 (FZ_m f3)⟩
        rw [f1, if_neg k]
theorem c_lawB (h1 : S 1 1 = sz) (hsz : 0 ≤ sz ∧ sz ≤ 600) (hb : -2147483648 ≤ n ∧ n < 2147483648) (hn : ¬ (0 ≤ n ∧ n ≤ min sz 150)) : am_call X aP (d + 9) 105 [.ref 0, .int (zI n)] (mkS w (hI S) J) = some (.inr 2, (mkS w (hI (xbS S)) J)) := by
  rw [go_X9_law, e_X9_law_0]
  simp (disch := omega) only [hk, hu, hI_n, hI_un, z_nat, em_d, zl, z_add, z_sub, z_mul, z_lt, z_eq, gI_mk, gJ_mk, cI_some, cV_some, cJ_some, cI_x, cV_x, cJ_x, uS_self, uS_ne, if_pos, if_neg, b01, b01n, ite_not, if_true, if_false, Bool.false_eq_true, hLL]
  rw [c_openText0 h1 hsz (by decide) hb hn]
  simp (disch := omega) only [hk, hu, hI_n, hI_un, z_nat, em_d, zl, z_add, z_sub, z_mul, z_lt, z_eq, gI_mk, gJ_mk, cI_some, cV_some, cJ_some, cI_x, cV_x, cJ_x, uS_self, uS_ne, if_pos, if_neg, b01, b01n, ite_not, if_true, if_false, Bool.false_eq_true, hLL, rX_d]
theorem c_law (w : Bool × Bool × Bool) (J : Nat → Nat → Int64) (hT : Tx S 2 B) (h1 : S 1 1 = sz) (hsz : 0 ≤ sz ∧ sz ≤ 600) (hn : 0 ≤ n ∧ n ≤ min sz 150) {res : LRes} (hok : ∀ cd, res = .inr cd → cd ≠ [] ∧ okc cd 0 ∧ cd.length ≤ 150) (hc : ∀ (w' : Bool × Bool × Bool) (J : Nat → Nat → Int64) (S : Hp), Tp S B n.toNat (sk B n.toNat 0) → ∃ S', (∀ d, am_call X aP (d + 33) 29 [.ref (iW (!w.2.1)), .ref 1] (mkS w' (hI S) J) = some (.inl (some (.int (zI (sg res)))), (mkS w' (hI S') J))) ∧ lwFin S' (iW (!w.2.1)) res ∧ FW (iW (!w.2.1)) S S') : ∃ S', (∀ f, res = .inl f → (∀ d, am_call X aP (d + 40) 105 [.ref 0, .int (zI n)] (mkS w (hI S) J) = some (.inl (some (.int (zI (f.1 - 10)))), (mkS w (hI S') J))) ∧ S' 0 12 = f.2) ∧ (∀ cd, res = .inr cd → (∀ d, am_call X aP (d + 40) 105 [.ref 0, .int (zI n)] (mkS w (hI S) J) = some (.inl (some (.int (zI 1))), (mkS (w.1, !w.2.1, w.2.2) (hI S') J))) ∧ S' 0 12 = -1 ∧ CW S' (iW (!w.2.1)) cd) ∧ Fr [0, 1, iW (!w.2.1), iW (!w.2.1) + 1, iW (!w.2.1) + 2] S S' ∧ S' 1 1 = 0 ∧ ∀ k, k ≠ 12 → S' 0 k = S 0 k := by
  have hb := iW_c (!w.2.1)
  obtain ⟨S1, g1, g2, g3, g4, g5, g6⟩ := c_openText1 (X := X) w J hT h1 hsz (most := 150) (by decide) hn
  obtain ⟨S2, f1, f2, f3⟩ := hc w J S1 g2
  have hF : Fr [0, 1, iW (!w.2.1), iW (!w.2.1) + 1, iW (!w.2.1) + 2] S S2 := Fr_tr g3 f3.1 (by simp only [List.mem_cons, List.not_mem_nil, or_false]; omega) (by simp only [List.mem_cons, List.not_mem_nil, or_false]; omega)
  have e0 : S2 0 = S1 0 := f3.1 0 (by simp only [List.mem_cons, List.not_mem_nil, or_false]; omega)
  have e1 : S2 1 1 = 0 := (f3.2 1 (by decide)).trans g4
  cases res with
  | inl f =>
    obtain ⟨y1, y2⟩ := f2
    refine ⟨uS S2 0 12 f.2, fun f' hf => ?_, fun x hx => (by cases hx), Fr_tr hF (Fr_u S2 (L := [0]) _ _ (by decide)) (fun _ z => z) (by simp only [List.mem_cons, List.not_mem_nil, or_false]; omega), (uS_ne _ _ (Or.inl (by decide))).trans e1, fun k q => by rw [uS_ne _ _ (Or.inr q), e0]; exact g6 k q⟩
    injection hf with hf
    subst hf
    refine ⟨fun d => ?_, uS_self _ _ _ _⟩
    rw [show d + 40 = (d + 39) + 1 from rfl, go_X9_law, e_X9_law_0]
    refine cV_go (st := mkS w (hI S1) J) ?_ ?_
    · simp only [zl]
      exact g1 (d + 36)
    simp only [gI_mk, gJ_mk]
    rw [show 9999999 = 9999998 + 1 from rfl, e_X9_law_4]
    refine cI_go (r := zI 0) (st := mkS w (hI S2) J) (f1 (d + 6)) ?_
    refine (if_pos rfl).trans ?_
    refine cI_go (r := zI (f.1 - 10)) (st := mkS w (hI (uS S2 0 12 f.2)) J) ?_ ?_
    · simp only [gI_mk, gJ_mk]
      exact c_faulty (d := d + 38) y1 y2
    simp only [gI_mk, gJ_mk, rI_d]
  | inr cd =>
    obtain ⟨h7, h8, h9⟩ := hok cd rfl
    refine ⟨S2, fun f hf => (by cases hf), fun cd' hcd => ?_, hF, e1, fun k q => by rw [e0]; exact g6 k q⟩
    injection hcd with hcd
    subst hcd
    refine ⟨fun d => ?_, by rw [e0]; exact g5, ?_, h9, Or.inr h8, ?_⟩
    · rw [show d + 40 = (d + 39) + 1 from rfl, go_X9_law, e_X9_law_0]
      refine cV_go (st := mkS w (hI S1) J) ?_ ?_
      · simp only [zl]
        exact g1 (d + 36)
      simp only [gI_mk, gJ_mk]
      rw [show 9999999 = 9999998 + 1 from rfl, e_X9_law_4]
      refine cI_go (r := zI 1) (st := mkS w (hI S2) J) (f1 (d + 6)) ?_
      refine (if_neg (by decide)).trans ?_
      simp only [gI_mk, gJ_mk, RX_W, mk_fold, rI_d]
      rfl
    · rw [cdC_ne h7]
      exact f2.1
    · rw [cdC_ne h7]
      exact f2.2
theorem m_lawB (h2 : S 132 2 = tp) (hb : -2147483648 ≤ n ∧ n < 2147483648) (ht : 0 ≤ tp ∧ tp ≤ 600) (hn : ¬ (0 ≤ n ∧ n ≤ min tp 150)) : am_call X aP (d + 7) 187 [.ref 132, .int (zI n)] (mkS w (hI S) J) = some (.inl (some (.int (zI 0))), (mkS w (hI (mxB S 1)) J)) := by
  have hmm := fun d => m_may0 (X := X) (d := d) (w := w) (J := J) (S := uS S 132 0 0) (uS_self _ _ _ _) (cd := 1) (k := 1) (by decide) (by decide)
  rw [go_X10_law, e_X10_law_0]
  by_cases q1 : n < 0
  · refine (if_pos ?_).trans ?_
    · simp (disch := omega) only [hk, hu, hI_n, hI_un, z_nat, em_d, zl, z_add, z_sub, z_mul, z_lt, z_eq, gI_mk, gJ_mk, cI_some, cV_some, cJ_some, cI_x, cV_x, cJ_x, uS_self, uS_ne, if_pos, if_neg, b01, b01n, ite_not, if_true, if_false, Bool.false_eq_true]
      exact q1
    refine cI_go (r := zI 0) (st := mkS w (hI (mxB S 1)) J) ?_ ?_
    · simp (disch := omega) only [hk, hu, hI_n, hI_un, z_nat, em_d, zl, z_add, z_sub, z_mul, z_lt, z_eq, gI_mk, gJ_mk, cI_some, cV_some, cJ_some, cI_x, cV_x, cJ_x, uS_self, uS_ne, if_pos, if_neg, b01, b01n, ite_not, if_true, if_false, Bool.false_eq_true]
      exact hmm _
    simp (disch := omega) only [hk, hu, hI_n, hI_un, z_nat, em_d, zl, z_add, z_sub, z_mul, z_lt, z_eq, gI_mk, gJ_mk, cI_some, cV_some, cJ_some, cI_x, cV_x, cJ_x, uS_self, uS_ne, if_pos, if_neg, b01, b01n, ite_not, if_true, if_false, Bool.false_eq_true, rI_d]
  · refine (if_neg ?_).trans ?_
    · simp (disch := omega) only [hk, hu, hI_n, hI_un, z_nat, em_d, zl, z_add, z_sub, z_mul, z_lt, z_eq, gI_mk, gJ_mk, cI_some, cV_some, cJ_some, cI_x, cV_x, cJ_x, uS_self, uS_ne, if_pos, if_neg, b01, b01n, ite_not, if_true, if_false, Bool.false_eq_true]
      exact q1
    by_cases q2 : tp < n
    · refine (if_pos ?_).trans ?_
      · simp (disch := omega) only [hk, hu, hI_n, hI_un, z_nat, em_d, zl, z_add, z_sub, z_mul, z_lt, z_eq, gI_mk, gJ_mk, cI_some, cV_some, cJ_some, cI_x, cV_x, cJ_x, uS_self, uS_ne, if_pos, if_neg, b01, b01n, ite_not, if_true, if_false, Bool.false_eq_true, h2]
        exact q2
      refine cI_go (r := zI 0) (st := mkS w (hI (mxB S 1)) J) ?_ ?_
      · simp (disch := omega) only [hk, hu, hI_n, hI_un, z_nat, em_d, zl, z_add, z_sub, z_mul, z_lt, z_eq, gI_mk, gJ_mk, cI_some, cV_some, cJ_some, cI_x, cV_x, cJ_x, uS_self, uS_ne, if_pos, if_neg, b01, b01n, ite_not, if_true, if_false, Bool.false_eq_true]
        exact hmm _
      simp (disch := omega) only [hk, hu, hI_n, hI_un, z_nat, em_d, zl, z_add, z_sub, z_mul, z_lt, z_eq, gI_mk, gJ_mk, cI_some, cV_some, cJ_some, cI_x, cV_x, cJ_x, uS_self, uS_ne, if_pos, if_neg, b01, b01n, ite_not, if_true, if_false, Bool.false_eq_true, rI_d]
    · refine (if_neg ?_).trans ?_
      · simp (disch := omega) only [hk, hu, hI_n, hI_un, z_nat, em_d, zl, z_add, z_sub, z_mul, z_lt, z_eq, gI_mk, gJ_mk, cI_some, cV_some, cJ_some, cI_x, cV_x, cJ_x, uS_self, uS_ne, if_pos, if_neg, b01, b01n, ite_not, if_true, if_false, Bool.false_eq_true, h2]
        exact q2
      refine (if_pos ?_).trans ?_
      · simp (disch := omega) only [hk, hu, hI_n, hI_un, z_nat, em_d, zl, z_add, z_sub, z_mul, z_lt, z_eq, gI_mk, gJ_mk, cI_some, cV_some, cJ_some, cI_x, cV_x, cJ_x, uS_self, uS_ne, if_pos, if_neg, b01, b01n, ite_not, if_true, if_false, Bool.false_eq_true]
        omega
      refine cI_go (r := zI 0) (st := mkS w (hI (mxB S 1)) J) ?_ ?_
      · simp (disch := omega) only [hk, hu, hI_n, hI_un, z_nat, em_d, zl, z_add, z_sub, z_mul, z_lt, z_eq, gI_mk, gJ_mk, cI_some, cV_some, cJ_some, cI_x, cV_x, cJ_x, uS_self, uS_ne, if_pos, if_neg, b01, b01n, ite_not, if_true, if_false, Bool.false_eq_true]
        exact hmm _
      simp (disch := omega) only [hk, hu, hI_n, hI_un, z_nat, em_d, zl, z_add, z_sub, z_mul, z_lt, z_eq, gI_mk, gJ_mk, cI_some, cV_some, cJ_some, cI_x, cV_x, cJ_x, uS_self, uS_ne, if_pos, if_neg, b01, b01n, ite_not, if_true, if_false, Bool.false_eq_true, rI_d]
theorem m_law (hT : Tx S 134 B) (h2 : S 132 2 = tp) (ht : 0 ≤ tp ∧ tp ≤ 600) (hn : 0 ≤ n ∧ n ≤ min tp 150) {res : LRes} (hok : ∀ cd, res = .inr cd → cd ≠ [] ∧ okc cd 0 ∧ cd.length ≤ 150) (hm : ∀ (w : Bool × Bool × Bool) (J : Nat → Nat → Int64) (S : Hp), Mp S B n.toNat 0 → S 132 7 = 0 → MKl S [] → ∃ S1 S2, (∀ d, am_call X aP (d + 32) 182 [.ref 132] (mkS w (hI S) J) = some (.inl none, (mkS w (hI S1) J))) ∧ ((∀ d, am_call X aP (d + 1) 157 [.ref 132] (mkS w (hI S1) J) = some (.inl (some (.int (zI 0))), (mkS w (hI S1) J))) ∧ S2 = S1 ∨ (∀ d, am_call X aP (d + 1) 157 [.ref 132] (mkS w (hI S1) J) = some (.inl (some (.int (zI 1))), (mkS w (hI S1) J))) ∧ ((∀ d, am_call X aP (d + 2) 167 [.ref 132] (mkS w (hI S1) J) = some (.inl (some (.int (zI 0))), (mkS w (hI S2) J))) ∨ ∃ S3 q, (∀ d, am_call X aP (d + 2) 167 [.ref 132] (mkS w (hI S1) J) = some (.inl (some (.int (zI 1))), (mkS w (hI S3) J))) ∧ S3 132 4 = q ∧ (0 ≤ q ∧ q ≤ 600) ∧ (∀ d, am_call X aP (d + 1) 158 [.ref 132, .int (zI 1), .int (zI q)] (mkS w (hI S3) J) = some (.inl none, (mkS w (hI S2) J))))) ∧ lwMin S2 B n.toNat res ∧ FZ S S2) : ∃ S', (∀ f, res = .inl f → am_call X aP (d + 40) 187 [.ref 132, .int (zI n)] (mkS w (hI S) J) = some (.inl (some (.int (zI (f.1 - 10)))), (mkS w (hI S') J)) ∧ S' 132 8 = f.2 ∧ S' 132 26 = S 132 26 ∧ S' 141 = S 141 ∧ S' 142 = S 142) ∧ (∀ cd, res = .inr cd → am_call X aP (d + 40) 187 [.ref 132, .int (zI n)] (mkS w (hI S) J) = some (.inl (some (.int (zI 1))), (mkS w (hI S') J)) ∧ S' 132 8 = -1 ∧ CdP S' cd) ∧ Fr [132, 139, 140, 141, 142] S S' ∧ S' 132 2 = 0 ∧ S' 132 0 = 0 ∧ ∀ k, k = 1 ∨ 8 < k → k ≠ 25 → k ≠ 26 → S' 132 k = S 132 k := by
  obtain ⟨n, rfl⟩ : ∃ m : Nat, n = (m : Int) := ⟨n.toNat, by omega⟩
  rw [Int.toNat_natCast] at hm
  obtain ⟨S1, g1, g2, g3, g4, g5, g6⟩ := M_begins (X := X) (S := uS S 132 0 0) (B := B) (e := n) w J ⟨fun k hk9 => by rw [uS_row _ _ _ (by decide)]; exact hT.1 k hk9, hT.2⟩ (by omega)
  obtain ⟨S2, S3, f1, f2, f3, f4⟩ := hm w J (uS S1 132 25 0) (Mp_o g2 (fun k k1 k2 => uS_ne _ _ (Or.inr (by omega))) (uS_row _ _ _ (by decide))) ((uS_ne _ _ (Or.inr (by decide))).trans g5) ⟨uS_self _ _ _ _, trivial⟩
  have e0 : ∀ k, k < 2 ∨ 8 < k → k ≠ 25 → S3 132 k = uS S 132 0 0 132 k := fun k q q2 => by rw [f4.2 k (by omega), uS_ne _ _ (Or.inr q2)]; exact g6 k (by omega)
  have e2 : S3 132 2 = 0 := by rw [f4.2 2 (by decide), uS_ne _ _ (Or.inr (by decide))]; exact g4
  have hmm := fun d => m_may1 (X := X) (d := d) (w := w) (J := J) (S := uS S 132 0 0) (uS_self _ _ _ _) 1 1
  have hF : Fr [132, 139, 140, 141, 142] S S3 := Fr_tr (Fr_tr (Fr_u S (L := [132]) 0 0 (by decide)) (Fr_tr g3 (Fr_u S1 (L := [132]) _ _ (by decide)) (fun _ z => z) (fun _ z => z)) (fun _ z => z) (fun _ z => z)) f4.1 (by decide) (by decide)
  have head : ∀ (R : aRes), aR X (d + 39) m_X10_law 9999999 41 [some (.ref 132), none, none] (0, 0) (mkS w (hI S3) J) = R → am_call X aP (d + 40) 187 [.ref 132, .int (zI ((n : Int)))] (mkS w (hI S) J) = R := fun R hR => by
    rw [show d + 40 = (d + 39) + 1 from rfl, go_X10_law, e_X10_law_0]
    refine (if_neg ?_).trans ?_
    · simp (disch := omega) only [hk, hu, hI_n, hI_un, z_nat, em_d, zl, z_add, z_sub, z_mul, z_lt, z_eq, gI_mk, gJ_mk, cI_some, cV_some, cJ_some, cI_x, cV_x, cJ_x, uS_self, uS_ne, if_pos, if_neg, b01, b01n, ite_not, if_true, if_false, Bool.false_eq_true]
      omega
    refine (if_neg ?_).trans ?_
    · simp (disch := omega) only [hk, hu, hI_n, hI_un, z_nat, em_d, zl, z_add, z_sub, z_mul, z_lt, z_eq, gI_mk, gJ_mk, cI_some, cV_some, cJ_some, cI_x, cV_x, cJ_x, uS_self, uS_ne, if_pos, if_neg, b01, b01n, ite_not, if_true, if_false, Bool.false_eq_true, h2]
      omega
    refine (if_neg ?_).trans ?_
    · simp (disch := omega) only [hk, hu, hI_n, hI_un, z_nat, em_d, zl, z_add, z_sub, z_mul, z_lt, z_eq, gI_mk, gJ_mk, cI_some, cV_some, cJ_some, cI_x, cV_x, cJ_x, uS_self, uS_ne, if_pos, if_neg, b01, b01n, ite_not, if_true, if_false, Bool.false_eq_true]
      omega
    refine cI_go (r := zI 1) (st := mkS w (hI (uS S 132 0 0)) J) ?_ ?_
    · simp (disch := omega) only [hk, hu, hI_n, hI_un, z_nat, em_d, zl, z_add, z_sub, z_mul, z_lt, z_eq, gI_mk, gJ_mk, cI_some, cV_some, cJ_some, cI_x, cV_x, cJ_x, uS_self, uS_ne, if_pos, if_neg, b01, b01n, ite_not, if_true, if_false, Bool.false_eq_true]
      exact hmm (d + 38)
    refine (if_neg (by decide)).trans ?_
    refine cV_go (st := mkS w (hI S1) J) ?_ ?_
    · simp only [gI_mk, gJ_mk]
      exact g1 (d + 38)
    refine cV_go (st := mkS w (hI S2) J) ?_ ?_
    · simp (disch := omega) only [hk, hu, hI_n, hI_un, z_nat, em_d, zl, z_add, z_sub, z_mul, z_lt, z_eq, gI_mk, gJ_mk, cI_some, cV_some, cJ_some, cI_x, cV_x, cJ_x, uS_self, uS_ne, if_pos, if_neg, b01, b01n, ite_not, if_true, if_false, Bool.false_eq_true]
      exact f1 (d + 7)
    rcases f2 with ⟨y1, y2⟩ | ⟨y1, y2 | ⟨S4, q, y2, y3, y4, y5⟩⟩
    · refine cI_go (r := zI 0) (st := mkS w (hI S2) J) ?_ ?_
      · simp only [gI_mk, gJ_mk]
        exact y1 (d + 38)
      refine (if_pos rfl).trans ?_
      simp only [gI_mk, gJ_mk]
      rw [← y2]
      exact hR
    · refine cI_go (r := zI 1) (st := mkS w (hI S2) J) ?_ ?_
      · simp only [gI_mk, gJ_mk]
        exact y1 (d + 38)
      refine (if_neg (by decide)).trans ?_
      refine cI_go (r := zI 0) (st := mkS w (hI S3) J) ?_ ?_
      · simp only [gI_mk, gJ_mk]
        exact y2 (d + 37)
      refine (if_pos rfl).trans ?_
      simp only [gI_mk, gJ_mk]
      exact hR
    · refine cI_go (r := zI 1) (st := mkS w (hI S2) J) ?_ ?_
      · simp only [gI_mk, gJ_mk]
        exact y1 (d + 38)
      refine (if_neg (by decide)).trans ?_
      refine cI_go (r := zI 1) (st := mkS w (hI S4) J) ?_ ?_
      · simp only [gI_mk, gJ_mk]
        exact y2 (d + 37)
      refine (if_neg (by decide)).trans ?_
      refine cV_go (st := mkS w (hI S3) J) ?_ ?_
      · simp (disch := omega) only [hk, hu, hI_n, hI_un, z_nat, em_d, zl, z_add, z_sub, z_mul, z_lt, z_eq, gI_mk, gJ_mk, cI_some, cV_some, cJ_some, cI_x, cV_x, cJ_x, uS_self, uS_ne, if_pos, if_neg, b01, b01n, ite_not, if_true, if_false, Bool.false_eq_true, y3]
        exact y5 (d + 38)
      simp only [gI_mk, gJ_mk]
      exact hR
  cases res with
  | inl f =>
    have f3 : Bd S3 f.1 f.2 := f3
    obtain ⟨hp, h5, h6⟩ := id f3
    refine ⟨uS S3 132 8 f.2, fun f' hf => ?_, fun x hx => (by cases hx), Fr_tr hF (Fr_u S3 (L := [132]) _ _ (by decide)) (fun _ z => z) (by decide), (uS_ne _ _ (Or.inr (by decide))).trans e2, ?_, fun k q q2 q3 => ?_⟩
    · injection hf with hf
      subst hf
      refine ⟨head _ ?_, uS_self _ _ _ _, ?_, ?_, ?_⟩
      · rw [show 9999999 = 9999998 + 1 from rfl, e_X10_law_41]
        refine cI_go (r := zI (f.1 - 10)) (st := mkS w (hI (uS S3 132 8 f.2)) J) ?_ ?_
        · simp only [zl]
          exact M_result0 (d := d + 37) f3
        simp (disch := omega) only [hk, hu, hI_n, hI_un, z_nat, em_d, zl, z_add, z_sub, z_mul, z_lt, z_eq, gI_mk, gJ_mk, cI_some, cV_some, cJ_some, cI_x, cV_x, cJ_x, uS_self, uS_ne, if_pos, if_neg, b01, b01n, ite_not, if_true, if_false, Bool.false_eq_true, h5, rI_d]
      · rw [uS_ne _ _ (Or.inr (by decide)), e0 26 (by decide) (by decide), uS_ne _ _ (Or.inr (by decide))]
      · rw [uS_row _ _ _ (by decide), f4.1 141 (by decide), uS_row _ _ _ (by decide), g3 141 (by decide), uS_row _ _ _ (by decide)]
      · rw [uS_row _ _ _ (by decide), f4.1 142 (by decide), uS_row _ _ _ (by decide), g3 142 (by decide), uS_row _ _ _ (by decide)]
    · rw [uS_ne _ _ (Or.inr (by decide)), e0 0 (by decide) (by decide), uS_self]
    · rw [uS_ne _ _ (Or.inr (by omega)), e0 k (by omega) q2, uS_ne _ _ (Or.inr (by omega))]
  | inr cd =>
    obtain ⟨⟨p', hM⟩, hK⟩ := f3
    obtain ⟨h7, h8, h9⟩ := hok cd rfl
    have h5 := hM.2.2.2.2.2
    have h25 := hK.1
    have hc1 := fun d => m_copies (X := X) (d := d) (w := w) (J := J) (S := uS (uS S3 132 8 (-1)) 132 26 (cd.length : Int)) (o1 := 139) (o2 := 141) (n := (cd.length : Int)) (by decide) (by decide) (by decide) (by decide) (by omega) (by rw [show LL 139 = 150 from rfl]; omega) (by rw [show LL 141 = 150 from rfl]; omega) (by omega) (by decide)
    have hc2 := fun d => m_copies (X := X) (d := d) (w := w) (J := J) (S := cpS (uS (uS S3 132 8 (-1)) 132 26 (cd.length : Int)) 139 141 (cd.length : Int)) (o1 := 140) (o2 := 142) (n := (cd.length : Int)) (by decide) (by decide) (by decide) (by decide) (by omega) (by rw [show LL 140 = 150 from rfl]; omega) (by rw [show LL 142 = 150 from rfl]; omega) (by omega) (by decide)
    have cr : ∀ (T : Hp) (a b : Nat) (m : Int) (o : Nat), o ≠ b → cpS T a b m o = T o := fun T a b m o ho => by
      funext x
      unfold cpS
      rw [if_neg (fun z => ho z.1)]
    have ci : ∀ (T : Hp) (a b : Nat) (m x : Int), 0 ≤ x → x < m → cpS T a b m b x = T a x := fun T a b m x h1 h2 => by
      unfold cpS
      rw [if_pos ⟨rfl, h1, h2⟩]
    refine ⟨cpS (cpS (uS (uS S3 132 8 (-1)) 132 26 (cd.length : Int)) 139 141 (cd.length : Int)) 140 142 (cd.length : Int), fun f hf => (by cases hf), fun cd' hcd => ?_, fun o ho => ?_, ?_, ?_, fun k q q2 q3 => ?_⟩
    · injection hcd with hcd
      subst hcd
      refine ⟨head _ ?_, ?_, ?_, h9, Or.inr h8, ?_⟩
      · rw [show 9999999 = 9999998 + 1 from rfl, e_X10_law_41]
        refine cI_go (r := zI 1) (st := mkS w (hI (uS S3 132 8 (-1))) J) ?_ ?_
        · simp only [zl]
          exact M_result1 (d := d + 37) hM
        refine (if_pos ?_).trans ?_
        · simp (disch := omega) only [hk, hu, hI_n, hI_un, z_nat, em_d, zl, z_add, z_sub, z_mul, z_lt, z_eq, gI_mk, gJ_mk, cI_some, cV_some, cJ_some, cI_x, cV_x, cJ_x, uS_self, uS_ne, if_pos, if_neg, b01, b01n, ite_not, if_true, if_false, Bool.false_eq_true, h5]
        refine cV_go (st := mkS w (hI (cpS (uS (uS S3 132 8 (-1)) 132 26 (cd.length : Int)) 139 141 (cd.length : Int))) J) ?_ ?_
        · simp (disch := omega) only [hk, hu, hI_n, hI_un, z_nat, em_d, zl, z_add, z_sub, z_mul, z_lt, z_eq, gI_mk, gJ_mk, cI_some, cV_some, cJ_some, cI_x, cV_x, cJ_x, uS_self, uS_ne, if_pos, if_neg, b01, b01n, ite_not, if_true, if_false, Bool.false_eq_true, h25]
          exact hc1 (d + 38)
        have e25 : cpS (uS (uS S3 132 8 (-1)) 132 26 (cd.length : Int)) 139 141 (cd.length : Int) 132 25 = (cd.length : Int) := by
          rw [cr _ _ _ _ _ (by decide), uS_ne _ _ (Or.inr (by decide)), uS_ne _ _ (Or.inr (by decide))]
          exact h25
        refine cV_go (st := mkS w (hI (cpS (cpS (uS (uS S3 132 8 (-1)) 132 26 (cd.length : Int)) 139 141 (cd.length : Int)) 140 142 (cd.length : Int))) J) ?_ ?_
        · simp (disch := omega) only [hk, hu, hI_n, hI_un, z_nat, em_d, zl, z_add, z_sub, z_mul, z_lt, z_eq, gI_mk, gJ_mk, cI_some, cV_some, cJ_some, cI_x, cV_x, cJ_x, uS_self, uS_ne, if_pos, if_neg, b01, b01n, ite_not, if_true, if_false, Bool.false_eq_true, e25]
          exact hc2 (d + 38)
        simp (disch := omega) only [hk, hu, hI_n, hI_un, z_nat, em_d, zl, z_add, z_sub, z_mul, z_lt, z_eq, gI_mk, gJ_mk, cI_some, cV_some, cJ_some, cI_x, cV_x, cJ_x, uS_self, uS_ne, if_pos, if_neg, b01, b01n, ite_not, if_true, if_false, Bool.false_eq_true, rI_d]
      · rw [cr _ _ _ _ _ (by decide), cr _ _ _ _ _ (by decide), uS_ne _ _ (Or.inr (by decide)), uS_self]
      · rw [cr _ _ _ _ _ (by decide), cr _ _ _ _ _ (by decide), uS_self]
      · refine CPs_ren cd 0 (fun j j1 j2 => ?_) hK.2
        rw [ci _ _ _ _ _ (by omega) (by omega), cr _ _ _ _ _ (by decide), ci _ _ _ _ _ (by omega) (by omega), cr _ _ _ _ _ (by decide), uS_row _ _ _ (by decide), uS_row _ _ _ (by decide), uS_row _ _ _ (by decide), uS_row _ _ _ (by decide)]
        exact ⟨rfl, rfl⟩
    · simp only [List.mem_cons, List.not_mem_nil, or_false, not_or] at ho
      rw [cr _ _ _ _ _ ho.2.2.2.2, cr _ _ _ _ _ ho.2.2.2.1, uS_row _ _ _ ho.1, uS_row _ _ _ ho.1, hF o (by simp only [List.mem_cons, List.not_mem_nil, or_false, not_or]; exact ho)]
    · rw [cr _ _ _ _ _ (by decide), cr _ _ _ _ _ (by decide), uS_ne _ _ (Or.inr (by decide)), uS_ne _ _ (Or.inr (by decide))]
      exact e2
    · rw [cr _ _ _ _ _ (by decide), cr _ _ _ _ _ (by decide), uS_ne _ _ (Or.inr (by decide)), uS_ne _ _ (Or.inr (by decide)), e0 0 (by decide) (by decide), uS_self]
    · rw [cr _ _ _ _ _ (by decide), cr _ _ _ _ _ (by decide), uS_ne _ _ (Or.inr q3), uS_ne _ _ (Or.inr (by omega)), e0 k (by omega) q2, uS_ne _ _ (Or.inr (by omega))]
end LWC
