/-! THE CALLS OF land -/
/-- how a land begins -/
def s0F (x : LSt) : Int → Int := fun k => if k < 12 then x.2.2.2.1 (4 * k + 3) else if k < 24 then 0 else if k < 29 then x.2.2.2.2 (2 * (k - 24)) else if k < 34 then x.2.2.2.2 (2 * (k - 29)) else if k < 39 then -1 else if k < 44 then 0 else if k < 49 then x.2.2.2.2 (2 * (k - 44) + 1) else 0
theorem s0_r (x : LSt) {r : Int} (h : 0 ≤ r ∧ r < 12) : s0F x r = x.2.2.2.1 (4 * r + 3) ∧ s0F x (12 + r) = 0 := by
  unfold s0F
  rw [if_pos h.2, if_neg (by omega), if_pos (by omega)]
  exact ⟨rfl, rfl⟩
theorem s0_c (x : LSt) {c : Int} (h : 0 ≤ c ∧ c < 5) : s0F x (24 + c) = x.2.2.2.2 (2 * c) ∧ s0F x (29 + c) = x.2.2.2.2 (2 * c) ∧ s0F x (34 + c) = -1 ∧ s0F x (39 + c) = 0 ∧ s0F x (44 + c) = x.2.2.2.2 (2 * c + 1) := by
  unfold s0F
  refine ⟨?_, ?_, ?_, ?_, ?_⟩
  · rw [if_neg (by omega), if_neg (by omega), if_pos (by omega), show 24 + c - 24 = c by omega]
  · rw [if_neg (by omega), if_neg (by omega), if_neg (by omega), if_pos (by omega), show 29 + c - 29 = c by omega]
  · rw [if_neg (by omega), if_neg (by omega), if_neg (by omega), if_neg (by omega), if_pos (by omega)]
  · rw [if_neg (by omega), if_neg (by omega), if_neg (by omega), if_neg (by omega), if_neg (by omega), if_pos (by omega)]
  · rw [if_neg (by omega), if_neg (by omega), if_neg (by omega), if_neg (by omega), if_neg (by omega), if_neg (by omega), if_pos (by omega), show 44 + c - 44 = c by omega]
theorem s0_t (x : LSt) : s0F x 49 = 0 ∧ s0F x 50 = 0 := ⟨rfl, rfl⟩
theorem s0_inv {x : LSt} (h : okL x) : InvS x.2.2.2.1 x.2.1 x.2.2.1 (s0F x) := by
  obtain ⟨⟨a1, a2⟩, ⟨a3, a4⟩, ⟨a5, a6⟩, h4, h5⟩ := h
  obtain ⟨z49, z50⟩ := s0_t x
  refine ⟨⟨fun r r1 r2 => ?_, fun c c1 c2 => ?_, by rw [z50]; decide, by rw [z50]; decide, by rw [z49]; decide, by rw [z49, z50]; decide⟩, fun c c1 c2 => ?_⟩
  · obtain ⟨e1, e2⟩ := s0_r x (r := r) ⟨r1, by omega⟩
    obtain ⟨-, -, -, -, -, -, -, b1, b2⟩ := h4 r r1 r2
    rw [e1, e2]
    exact ⟨b1, b2, by decide, by rw [z50]; decide⟩
  · obtain ⟨e1, e2, e3, e4, e5⟩ := s0_c x (c := c) ⟨c1, by omega⟩
    obtain ⟨b1, b2, b3, b4⟩ := h5 c c1 c2
    rw [e1, e2, e3, e4, e5]
    omega
  · obtain ⟨e1, e2, e3, e4, e5⟩ := s0_c x (c := c) ⟨c1, by omega⟩
    rw [e3, e4]
    exact ⟨fun _ => rfl, fun z => absurd rfl z⟩
theorem mk_fold (w : Bool × Bool × Bool) (I : Nat → Nat → Int32) (J : Nat → Nat → Int64) : ((159, I, J, RX w) : aSt) = mkS w I J := id rfl
section LDC
variable {X : Nat × (Nat → Int32)} {d : Nat} {w : Bool × Bool × Bool} {S : Hp} {J : Nat → Nat → Int64} {B : Nat → Int} {sz n tp : Int} {x : LSt} {bl bw bb : Bool}
theorem c_lawBegin (w : Bool × Bool × Bool) (J : Nat → Nat → Int64) : ∃ S', (∀ d, am_call X aP (d + 2) 28 [.ref (iW bw)] (mkS w (hI S) J) = some (.inl none, (mkS w (hI S') J))) ∧ CW S' (iW bw) [] ∧ Fr [iW bw, iW bw + 1, iW bw + 2] S S' := by
  have hb := iW_c bw
  refine ⟨uS (uS (uS (uS S (iW bw) 4 0) (iW bw + 1) 0 0) (iW bw + 2) 0 2) (iW bw) 4 1, fun d => ?_, ⟨uS_self _ _ _ _, by decide, Or.inl rfl, ?_, ?_, trivial⟩, fun o ho => ?_⟩
  · rw [go_X3_begin, e_X3_begin_0, go_X3_put, e_X3_put_0]
    simp (disch := omega) only [hk, hu, hI_n, hI_un, z_nat, em_d, zl, z_add, z_sub, z_mul, z_lt, z_eq, gI_mk, gJ_mk, cI_some, cV_some, cJ_some, cI_x, cV_x, cJ_x, uS_self, uS_ne, if_pos, if_neg, b01, b01n, ite_not, if_true, if_false, Bool.false_eq_true, hLL, rI_d, rV_d]
    rfl
  · simp (disch := omega) only [uS_ne, uS_self]
  · simp (disch := omega) only [uS_ne, uS_self]
  · simp only [List.mem_cons, List.not_mem_nil, or_false, not_or] at ho
    rw [uS_row _ _ _ ho.1, uS_row _ _ _ ho.2.2, uS_row _ _ _ ho.2.1, uS_row _ _ _ ho.1]
theorem c_nowBegin (w : Bool × Bool × Bool) (J : Nat → Nat → Int64) (hL : CLd S (iL bl) x) : ∃ S', (∀ d, am_call X aP (d + 2) 47 [.ref 8, .ref ((iL bl))] (mkS w (hI S) J) = some (.inl none, (mkS w (hI S') J))) ∧ CS x.2.1 x.2.2.1 S' 8 (s0F x) ∧ Fr [8, 9, 10, 11, 12, 13, 14, 15] S S' ∧ ∀ k, k ≠ 8 → k ≠ 9 → S' 8 k = S 8 k := by
  have hb := iL_c bl
  obtain ⟨t6, t7, t8, hr, hc, ⟨a1, a2⟩, ⟨a3, a4⟩, ⟨a5, a6⟩, -⟩ := id hL
  have f1 : ∀ (T : Hp) d, am_call X aP (d + 1) 301 [.ref 10, .int (zI 0)] (mkS w (hI T) J) = some (.inl none, (mkS w (hI (fillS T 10 12 0)) J)) := fun T d => c_fill (X := X) (d := d) (w := w) (J := J) (S := T) rfl (by decide) rfl (by decide) 0
  have f2 : ∀ (T : Hp) d, am_call X aP (d + 1) 301 [.ref 13, .int (zI ((-1)))] (mkS w (hI T) J) = some (.inl none, (mkS w (hI (fillS T 13 5 (-1))) J)) := fun T d => c_fill (X := X) (d := d) (w := w) (J := J) (S := T) rfl (by decide) rfl (by decide) (-1)
  have f3 : ∀ (T : Hp) d, am_call X aP (d + 1) 301 [.ref 14, .int (zI 0)] (mkS w (hI T) J) = some (.inl none, (mkS w (hI (fillS T 14 5 0)) J)) := fun T d => c_fill (X := X) (d := d) (w := w) (J := J) (S := T) rfl (by decide) rfl (by decide) 0
  have fo : ∀ (T : Hp) (o : Nat) (m v : Int) (o' : Nat), o' ≠ o → fillS T o m v o' = T o' := fun T o m v o' ho => fillS_fr T o m v o' (fun z => ho (List.mem_singleton.mp z))
  have fi : ∀ (T : Hp) (o : Nat) (m v a : Int), 0 ≤ a → a < m → fillS T o m v o a = v := fun T o m v a h1 h2 => by
    unfold fillS
    rw [if_pos ⟨rfl, h1, h2⟩]
  refine ⟨cpy (fillS (fillS (cpy (cpy (fillS (cpy (uS (uS S 8 8 0) 8 9 0) (iL bl + 4) 9 0 0 12) 10 12 0) (iL bl + 5) 11 0 0 5) (iL bl + 5) 12 0 0 5) 13 5 (-1)) 14 5 0) (iL bl + 6) 15 0 0 5, fun d => ?_, ⟨fun r r1 r2 => ?_, fun c c1 c2 => ?_, ?_, ?_⟩, fun o ho => ?_, fun k q1 q2 => ?_⟩
  · have h0 := e_X5_begin_0 X (d + 1) 9999999 w (hI S) J bl false
    have e14 := e_X5_begin_14 X (d + 1) 9999998 w (hI (cpy (uS (uS S 8 8 0) 8 9 0) (iL bl + 4) 9 0 0 12)) J bl false
    have e26 := e_X5_begin_26 X (d + 1) 9999997 w (hI (cpy (fillS (cpy (uS (uS S 8 8 0) 8 9 0) (iL bl + 4) 9 0 0 12) 10 12 0) (iL bl + 5) 11 0 0 5)) J bl false
    have e34 := e_X5_begin_34 X (d + 1) 9999996 w (hI (cpy (cpy (fillS (cpy (uS (uS S 8 8 0) 8 9 0) (iL bl + 4) 9 0 0 12) 10 12 0) (iL bl + 5) 11 0 0 5) (iL bl + 5) 12 0 0 5)) J bl false
    have eS : iS false = 8 := rfl
    rw [eS] at h0 e14 e26 e34
    have k1 : KK (8 + 1) = 10 := rfl
    have k3 : KK (8 + 3) = 10 := rfl
    have k4 : KK (8 + 4) = 10 := rfl
    have k7 : KK (8 + 7) = 10 := rfl
    have l1 : LL (8 + 1) = 12 := rfl
    have l3 : LL (8 + 3) = 5 := rfl
    have l4 : LL (8 + 4) = 5 := rfl
    have l7 : LL (8 + 7) = 5 := rfl
    refine (go_X5_begin X (d + 1) false bl (mkS w (hI S) J)).trans ?_
    refine h0.trans ?_
    simp (disch := omega) only [hk, hu, hI_n, hI_un, z_nat, em_d, zl, z_add, z_sub, z_mul, z_lt, z_eq, gI_mk, gJ_mk, cI_some, cV_some, cJ_some, cI_x, cV_x, cJ_x, uS_self, uS_ne, if_pos, if_neg, b01, b01n, ite_not, if_true, if_false, Bool.false_eq_true, hLL, k1, l1, and_true, true_and, eq_self, hI_cpy]
    refine e14.trans ?_
    refine cV_go (st := mkS w (hI (fillS (cpy (uS (uS S 8 8 0) 8 9 0) (iL bl + 4) 9 0 0 12) 10 12 0)) J) ?_ ?_
    · simp only [zl]
      exact f1 _ _
    simp (disch := omega) only [hk, hu, hI_n, hI_un, z_nat, em_d, zl, z_add, z_sub, z_mul, z_lt, z_eq, gI_mk, gJ_mk, cI_some, cV_some, cJ_some, cI_x, cV_x, cJ_x, uS_self, uS_ne, if_pos, if_neg, b01, b01n, ite_not, if_true, if_false, Bool.false_eq_true, hLL, k3, l3, and_true, true_and, eq_self, hI_cpy]
    refine e26.trans ?_
    simp (disch := omega) only [hk, hu, hI_n, hI_un, z_nat, em_d, zl, z_add, z_sub, z_mul, z_lt, z_eq, gI_mk, gJ_mk, cI_some, cV_some, cJ_some, cI_x, cV_x, cJ_x, uS_self, uS_ne, if_pos, if_neg, b01, b01n, ite_not, if_true, if_false, Bool.false_eq_true, hLL, k4, l4, and_true, true_and, eq_self, hI_cpy]
    refine e34.trans ?_
    refine cV_go (st := mkS w (hI (fillS (cpy (cpy (fillS (cpy (uS (uS S 8 8 0) 8 9 0) (iL bl + 4) 9 0 0 12) 10 12 0) (iL bl + 5) 11 0 0 5) (iL bl + 5) 12 0 0 5) 13 5 (-1))) J) ?_ ?_
    · simp only [zl]
      exact f2 _ _
    refine cV_go (st := mkS w (hI (fillS (fillS (cpy (cpy (fillS (cpy (uS (uS S 8 8 0) 8 9 0) (iL bl + 4) 9 0 0 12) 10 12 0) (iL bl + 5) 11 0 0 5) (iL bl + 5) 12 0 0 5) 13 5 (-1)) 14 5 0)) J) ?_ ?_
    · simp only [gI_mk, gJ_mk, zl]
      exact f3 _ _
    simp (disch := omega) only [hk, hu, hI_n, hI_un, z_nat, em_d, zl, z_add, z_sub, z_mul, z_lt, z_eq, gI_mk, gJ_mk, cI_some, cV_some, cJ_some, cI_x, cV_x, cJ_x, uS_self, uS_ne, if_pos, if_neg, b01, b01n, ite_not, if_true, if_false, Bool.false_eq_true, hLL, k7, l7, and_true, true_and, eq_self, hI_cpy, rV_d]
  · obtain ⟨e1, e2⟩ := s0_r x (r := r) ⟨r1, by omega⟩
    rw [e1, e2]
    constructor
    · show cpy _ _ 15 0 0 5 9 r = _
      rw [cpy_row _ (by decide), fo _ _ _ _ _ (by decide), fo _ _ _ _ _ (by decide), cpy_row _ (by decide), cpy_row _ (by decide), fo _ _ _ _ _ (by decide), cpy_in _ (by omega), uS_row _ _ _ (by omega), uS_row _ _ _ (by omega), show 0 + (r - 0) = r by omega]
      exact (hr r r1 r2).2.2.2
    · show cpy _ _ 15 0 0 5 10 r = _
      rw [cpy_row _ (by decide), fo _ _ _ _ _ (by decide), fo _ _ _ _ _ (by decide), cpy_row _ (by decide), cpy_row _ (by decide), fi _ _ _ _ _ r1 (by omega)]
  · obtain ⟨e1, e2, e3, e4, e5⟩ := s0_c x (c := c) ⟨c1, by omega⟩
    obtain ⟨b1, b2⟩ := hc c c1 c2
    have ex : 0 + (c - 0) = c := by omega
    rw [e1, e2, e3, e4, e5]
    refine ⟨?_, ?_, ?_, ?_, ?_⟩
    · show cpy _ _ 15 0 0 5 11 c = _
      rw [cpy_row _ (by decide), fo _ _ _ _ _ (by decide), fo _ _ _ _ _ (by decide), cpy_row _ (by decide), cpy_in _ (by omega), fo _ _ _ _ _ (by omega), cpy_row _ (by omega), uS_row _ _ _ (by omega), uS_row _ _ _ (by omega), ex]
      exact b1
    · show cpy _ _ 15 0 0 5 12 c = _
      rw [cpy_row _ (by decide), fo _ _ _ _ _ (by decide), fo _ _ _ _ _ (by decide), cpy_in _ (by omega), cpy_row _ (by omega), fo _ _ _ _ _ (by omega), cpy_row _ (by omega), uS_row _ _ _ (by omega), uS_row _ _ _ (by omega), ex]
      exact b1
    · show cpy _ _ 15 0 0 5 13 c = _
      rw [cpy_row _ (by decide), fo _ _ _ _ _ (by decide), fi _ _ _ _ _ c1 (by omega)]
    · show cpy _ _ 15 0 0 5 14 c = _
      rw [cpy_row _ (by decide), fi _ _ _ _ _ c1 (by omega)]
    · show cpy _ _ 15 0 0 5 15 c = _
      rw [cpy_in _ (by omega), fo _ _ _ _ _ (by omega), fo _ _ _ _ _ (by omega), cpy_row _ (by omega), cpy_row _ (by omega), fo _ _ _ _ _ (by omega), cpy_row _ (by omega), uS_row _ _ _ (by omega), uS_row _ _ _ (by omega), ex]
      exact b2
  · rw [cpy_row _ (by decide), fo _ _ _ _ _ (by decide), fo _ _ _ _ _ (by decide), cpy_row _ (by decide), cpy_row _ (by decide), fo _ _ _ _ _ (by decide), cpy_row _ (by decide), uS_ne _ _ (Or.inr (by decide)), uS_self]
    rfl
  · rw [cpy_row _ (by decide), fo _ _ _ _ _ (by decide), fo _ _ _ _ _ (by decide), cpy_row _ (by decide), cpy_row _ (by decide), fo _ _ _ _ _ (by decide), cpy_row _ (by decide), uS_self]
    rfl
  · simp only [List.mem_cons, List.not_mem_nil, or_false, not_or] at ho
    rw [cpy_row _ (by omega), fo _ _ _ _ _ (by omega), fo _ _ _ _ _ (by omega), cpy_row _ (by omega), cpy_row _ (by omega), fo _ _ _ _ _ (by omega), cpy_row _ (by omega), uS_row _ _ _ (by omega), uS_row _ _ _ (by omega)]
  · rw [cpy_row _ (by decide), fo _ _ _ _ _ (by decide), fo _ _ _ _ _ (by decide), cpy_row _ (by decide), cpy_row _ (by decide), fo _ _ _ _ _ (by decide), cpy_row _ (by decide), uS_ne _ _ (Or.inr q2), uS_ne _ _ (Or.inr q1)]
theorem c_landB (h1 : S 1 1 = sz) (hsz : 0 ≤ sz ∧ sz ≤ 600) (hb : -2147483648 ≤ n ∧ n < 2147483648) (hn : ¬ (0 ≤ n ∧ n ≤ min sz 600)) : am_call X aP (d + 7) 104 [.ref 0, .int (zI n)] (mkS w (hI S) J) = some (.inr 2, (mkS w (hI (xbS S)) J)) := by
  rw [go_X9_land, e_X9_land_0]
  simp (disch := omega) only [hk, hu, hI_n, hI_un, z_nat, em_d, zl, z_add, z_sub, z_mul, z_lt, z_eq, gI_mk, gJ_mk, cI_some, cV_some, cJ_some, cI_x, cV_x, cJ_x, uS_self, uS_ne, if_pos, if_neg, b01, b01n, ite_not, if_true, if_false, Bool.false_eq_true, hLL]
  rw [c_openText0 h1 hsz (by decide) hb hn]
  simp (disch := omega) only [hk, hu, hI_n, hI_un, z_nat, em_d, zl, z_add, z_sub, z_mul, z_lt, z_eq, gI_mk, gJ_mk, cI_some, cV_some, cJ_some, cI_x, cV_x, cJ_x, uS_self, uS_ne, if_pos, if_neg, b01, b01n, ite_not, if_true, if_false, Bool.false_eq_true, hLL, rX_d]
theorem c_landF (w : Bool × Bool × Bool) (J : Nat → Nat → Int64) (hT : Tx S 2 B) (h1 : S 1 1 = sz) (hsz : 0 ≤ sz ∧ sz ≤ 600) (hn : 0 ≤ n ∧ n ≤ min sz 600) {f : Flt} (hf : ldAll B n.toNat = .inl f) : ∃ S', (∀ d, am_call X aP (d + 7) 104 [.ref 0, .int (zI n)] (mkS w (hI S) J) = some (.inl (some (.int (zI (f.1 - 10)))), (mkS w (hI S') J))) ∧ S' 0 12 = f.2 ∧ S' 1 1 = 0 ∧ Fr [0, 1, iL (!w.1), iL (!w.1) + 1, iL (!w.1) + 2, iL (!w.1) + 3, iL (!w.1) + 4, iL (!w.1) + 5, iL (!w.1) + 6] S S' ∧ ∀ k, k ≠ 12 → S' 0 k = S 0 k := by
  have hb := iL_c (!w.1)
  obtain ⟨S1, g1, g2, g3, g4, g5, g6⟩ := c_openText1 (X := X) w J hT h1 hsz (most := 600) (by decide) hn
  obtain ⟨S2, f1, f2, f3⟩ := c_landRead (X := X) (bl := !w.1) w J g2
  rw [hf] at f1 f2
  obtain ⟨y1, y2⟩ := f2
  have e0 : S2 0 = S1 0 := f3.1 0 (by simp only [List.mem_cons, List.not_mem_nil, or_false]; omega)
  have e1 : S2 1 1 = 0 := (f3.2 1 (by decide)).trans g4
  refine ⟨uS S2 0 12 f.2, fun d => ?_, uS_self _ _ _ _, (uS_ne _ _ (Or.inl (by decide))).trans e1, ?_, fun k q => by rw [uS_ne _ _ (Or.inr q), e0]; exact g6 k q⟩
  · rw [go_X9_land, e_X9_land_0]
    refine cV_go (st := mkS w (hI S1) J) ?_ ?_
    · simp only [zl]
      exact g1 _
    simp only [gI_mk, gJ_mk]
    rw [show 9999999 = 9999998 + 1 from rfl, e_X9_land_4]
    refine cI_go (r := zI 0) (st := mkS w (hI S2) J) (f1 _) ?_
    refine (if_pos ?_).trans ?_
    · decide
    refine cI_go (r := zI (f.1 - 10)) (st := mkS w (hI (uS S2 0 12 f.2)) J) ?_ ?_
    · simp only [gI_mk, gJ_mk]
      exact c_faulty y1 y2
    simp only [gI_mk, gJ_mk, rI_d]
  · exact Fr_tr (Fr_tr g3 f3.1 (by simp only [List.mem_cons, List.not_mem_nil, or_false]; omega) (by simp only [List.mem_cons, List.not_mem_nil, or_false]; omega)) (Fr_u S2 (L := [0]) _ _ (by decide)) (fun _ z => z) (by simp only [List.mem_cons, List.not_mem_nil, or_false]; omega)
theorem c_landO (w : Bool × Bool × Bool) (J : Nat → Nat → Int64) (hT : Tx S 2 B) (h1 : S 1 1 = sz) (hsz : 0 ≤ sz ∧ sz ≤ 600) (hn : 0 ≤ n ∧ n ≤ min sz 600) (hx : ldAll B n.toNat = .inr x) : ∃ S', (∀ d, am_call X aP (d + 7) 104 [.ref 0, .int (zI n)] (mkS w (hI S) J) = some (.inl (some (.int (zI x.1))), (mkS (!w.1, w.2.1, w.2.2) (hI S') J))) ∧ (S' 0 12 = -1 ∧ S' 0 13 = 0 ∧ S' 1 1 = 0 ∧ S' 26 3 = 0 ∧ S' 26 4 = 0 ∧ S' (iB w.2.2) 3 = 0) ∧ CLd S' (iL (!w.1)) x ∧ CS x.2.1 x.2.2.1 S' 8 (s0F x) ∧ CW S' (iW w.2.1) [] ∧ (∀ k, k ≠ 12 → k ≠ 13 → S' 0 k = S 0 k) ∧ (∀ o, o ≠ 0 → o ≠ 1 → ¬ (8 ≤ o ∧ o ≤ 15) → o ≠ 26 → ¬ (100 ≤ o ∧ o ≤ 131) → S' o = S o) ∧ ∀ k, k ≠ 8 → k ≠ 9 → S' 8 k = S 8 k := by
  have hb := iL_c (!w.1)
  have hw := iW_c w.2.1
  have hB := iB_c w.2.2
  obtain ⟨S1, g1, g2, g3, g4, g5, g6⟩ := c_openText1 (X := X) w J hT h1 hsz (most := 600) (by decide) hn
  obtain ⟨S2, f1, f2, f3⟩ := c_landRead (X := X) (bl := !w.1) w J g2
  rw [hx] at f1 f2
  have f2 : CLd S2 (iL (!w.1)) x := f2
  have hx1 : 0 ≤ x.1 ∧ x.1 ≤ 7 := f2.2.2.2.2.2.1
  obtain ⟨S3, y1, y2, y3⟩ := c_lawBegin (X := X) (S := S2) (bw := w.2.1) (!w.1, w.2.1, w.2.2) J
  have fr4 : ∀ o, o ≠ iW w.2.1 → o ≠ iW w.2.1 + 1 → o ≠ iW w.2.1 + 2 → o ≠ iB w.2.2 → o ≠ 26 → uS (uS (uS S3 (iB w.2.2) 3 0) 26 3 0) 26 4 0 o = S2 o := fun o q1 q2 q3 q4 q5 => by
    rw [uS_row _ _ _ q5, uS_row _ _ _ q5, uS_row _ _ _ q4]
    exact y3 o (by simp only [List.mem_cons, List.not_mem_nil, or_false, not_or]; exact ⟨q1, q2, q3⟩)
  have hL4 : CLd (uS (uS (uS S3 (iB w.2.2) 3 0) 26 3 0) 26 4 0) (iL (!w.1)) x := by
    unfold CLd
    rw [fr4 (iL (!w.1)) (by omega) (by omega) (by omega) (by omega) (by omega), fr4 (iL (!w.1) + 1) (by omega) (by omega) (by omega) (by omega) (by omega), fr4 (iL (!w.1) + 2) (by omega) (by omega) (by omega) (by omega) (by omega), fr4 (iL (!w.1) + 3) (by omega) (by omega) (by omega) (by omega) (by omega), fr4 (iL (!w.1) + 4) (by omega) (by omega) (by omega) (by omega) (by omega), fr4 (iL (!w.1) + 5) (by omega) (by omega) (by omega) (by omega) (by omega), fr4 (iL (!w.1) + 6) (by omega) (by omega) (by omega) (by omega) (by omega)]
    exact f2
  obtain ⟨S5, z1, z2, z3, z4⟩ := c_nowBegin (X := X) (bl := !w.1) (!w.1, w.2.1, w.2.2) J hL4
  have fr5 : ∀ o, ¬ (8 ≤ o ∧ o ≤ 15) → S5 o = uS (uS (uS S3 (iB w.2.2) 3 0) 26 3 0) 26 4 0 o := fun o q => z3 o (by simp only [List.mem_cons, List.not_mem_nil, or_false, not_or]; omega)
  have e0 : S5 0 = S1 0 := by rw [fr5 0 (by omega), fr4 0 (by omega) (by omega) (by omega) (by omega) (by omega), f3.1 0 (by simp only [List.mem_cons, List.not_mem_nil, or_false]; omega)]
  have r6 : ∀ o, o ≠ 0 → uS S5 0 13 0 o = S5 o := fun o q => uS_row _ _ _ q
  refine ⟨uS S5 0 13 0, fun d => ?_, ⟨?_, uS_self _ _ _ _, ?_, ?_, ?_, ?_⟩, ?_, ?_, ?_, fun k q1 q2 => ?_, fun o o1 o2 o3 o4 o5 => ?_, fun k q1 q2 => ?_⟩
  · rw [go_X9_land, e_X9_land_0]
    refine cV_go (st := mkS w (hI S1) J) ?_ ?_
    · simp only [zl]
      exact g1 _
    simp only [gI_mk, gJ_mk]
    rw [show 9999999 = 9999998 + 1 from rfl, e_X9_land_4]
    refine cI_go (r := zI 1) (st := mkS w (hI S2) J) (f1 _) ?_
    refine (if_neg ?_).trans ?_
    · decide
    simp only [gI_mk, gJ_mk, RX_L, mk_fold]
    refine cV_go (st := mkS (!w.1, w.2.1, w.2.2) (hI S3) J) (y1 _) ?_
    simp only [gI_mk, gJ_mk, RX_L, mk_fold]
    refine cV_go (st := mkS (!w.1, w.2.1, w.2.2) (hI (uS S3 (iB w.2.2) 3 0)) J) ?_ ?_
    · rw [go_X0_begin, e_X0_begin_0]
      simp (disch := omega) only [hk, hu, hI_n, hI_un, z_nat, em_d, zl, z_add, z_sub, z_mul, z_lt, z_eq, gI_mk, gJ_mk, cI_some, cV_some, cJ_some, cI_x, cV_x, cJ_x, uS_self, uS_ne, if_pos, if_neg, b01, b01n, ite_not, if_true, if_false, Bool.false_eq_true, hLL, rV_d]
    simp only [gI_mk, gJ_mk, RX_L, mk_fold]
    refine cV_go (st := mkS (!w.1, w.2.1, w.2.2) (hI (uS (uS (uS S3 (iB w.2.2) 3 0) 26 3 0) 26 4 0)) J) ?_ ?_
    · rw [go_X4_begin, e_X4_begin_0]
      simp (disch := omega) only [hk, hu, hI_n, hI_un, z_nat, em_d, zl, z_add, z_sub, z_mul, z_lt, z_eq, gI_mk, gJ_mk, cI_some, cV_some, cJ_some, cI_x, cV_x, cJ_x, uS_self, uS_ne, if_pos, if_neg, b01, b01n, ite_not, if_true, if_false, Bool.false_eq_true, hLL, rV_d]
    simp only [gI_mk, gJ_mk, RX_L, mk_fold]
    refine cV_go (st := mkS (!w.1, w.2.1, w.2.2) (hI S5) J) (z1 _) ?_
    have t6 : S5 (iL (!w.1)) 6 = x.1 := by rw [fr5 _ (by omega)]; exact hL4.1
    simp (disch := omega) only [hk, hu, hI_n, hI_un, z_nat, em_d, zl, z_add, z_sub, z_mul, z_lt, z_eq, gI_mk, gJ_mk, cI_some, cV_some, cJ_some, cI_x, cV_x, cJ_x, uS_self, uS_ne, if_pos, if_neg, b01, b01n, ite_not, if_true, if_false, Bool.false_eq_true, hLL, RX_L, mk_fold, t6, rI_d]
  · rw [uS_ne _ _ (Or.inr (by decide)), e0]
    exact g5
  · rw [r6 1 (by decide), fr5 1 (by omega), fr4 1 (by omega) (by omega) (by omega) (by omega) (by omega)]
    exact (f3.2 1 (by decide)).trans g4
  · rw [r6 26 (by decide), fr5 26 (by omega), uS_ne _ _ (Or.inr (by decide)), uS_self]
  · rw [r6 26 (by decide), fr5 26 (by omega), uS_self]
  · rw [r6 _ (by omega), fr5 _ (by omega), uS_row _ _ _ (by omega), uS_row _ _ _ (by omega), uS_self]
  · unfold CLd
    rw [r6 _ (by omega), r6 _ (by omega), r6 _ (by omega), r6 _ (by omega), r6 _ (by omega), r6 _ (by omega), r6 _ (by omega), fr5 _ (by omega), fr5 _ (by omega), fr5 _ (by omega), fr5 _ (by omega), fr5 _ (by omega), fr5 _ (by omega), fr5 _ (by omega)]
    exact hL4
  · exact CS_of z2 ⟨by rw [r6 8 (by decide)], by rw [r6 8 (by decide)]⟩ (fun i i1 i2 => r6 _ (by omega))
  · have ew : ∀ i, i ≤ 4 → uS S5 0 13 0 (iW w.2.1 + i) = S3 (iW w.2.1 + i) := fun i hi => by
      rw [r6 _ (by omega), fr5 _ (by omega), uS_row _ _ _ (by omega), uS_row _ _ _ (by omega), uS_row _ _ _ (by omega)]
    exact CW_of y2 (by rw [show iW w.2.1 = iW w.2.1 + 0 from rfl, ew 0 (by decide)]) (ew 1 (by decide)) (ew 2 (by decide))
  · rw [uS_ne _ _ (Or.inr q2), e0]
    exact g6 k q1
  · rw [r6 o o1, fr5 o o3, fr4 o (by omega) (by omega) (by omega) (by omega) o4, f3.1 o (by simp only [List.mem_cons, List.not_mem_nil, or_false]; omega), g3 o (by simp only [List.mem_cons, List.not_mem_nil, or_false]; omega)]
  · rw [r6 8 (by decide), z4 k q1 q2, fr4 8 (by omega) (by omega) (by omega) (by omega) (by omega), f3.1 8 (by simp only [List.mem_cons, List.not_mem_nil, or_false]; omega), g3 8 (by decide)]
end LDC
