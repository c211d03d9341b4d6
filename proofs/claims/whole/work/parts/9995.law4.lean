/-! THE LAW'S TEXT: a unit -/
def gvn (B : Nat → Int) (e q : Nat) : Int := if wd B e q = sx 5 then 0 else if wd B e q = sx 6 then 1 else if wd B e q = sx 7 then 2 else if wd B e q = sx 8 then 3 else if wd B e q = sx 9 then 4 else if wd B e q = sx 10 then 5 else if wd B e q = sx 11 then 6 else if wd B e q = sx 1 then 7 else (-1 : Int)
theorem gvn_r (B : Nat → Int) (e q : Nat) : -1 ≤ gvn B e q ∧ gvn B e q < 8 := by
  unfold gvn
  repeat' split
  all_goals decide
theorem wd_ne {B : Nat → Int} {e q : Nat} (h : wd B e q ≠ []) : q < e ∧ 97 ≤ B q ∧ B q ≤ 122 := by
  have h1 : q < e ∧ isL (B q) = true := Classical.byContradiction (fun z => h (wd_stop B e q (fun a b => z ⟨a, b⟩)))
  exact ⟨h1.1, isL_r h1.2⟩
theorem sx_ne {k : Nat} (hk9 : k < 16) : sx k ≠ [] := fun z => by
  have := (sx_ok k hk9).2.2
  rw [z] at this
  exact absurd this (by decide)
theorem wd_let {B : Nat → Int} {e q k : Nat} (hk9 : k < 16) (h : wd B e q = sx k) : q < e ∧ 97 ≤ B q ∧ B q ≤ 122 := wd_ne (by rw [h]; exact sx_ne hk9)
section LW4
variable {X : Nat × (Nat → Int32)} {d : Nat} {w : Bool × Bool × Bool} {S : Hp} {J : Nat → Nat → Int64} {B : Nat → Int} {e p q r : Nat} {bw : Bool} {cd : List (Int × Int)} {F : Nat → LOut}
theorem c_gvn (w : Bool × Bool × Bool) (J : Nat → Nat → Int64) (h : Tp S B e q) : ∃ S', (∀ d, am_call X aP (d + 3) 36 [.ref 1] (mkS w (hI S) J) = some (.inl (some (.int (zI (gvn B e q)))), (mkS w (hI S') J))) ∧ (gvn B e q ≠ -1 → Tp S' B e (sk B e (q + (wd B e q).length))) ∧ (gvn B e q = -1 → S' = S) ∧ FT S S' := by
  by_cases k0 : wd B e q = sx 5
  · have eg : gvn B e q = 0 := by
      unfold gvn
      rw [if_pos k0]
    obtain ⟨S1, f1, f2, f3, f4⟩ := T_word1 (X := X) w J h (k := 5) (by decide) k0
    refine ⟨S1, fun d => ?_, fun _ => f2, fun z => absurd (eg.symm.trans z) (by decide), f4⟩
    rw [eg, go_X3_readGiven, e_X3_readGiven_0]
    refine cI_go (r := zI 1) (st := mkS w (hI S1) J) (f1 _) ?_
    refine (if_neg (by decide)).trans ?_
    simp (disch := omega) only [hk, hu, hI_n, hI_un, z_nat, em_d, zl, z_add, z_sub, z_mul, z_lt, z_eq, gI_mk, gJ_mk, cI_some, cV_some, cJ_some, cI_x, cV_x, cJ_x, uS_self, uS_ne, if_pos, if_neg, b01, b01n, ite_not, if_true, if_false, Bool.false_eq_true, hLL, rI_d]
  · skip
    by_cases k1 : wd B e q = sx 6
    · have eg : gvn B e q = 1 := by
        unfold gvn
        rw [if_neg k0, if_pos k1]
      obtain ⟨S1, f1, f2, f3, f4⟩ := T_word1 (X := X) w J h (k := 6) (by decide) k1
      refine ⟨S1, fun d => ?_, fun _ => f2, fun z => absurd (eg.symm.trans z) (by decide), f4⟩
      rw [eg, go_X3_readGiven, e_X3_readGiven_0]
      refine cI_go (r := zI 0) (st := mkS w (hI S) J) (T_word0 h (by decide) k0) ?_
      refine (if_pos rfl).trans ?_
      refine cI_go (r := zI 1) (st := mkS w (hI S1) J) (f1 _) ?_
      refine (if_neg (by decide)).trans ?_
      simp (disch := omega) only [hk, hu, hI_n, hI_un, z_nat, em_d, zl, z_add, z_sub, z_mul, z_lt, z_eq, gI_mk, gJ_mk, cI_some, cV_some, cJ_some, cI_x, cV_x, cJ_x, uS_self, uS_ne, if_pos, if_neg, b01, b01n, ite_not, if_true, if_false, Bool.false_eq_true, hLL, rI_d]
    · skip
      by_cases k2 : wd B e q = sx 7
      · have eg : gvn B e q = 2 := by
          unfold gvn
          rw [if_neg k0, if_neg k1, if_pos k2]
        obtain ⟨S1, f1, f2, f3, f4⟩ := T_word1 (X := X) w J h (k := 7) (by decide) k2
        refine ⟨S1, fun d => ?_, fun _ => f2, fun z => absurd (eg.symm.trans z) (by decide), f4⟩
        rw [eg, go_X3_readGiven, e_X3_readGiven_0]
        refine cI_go (r := zI 0) (st := mkS w (hI S) J) (T_word0 h (by decide) k0) ?_
        refine (if_pos rfl).trans ?_
        refine cI_go (r := zI 0) (st := mkS w (hI S) J) (T_word0 h (by decide) k1) ?_
        refine (if_pos rfl).trans ?_
        refine cI_go (r := zI 1) (st := mkS w (hI S1) J) (f1 _) ?_
        refine (if_neg (by decide)).trans ?_
        simp (disch := omega) only [hk, hu, hI_n, hI_un, z_nat, em_d, zl, z_add, z_sub, z_mul, z_lt, z_eq, gI_mk, gJ_mk, cI_some, cV_some, cJ_some, cI_x, cV_x, cJ_x, uS_self, uS_ne, if_pos, if_neg, b01, b01n, ite_not, if_true, if_false, Bool.false_eq_true, hLL, rI_d]
      · skip
        by_cases k3 : wd B e q = sx 8
        · have eg : gvn B e q = 3 := by
            unfold gvn
            rw [if_neg k0, if_neg k1, if_neg k2, if_pos k3]
          obtain ⟨S1, f1, f2, f3, f4⟩ := T_word1 (X := X) w J h (k := 8) (by decide) k3
          refine ⟨S1, fun d => ?_, fun _ => f2, fun z => absurd (eg.symm.trans z) (by decide), f4⟩
          rw [eg, go_X3_readGiven, e_X3_readGiven_0]
          refine cI_go (r := zI 0) (st := mkS w (hI S) J) (T_word0 h (by decide) k0) ?_
          refine (if_pos rfl).trans ?_
          refine cI_go (r := zI 0) (st := mkS w (hI S) J) (T_word0 h (by decide) k1) ?_
          refine (if_pos rfl).trans ?_
          refine cI_go (r := zI 0) (st := mkS w (hI S) J) (T_word0 h (by decide) k2) ?_
          refine (if_pos rfl).trans ?_
          refine cI_go (r := zI 1) (st := mkS w (hI S1) J) (f1 _) ?_
          refine (if_neg (by decide)).trans ?_
          simp (disch := omega) only [hk, hu, hI_n, hI_un, z_nat, em_d, zl, z_add, z_sub, z_mul, z_lt, z_eq, gI_mk, gJ_mk, cI_some, cV_some, cJ_some, cI_x, cV_x, cJ_x, uS_self, uS_ne, if_pos, if_neg, b01, b01n, ite_not, if_true, if_false, Bool.false_eq_true, hLL, rI_d]
        · skip
          by_cases k4 : wd B e q = sx 9
          · have eg : gvn B e q = 4 := by
              unfold gvn
              rw [if_neg k0, if_neg k1, if_neg k2, if_neg k3, if_pos k4]
            obtain ⟨S1, f1, f2, f3, f4⟩ := T_word1 (X := X) w J h (k := 9) (by decide) k4
            refine ⟨S1, fun d => ?_, fun _ => f2, fun z => absurd (eg.symm.trans z) (by decide), f4⟩
            rw [eg, go_X3_readGiven, e_X3_readGiven_0]
            refine cI_go (r := zI 0) (st := mkS w (hI S) J) (T_word0 h (by decide) k0) ?_
            refine (if_pos rfl).trans ?_
            refine cI_go (r := zI 0) (st := mkS w (hI S) J) (T_word0 h (by decide) k1) ?_
            refine (if_pos rfl).trans ?_
            refine cI_go (r := zI 0) (st := mkS w (hI S) J) (T_word0 h (by decide) k2) ?_
            refine (if_pos rfl).trans ?_
            refine cI_go (r := zI 0) (st := mkS w (hI S) J) (T_word0 h (by decide) k3) ?_
            refine (if_pos rfl).trans ?_
            refine cI_go (r := zI 1) (st := mkS w (hI S1) J) (f1 _) ?_
            refine (if_neg (by decide)).trans ?_
            simp (disch := omega) only [hk, hu, hI_n, hI_un, z_nat, em_d, zl, z_add, z_sub, z_mul, z_lt, z_eq, gI_mk, gJ_mk, cI_some, cV_some, cJ_some, cI_x, cV_x, cJ_x, uS_self, uS_ne, if_pos, if_neg, b01, b01n, ite_not, if_true, if_false, Bool.false_eq_true, hLL, rI_d]
          · skip
            by_cases k5 : wd B e q = sx 10
            · have eg : gvn B e q = 5 := by
                unfold gvn
                rw [if_neg k0, if_neg k1, if_neg k2, if_neg k3, if_neg k4, if_pos k5]
              obtain ⟨S1, f1, f2, f3, f4⟩ := T_word1 (X := X) w J h (k := 10) (by decide) k5
              refine ⟨S1, fun d => ?_, fun _ => f2, fun z => absurd (eg.symm.trans z) (by decide), f4⟩
              rw [eg, go_X3_readGiven, e_X3_readGiven_0]
              refine cI_go (r := zI 0) (st := mkS w (hI S) J) (T_word0 h (by decide) k0) ?_
              refine (if_pos rfl).trans ?_
              refine cI_go (r := zI 0) (st := mkS w (hI S) J) (T_word0 h (by decide) k1) ?_
              refine (if_pos rfl).trans ?_
              refine cI_go (r := zI 0) (st := mkS w (hI S) J) (T_word0 h (by decide) k2) ?_
              refine (if_pos rfl).trans ?_
              refine cI_go (r := zI 0) (st := mkS w (hI S) J) (T_word0 h (by decide) k3) ?_
              refine (if_pos rfl).trans ?_
              refine cI_go (r := zI 0) (st := mkS w (hI S) J) (T_word0 h (by decide) k4) ?_
              refine (if_pos rfl).trans ?_
              refine cI_go (r := zI 1) (st := mkS w (hI S1) J) (f1 _) ?_
              refine (if_neg (by decide)).trans ?_
              simp (disch := omega) only [hk, hu, hI_n, hI_un, z_nat, em_d, zl, z_add, z_sub, z_mul, z_lt, z_eq, gI_mk, gJ_mk, cI_some, cV_some, cJ_some, cI_x, cV_x, cJ_x, uS_self, uS_ne, if_pos, if_neg, b01, b01n, ite_not, if_true, if_false, Bool.false_eq_true, hLL, rI_d]
            · skip
              by_cases k6 : wd B e q = sx 11
              · have eg : gvn B e q = 6 := by
                  unfold gvn
                  rw [if_neg k0, if_neg k1, if_neg k2, if_neg k3, if_neg k4, if_neg k5, if_pos k6]
                obtain ⟨S1, f1, f2, f3, f4⟩ := T_word1 (X := X) w J h (k := 11) (by decide) k6
                refine ⟨S1, fun d => ?_, fun _ => f2, fun z => absurd (eg.symm.trans z) (by decide), f4⟩
                rw [eg, go_X3_readGiven, e_X3_readGiven_0]
                refine cI_go (r := zI 0) (st := mkS w (hI S) J) (T_word0 h (by decide) k0) ?_
                refine (if_pos rfl).trans ?_
                refine cI_go (r := zI 0) (st := mkS w (hI S) J) (T_word0 h (by decide) k1) ?_
                refine (if_pos rfl).trans ?_
                refine cI_go (r := zI 0) (st := mkS w (hI S) J) (T_word0 h (by decide) k2) ?_
                refine (if_pos rfl).trans ?_
                refine cI_go (r := zI 0) (st := mkS w (hI S) J) (T_word0 h (by decide) k3) ?_
                refine (if_pos rfl).trans ?_
                refine cI_go (r := zI 0) (st := mkS w (hI S) J) (T_word0 h (by decide) k4) ?_
                refine (if_pos rfl).trans ?_
                refine cI_go (r := zI 0) (st := mkS w (hI S) J) (T_word0 h (by decide) k5) ?_
                refine (if_pos rfl).trans ?_
                refine cI_go (r := zI 1) (st := mkS w (hI S1) J) (f1 _) ?_
                refine (if_neg (by decide)).trans ?_
                simp (disch := omega) only [hk, hu, hI_n, hI_un, z_nat, em_d, zl, z_add, z_sub, z_mul, z_lt, z_eq, gI_mk, gJ_mk, cI_some, cV_some, cJ_some, cI_x, cV_x, cJ_x, uS_self, uS_ne, if_pos, if_neg, b01, b01n, ite_not, if_true, if_false, Bool.false_eq_true, hLL, rI_d]
              · skip
                by_cases k7 : wd B e q = sx 1
                · have eg : gvn B e q = 7 := by
                    unfold gvn
                    rw [if_neg k0, if_neg k1, if_neg k2, if_neg k3, if_neg k4, if_neg k5, if_neg k6, if_pos k7]
                  obtain ⟨S1, f1, f2, f3, f4⟩ := T_word1 (X := X) w J h (k := 1) (by decide) k7
                  refine ⟨S1, fun d => ?_, fun _ => f2, fun z => absurd (eg.symm.trans z) (by decide), f4⟩
                  rw [eg, go_X3_readGiven, e_X3_readGiven_0]
                  refine cI_go (r := zI 0) (st := mkS w (hI S) J) (T_word0 h (by decide) k0) ?_
                  refine (if_pos rfl).trans ?_
                  refine cI_go (r := zI 0) (st := mkS w (hI S) J) (T_word0 h (by decide) k1) ?_
                  refine (if_pos rfl).trans ?_
                  refine cI_go (r := zI 0) (st := mkS w (hI S) J) (T_word0 h (by decide) k2) ?_
                  refine (if_pos rfl).trans ?_
                  refine cI_go (r := zI 0) (st := mkS w (hI S) J) (T_word0 h (by decide) k3) ?_
                  refine (if_pos rfl).trans ?_
                  refine cI_go (r := zI 0) (st := mkS w (hI S) J) (T_word0 h (by decide) k4) ?_
                  refine (if_pos rfl).trans ?_
                  refine cI_go (r := zI 0) (st := mkS w (hI S) J) (T_word0 h (by decide) k5) ?_
                  refine (if_pos rfl).trans ?_
                  refine cI_go (r := zI 0) (st := mkS w (hI S) J) (T_word0 h (by decide) k6) ?_
                  refine (if_pos rfl).trans ?_
                  refine cI_go (r := zI 1) (st := mkS w (hI S1) J) (f1 _) ?_
                  refine (if_neg (by decide)).trans ?_
                  simp (disch := omega) only [hk, hu, hI_n, hI_un, z_nat, em_d, zl, z_add, z_sub, z_mul, z_lt, z_eq, gI_mk, gJ_mk, cI_some, cV_some, cJ_some, cI_x, cV_x, cJ_x, uS_self, uS_ne, if_pos, if_neg, b01, b01n, ite_not, if_true, if_false, Bool.false_eq_true, hLL, rI_d]
                · have eg : gvn B e q = -1 := by
                    unfold gvn
                    rw [if_neg k0, if_neg k1, if_neg k2, if_neg k3, if_neg k4, if_neg k5, if_neg k6, if_neg k7]
                  refine ⟨S, fun d => ?_, fun z => absurd eg z, fun _ => rfl, FT_rf S⟩
                  rw [eg, go_X3_readGiven, e_X3_readGiven_0]
                  refine cI_go (r := zI 0) (st := mkS w (hI S) J) (T_word0 h (by decide) k0) ?_
                  refine (if_pos rfl).trans ?_
                  refine cI_go (r := zI 0) (st := mkS w (hI S) J) (T_word0 h (by decide) k1) ?_
                  refine (if_pos rfl).trans ?_
                  refine cI_go (r := zI 0) (st := mkS w (hI S) J) (T_word0 h (by decide) k2) ?_
                  refine (if_pos rfl).trans ?_
                  refine cI_go (r := zI 0) (st := mkS w (hI S) J) (T_word0 h (by decide) k3) ?_
                  refine (if_pos rfl).trans ?_
                  refine cI_go (r := zI 0) (st := mkS w (hI S) J) (T_word0 h (by decide) k4) ?_
                  refine (if_pos rfl).trans ?_
                  refine cI_go (r := zI 0) (st := mkS w (hI S) J) (T_word0 h (by decide) k5) ?_
                  refine (if_pos rfl).trans ?_
                  refine cI_go (r := zI 0) (st := mkS w (hI S) J) (T_word0 h (by decide) k6) ?_
                  refine (if_pos rfl).trans ?_
                  refine cI_go (r := zI 0) (st := mkS w (hI S) J) (T_word0 h (by decide) k7) ?_
                  refine (if_pos rfl).trans ?_
                  simp (disch := omega) only [hk, hu, hI_n, hI_un, z_nat, em_d, zl, z_add, z_sub, z_mul, z_lt, z_eq, gI_mk, gJ_mk, cI_some, cV_some, cJ_some, cI_x, cV_x, cJ_x, uS_self, uS_ne, if_pos, if_neg, b01, b01n, ite_not, if_true, if_false, Bool.false_eq_true, hLL, rI_d]
theorem m_fact (h : Mp S B e q) (hq : sk B e q = q) : am_call X aP (d + 3) 185 [.ref 132] (mkS w (hI S) J) = some (.inl (some (.int (zI (gvn B e q)))), (mkS w (hI S) J)) := by
  have hw := wV_lt B e q
  have hwd := fun d => M_wordN (X := X) (d := d) (w := w) (J := J) h hq
  rw [go_X10_factHere, e_X10_factHere_0]
  refine cI_go (r := zI (wV B e q : Nat)) (st := mkS w (hI S) J) (hwd _) ?_
  unfold gvn
  refine cI_go (r := zI (pk5 (sx 5) 0 : Nat)) (st := mkS w (hI S) J) (M_of (k := 5) (by decide)) ?_
  by_cases k0 : wd B e q = sx 5
  · rw [if_pos k0]
    refine (if_pos (by rw [(wV_eq (show 5 < 16 by decide)).mpr k0])).trans ?_
    simp (disch := omega) only [hk, hu, hI_n, hI_un, z_nat, em_d, zl, z_add, z_sub, z_mul, z_lt, z_eq, gI_mk, gJ_mk, cI_some, cV_some, cJ_some, cI_x, cV_x, cJ_x, uS_self, uS_ne, if_pos, if_neg, b01, b01n, ite_not, if_true, if_false, Bool.false_eq_true, rI_d]
  · rw [if_neg k0]
    refine (if_neg (by rw [zW hw (W_lt 5 (by decide))]; exact fun z => k0 ((wV_eq (show 5 < 16 by decide)).mp z))).trans ?_
    refine cI_go (r := zI (pk5 (sx 6) 0 : Nat)) (st := mkS w (hI S) J) (M_of (k := 6) (by decide)) ?_
    by_cases k1 : wd B e q = sx 6
    · rw [if_pos k1]
      refine (if_pos (by rw [(wV_eq (show 6 < 16 by decide)).mpr k1])).trans ?_
      simp (disch := omega) only [hk, hu, hI_n, hI_un, z_nat, em_d, zl, z_add, z_sub, z_mul, z_lt, z_eq, gI_mk, gJ_mk, cI_some, cV_some, cJ_some, cI_x, cV_x, cJ_x, uS_self, uS_ne, if_pos, if_neg, b01, b01n, ite_not, if_true, if_false, Bool.false_eq_true, rI_d]
    · rw [if_neg k1]
      refine (if_neg (by rw [zW hw (W_lt 6 (by decide))]; exact fun z => k1 ((wV_eq (show 6 < 16 by decide)).mp z))).trans ?_
      refine cI_go (r := zI (pk5 (sx 7) 0 : Nat)) (st := mkS w (hI S) J) (M_of (k := 7) (by decide)) ?_
      by_cases k2 : wd B e q = sx 7
      · rw [if_pos k2]
        refine (if_pos (by rw [(wV_eq (show 7 < 16 by decide)).mpr k2])).trans ?_
        simp (disch := omega) only [hk, hu, hI_n, hI_un, z_nat, em_d, zl, z_add, z_sub, z_mul, z_lt, z_eq, gI_mk, gJ_mk, cI_some, cV_some, cJ_some, cI_x, cV_x, cJ_x, uS_self, uS_ne, if_pos, if_neg, b01, b01n, ite_not, if_true, if_false, Bool.false_eq_true, rI_d]
      · rw [if_neg k2]
        refine (if_neg (by rw [zW hw (W_lt 7 (by decide))]; exact fun z => k2 ((wV_eq (show 7 < 16 by decide)).mp z))).trans ?_
        refine cI_go (r := zI (pk5 (sx 8) 0 : Nat)) (st := mkS w (hI S) J) (M_of (k := 8) (by decide)) ?_
        by_cases k3 : wd B e q = sx 8
        · rw [if_pos k3]
          refine (if_pos (by rw [(wV_eq (show 8 < 16 by decide)).mpr k3])).trans ?_
          simp (disch := omega) only [hk, hu, hI_n, hI_un, z_nat, em_d, zl, z_add, z_sub, z_mul, z_lt, z_eq, gI_mk, gJ_mk, cI_some, cV_some, cJ_some, cI_x, cV_x, cJ_x, uS_self, uS_ne, if_pos, if_neg, b01, b01n, ite_not, if_true, if_false, Bool.false_eq_true, rI_d]
        · rw [if_neg k3]
          refine (if_neg (by rw [zW hw (W_lt 8 (by decide))]; exact fun z => k3 ((wV_eq (show 8 < 16 by decide)).mp z))).trans ?_
          refine cI_go (r := zI (pk5 (sx 9) 0 : Nat)) (st := mkS w (hI S) J) (M_of (k := 9) (by decide)) ?_
          by_cases k4 : wd B e q = sx 9
          · rw [if_pos k4]
            refine (if_pos (by rw [(wV_eq (show 9 < 16 by decide)).mpr k4])).trans ?_
            simp (disch := omega) only [hk, hu, hI_n, hI_un, z_nat, em_d, zl, z_add, z_sub, z_mul, z_lt, z_eq, gI_mk, gJ_mk, cI_some, cV_some, cJ_some, cI_x, cV_x, cJ_x, uS_self, uS_ne, if_pos, if_neg, b01, b01n, ite_not, if_true, if_false, Bool.false_eq_true, rI_d]
          · rw [if_neg k4]
            refine (if_neg (by rw [zW hw (W_lt 9 (by decide))]; exact fun z => k4 ((wV_eq (show 9 < 16 by decide)).mp z))).trans ?_
            refine cI_go (r := zI (pk5 (sx 10) 0 : Nat)) (st := mkS w (hI S) J) (M_of (k := 10) (by decide)) ?_
            by_cases k5 : wd B e q = sx 10
            · rw [if_pos k5]
              refine (if_pos (by rw [(wV_eq (show 10 < 16 by decide)).mpr k5])).trans ?_
              simp (disch := omega) only [hk, hu, hI_n, hI_un, z_nat, em_d, zl, z_add, z_sub, z_mul, z_lt, z_eq, gI_mk, gJ_mk, cI_some, cV_some, cJ_some, cI_x, cV_x, cJ_x, uS_self, uS_ne, if_pos, if_neg, b01, b01n, ite_not, if_true, if_false, Bool.false_eq_true, rI_d]
            · rw [if_neg k5]
              refine (if_neg (by rw [zW hw (W_lt 10 (by decide))]; exact fun z => k5 ((wV_eq (show 10 < 16 by decide)).mp z))).trans ?_
              refine cI_go (r := zI (pk5 (sx 11) 0 : Nat)) (st := mkS w (hI S) J) (M_of (k := 11) (by decide)) ?_
              by_cases k6 : wd B e q = sx 11
              · rw [if_pos k6]
                refine (if_pos (by rw [(wV_eq (show 11 < 16 by decide)).mpr k6])).trans ?_
                simp (disch := omega) only [hk, hu, hI_n, hI_un, z_nat, em_d, zl, z_add, z_sub, z_mul, z_lt, z_eq, gI_mk, gJ_mk, cI_some, cV_some, cJ_some, cI_x, cV_x, cJ_x, uS_self, uS_ne, if_pos, if_neg, b01, b01n, ite_not, if_true, if_false, Bool.false_eq_true, rI_d]
              · rw [if_neg k6]
                refine (if_neg (by rw [zW hw (W_lt 11 (by decide))]; exact fun z => k6 ((wV_eq (show 11 < 16 by decide)).mp z))).trans ?_
                refine cI_go (r := zI (pk5 (sx 1) 0 : Nat)) (st := mkS w (hI S) J) (M_of (k := 1) (by decide)) ?_
                by_cases k7 : wd B e q = sx 1
                · rw [if_pos k7]
                  refine (if_pos (by rw [(wV_eq (show 1 < 16 by decide)).mpr k7])).trans ?_
                  simp (disch := omega) only [hk, hu, hI_n, hI_un, z_nat, em_d, zl, z_add, z_sub, z_mul, z_lt, z_eq, gI_mk, gJ_mk, cI_some, cV_some, cJ_some, cI_x, cV_x, cJ_x, uS_self, uS_ne, if_pos, if_neg, b01, b01n, ite_not, if_true, if_false, Bool.false_eq_true, rI_d]
                · rw [if_neg k7]
                  refine (if_neg (by rw [zW hw (W_lt 1 (by decide))]; exact fun z => k7 ((wV_eq (show 1 < 16 by decide)).mp z))).trans ?_
                  simp (disch := omega) only [hk, hu, hI_n, hI_un, z_nat, em_d, zl, z_add, z_sub, z_mul, z_lt, z_eq, gI_mk, gJ_mk, cI_some, cV_some, cJ_some, cI_x, cV_x, cJ_x, uS_self, uS_ne, if_pos, if_neg, b01, b01n, ite_not, if_true, if_false, Bool.false_eq_true, rI_d]
end LW4
