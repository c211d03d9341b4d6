/-! THE PAST: works undone, images -/
theorem cR_some (r : Nat) (f : Nat → aRes) : cR (some r) f = f r := id rfl
theorem rx27 (w : Bool × Bool × Bool) {k : Nat} (h : k < 16) : RX w 27 k = some (28 + k) := by
  show (if k < 16 then some (28 + k) else none) = _
  rw [if_pos h]
theorem rx44 (w : Bool × Bool × Bool) {k : Nat} (h : k < 51) : RX w 44 k = some (45 + k) := by
  show (if k < 51 then some (45 + k) else none) = _
  rw [if_pos h]
theorem kl28 : ∀ k : Nat, k < 16 → KK (28 + k) = 10 ∧ LL (28 + k) = 51 := by decide
theorem kl45 : ∀ k : Nat, k < 51 → KK (45 + k) = 10 ∧ LL (45 + k) = 51 := by decide
abbrev Pst : Type := Nat × (Nat → Int → Int) × Nat × (Nat → Int → Int) × (Nat → Nat) × (Nat → Nat → Int → Int)
abbrev Pst.W (P : Pst) : Nat := P.1
abbrev Pst.pw (P : Pst) : Nat → Int → Int := P.2.1
abbrev Pst.N (P : Pst) : Nat := P.2.2.1
abbrev Pst.im (P : Pst) : Nat → Int → Int := P.2.2.2.1
abbrev Pst.iW (P : Pst) : Nat → Nat := P.2.2.2.2.1
abbrev Pst.iw (P : Pst) : Nat → Nat → Int → Int := P.2.2.2.2.2
def Pwork (P : Pst) (s : Int → Int) : Pst := (P.W + 1, fun i => if i = P.W then s else P.pw i, P.N, P.im, P.iW, P.iw)
def Pundo (P : Pst) : Pst := (P.W - 1, P.pw, P.N, P.im, P.iW, P.iw)
def Pimg (P : Pst) (s : Int → Int) : Pst := (P.W, P.pw, P.N + 1, fun j => if j = P.N then s else P.im j, fun j => if j = P.N then P.W else P.iW j, fun j => if j = P.N then P.pw else P.iw j)
def Prst (P : Pst) : Pst := (P.iW (P.N - 1), P.iw (P.N - 1), P.N - 1, P.im, P.iW, P.iw)
def P0 : Pst := (0, fun _ _ => 0, 0, fun _ _ => 0, fun _ => 0, fun _ _ _ => 0)
/-- every scene of the past is one -/
def PQ (Q : (Int → Int) → Prop) (P : Pst) : Prop := (P.W ≤ 16 ∧ ∀ i, i < P.W → Q (P.pw i)) ∧ P.N ≤ 3 ∧ ∀ j, j < P.N → Q (P.im j) ∧ P.iW j ≤ 16 ∧ ∀ i, i < P.iW j → Q (P.iw j i)
theorem PQ_work {Q : (Int → Int) → Prop} {P : Pst} {s : Int → Int} (h : PQ Q P) (hW : P.W < 16) (hs : Q s) : PQ Q (Pwork P s) := ⟨⟨hW, fun i hi => by
  show Q (if i = P.W then s else P.pw i)
  by_cases e : i = P.W
  · rw [if_pos e]
    exact hs
  · rw [if_neg e]
    exact h.1.2 i (by have : i < P.W + 1 := hi; omega)⟩, h.2⟩
theorem PQ_undo {Q : (Int → Int) → Prop} {P : Pst} (h : PQ Q P) : PQ Q (Pundo P) := ⟨⟨by have := h.1.1; show P.W - 1 ≤ 16; omega, fun i hi => h.1.2 i (by have : i < P.W - 1 := hi; omega)⟩, h.2⟩
theorem PQ_img {Q : (Int → Int) → Prop} {P : Pst} {s : Int → Int} (h : PQ Q P) (hN : P.N < 3) (hs : Q s) : PQ Q (Pimg P s) := ⟨h.1, hN, fun j hj => by
  show Q (if j = P.N then s else P.im j) ∧ (if j = P.N then P.W else P.iW j) ≤ 16 ∧ ∀ i, i < (if j = P.N then P.W else P.iW j) → Q ((if j = P.N then P.pw else P.iw j) i)
  by_cases e : j = P.N
  · rw [if_pos e, if_pos e, if_pos e]
    exact ⟨hs, h.1⟩
  · rw [if_neg e, if_neg e, if_neg e]
    exact h.2.2 j (by have : j < P.N + 1 := hj; omega)⟩
theorem PQ_rst {Q : (Int → Int) → Prop} {P : Pst} (h : PQ Q P) (hN : P.N ≠ 0) : PQ Q (Prst P) := ⟨(h.2.2 (P.N - 1) (by omega)).2, by have := h.2.1; show P.N - 1 ≤ 3; omega, fun j hj => h.2.2 j (by have : j < P.N - 1 := hj; omega)⟩
theorem PQ_0 (Q : (Int → Int) → Prop) : PQ Q P0 := ⟨⟨Nat.zero_le _, fun i hi => absurd hi (Nat.not_lt_zero _)⟩, Nat.zero_le _, fun i hi => absurd hi (Nat.not_lt_zero _)⟩
/-- the class's -/
def PC (nR nC : Int) (S : Hp) (P : Pst) : Prop := (S 26 3 = (P.W : Int) ∧ P.W ≤ 16 ∧ ∀ i, i < P.W → RowP nR nC S (28 + i) (P.pw i)) ∧ S 26 4 = (P.N : Int) ∧ P.N ≤ 3 ∧ ∀ j, j < P.N → RowP nR nC S (45 + 17 * j) (P.im j) ∧ S 96 (j : Int) = (P.iW j : Int) ∧ P.iW j ≤ 16 ∧ ∀ i, i < P.iW j → RowP nR nC S (45 + 17 * j + 1 + i) (P.iw j i)
/-- the reference's -/
def PM (nR nC : Int) (S : Hp) (P : Pst) : Prop := (S 132 31 = (P.W : Int) ∧ P.W ≤ 16 ∧ ∀ i : Nat, i < P.W → ∀ k, Vd nR nC k → S 149 (51 * (i : Int) + k) = P.pw i k) ∧ S 132 49 = (P.N : Int) ∧ P.N ≤ 3 ∧ ∀ j : Nat, j < P.N → (∀ k, Vd nR nC k → S 157 (868 * (j : Int) + k) = P.im j k) ∧ S 157 (868 * (j : Int) + 867) = (P.iW j : Int) ∧ P.iW j ≤ 16 ∧ ∀ i : Nat, i < P.iW j → ∀ k, Vd nR nC k → S 157 (868 * (j : Int) + 51 + (51 * (i : Int) + k)) = P.iw j i k
theorem Row_row {nR nC : Int} {S S' : Hp} {o : Nat} {s : Int → Int} (h : RowP nR nC S o s) (e : S' o = S o) : RowP nR nC S' o s := by
  unfold RowP
  rw [e]
  exact h
theorem PC_of {nR nC : Int} {S S' : Hp} {P : Pst} (h : PC nR nC S P) (h3 : S' 26 3 = S 26 3) (h4 : S' 26 4 = S 26 4) (hr : ∀ o, 28 ≤ o → o ≤ 96 → S' o = S o) : PC nR nC S' P := by
  obtain ⟨⟨a1, a2, a3⟩, b1, b2, b3⟩ := h
  refine ⟨⟨h3.trans a1, a2, fun i hi => Row_row (a3 i hi) (hr _ (by omega) (by omega))⟩, h4.trans b1, b2, fun j hj => ?_⟩
  obtain ⟨c1, c2, c3, c4⟩ := b3 j hj
  exact ⟨Row_row c1 (hr _ (by omega) (by omega)), by rw [hr 96 (by omega) (by omega)]; exact c2, c3, fun i hi => Row_row (c4 i hi) (hr _ (by omega) (by omega))⟩
theorem PM_of {nR nC : Int} {S S' : Hp} {P : Pst} (h : PM nR nC S P) (h3 : S' 132 31 = S 132 31) (h4 : S' 132 49 = S 132 49) (h5 : S' 149 = S 149) (h6 : S' 157 = S 157) : PM nR nC S' P := by
  obtain ⟨⟨a1, a2, a3⟩, b1, b2, b3⟩ := h
  refine ⟨⟨h3.trans a1, a2, by rw [h5]; exact a3⟩, h4.trans b1, b2, ?_⟩
  rw [h6]
  exact b3
section PST
variable {X : Nat × (Nat → Int32)} {d : Nat} {w : Bool × Bool × Bool} {S : Hp} {J : Nat → Nat → Int64} {nT nR nC : Int} {rd s : Int → Int} {P : Pst}
theorem l_sav8 {o : Nat} (h1 : KK o = 10) (h2 : o < 1000000) (h3 : LL o = 51) (h4 : 15 < o) : am_call X aP (d + 1) 48 [.ref 8, .ref o] (mkS w (hI S) J) = some (.inl none, (mkS w (hI (savS S 8 o)) J)) := l_savS (bs := false) h1 h2 h3 (Or.inr h4)
theorem l_tak8 {o : Nat} (h1 : KK o = 10) (h2 : o < 1000000) (h3 : LL o = 51) (h4 : 15 < o) : am_call X aP (d + 1) 49 [.ref 8, .ref o] (mkS w (hI S) J) = some (.inl none, (mkS w (hI (takS S 8 o)) J)) := l_takS (bs := false) h1 h2 h3 (Or.inr h4)
theorem c_keepWork (hR : nR ≤ 12) (hC : nC ≤ 5) (hs : CS nR nC S 8 s) (hP : PC nR nC S P) (hW : P.W < 16) : ∃ S', am_call X aP (d + 2) 42 [.ref 26, .ref 8] (mkS w (hI S) J) = some (.inl none, (mkS w (hI S') J)) ∧ PC nR nC S' (Pwork P s) ∧ Fr [26, 28 + P.W] S S' ∧ ∀ k, k ≠ 3 → S' 26 k = S 26 k := by
  obtain ⟨⟨a1, a2, a3⟩, b1, b2, b3⟩ := id hP
  obtain ⟨k1, k2⟩ := kl28 P.W hW
  have hf := savS_fr S 8 (28 + P.W)
  have hsv := fun d => l_sav8 (X := X) (d := d) (w := w) (S := S) (J := J) k1 (by omega) k2 (by omega)
  have hrow := savS_row hR hC (o := 28 + P.W) (Or.inr (by omega)) hs
  have f26 : savS S 8 (28 + P.W) 26 = S 26 := hf 26 (fun z => by have := List.mem_singleton.mp z; omega)
  have h0 := e_X4_keepWork_0 X (d + 1) 9999999 w (hI S) J false
  refine ⟨uS (savS S 8 (28 + P.W)) 26 3 ((P.W : Int) + 1), ?_, ⟨⟨?_, hW, fun i hi => ?_⟩, ?_, b2, fun j hj => ?_⟩, fun o ho => ?_, fun k q => ?_⟩
  · refine (go_X4_keepWork X (d + 1) false (mkS w (hI S) J)).trans ?_
    refine h0.trans ?_
    simp (disch := omega) only [hk, hu, hI_n, hI_un, z_nat, em_d, zl, z_add, z_sub, z_mul, z_lt, z_eq, gI_mk, gJ_mk, cI_some, cV_some, cJ_some, cI_x, cV_x, cJ_x, uS_self, uS_ne, if_pos, if_neg, b01, b01n, ite_not, if_true, if_false, Bool.false_eq_true, hLL, a1, rx27, Int.toNat_natCast, cR_some]
    refine (congrArg (fun z => cV z _ _) (hsv _)).trans ?_
    simp (disch := omega) only [hk, hu, hI_n, hI_un, z_nat, em_d, zl, z_add, z_sub, z_mul, z_lt, z_eq, gI_mk, gJ_mk, cI_some, cV_some, cJ_some, cI_x, cV_x, cJ_x, uS_self, uS_ne, if_pos, if_neg, b01, b01n, ite_not, if_true, if_false, Bool.false_eq_true, hLL, f26, a1, rV_d]
  · rw [uS_self]
    show _ = ((P.W + 1 : Nat) : Int)
    omega
  · show RowP nR nC _ (28 + i) (if i = P.W then s else P.pw i)
    have hi : i < P.W + 1 := hi
    by_cases e : i = P.W
    · rw [if_pos e, e]
      exact Row_row hrow (uS_row _ _ _ (by omega))
    · rw [if_neg e]
      exact Row_row (a3 i (by omega)) ((uS_row _ _ _ (by omega)).trans (hf _ (fun z => by have := List.mem_singleton.mp z; omega)))
  · rw [uS_ne _ _ (Or.inr (by decide)), f26]
    exact b1
  · have e : ∀ o, 44 < o → uS (savS S 8 (28 + P.W)) 26 3 ((P.W : Int) + 1) o = S o := fun o ho => (uS_row _ _ _ (by omega)).trans (hf _ (fun z => by have := List.mem_singleton.mp z; omega))
    obtain ⟨c1, c2, c3, c4⟩ := b3 j hj
    exact ⟨Row_row c1 (e _ (by omega)), by rw [e 96 (by omega)]; exact c2, c3, fun i hi => Row_row (c4 i hi) (e _ (by omega))⟩
  · simp only [List.mem_cons, List.not_mem_nil, or_false, not_or] at ho
    rw [uS_row _ _ _ ho.1]
    exact hf o (fun z => ho.2 (List.mem_singleton.mp z))
  · rw [uS_ne _ _ (Or.inr q), f26]
theorem c_undo0 (hP : PC nR nC S P) (hW : P.W = 0) : am_call X aP (d + 3) 109 [.ref 0] (mkS w (hI S) J) = some (.inl (some (.int (zI (-1)))), (mkS w (hI S) J)) := by
  obtain ⟨⟨a1, a2, a3⟩, b1, b2, b3⟩ := id hP
  rw [hW] at a1
  rw [go_X9_undo, e_X9_undo_0]
  simp (disch := omega) only [hk, hu, hI_n, hI_un, z_nat, em_d, zl, z_add, z_sub, z_mul, z_lt, z_eq, gI_mk, gJ_mk, cI_some, cV_some, cJ_some, cI_x, cV_x, cJ_x, uS_self, uS_ne, if_pos, if_neg, b01, b01n, ite_not, if_true, if_false, Bool.false_eq_true, hLL, a1, rI_d]
theorem c_undo (hR : nR ≤ 12) (hC : nC ≤ 5) (hP : PC nR nC S P) (hW : P.W ≠ 0) : ∃ S', am_call X aP (d + 3) 109 [.ref 0] (mkS w (hI S) J) = some (.inl (some (.int (zI ((P.W : Int) - 1)))), (mkS w (hI S') J)) ∧ PC nR nC S' (Pundo P) ∧ CS nR nC S' 8 (P.pw (P.W - 1)) ∧ Fr [0, 26, 8, 9, 10, 11, 12, 13, 14, 15] S S' ∧ (∀ k, k ≠ 3 → S' 26 k = S 26 k) ∧ (∀ k, k ≠ 13 → S' 0 k = S 0 k) ∧ S' 0 13 = 0 ∧ ∀ k, k ≠ 8 → k ≠ 9 → S' 8 k = S 8 k := by
  obtain ⟨⟨a1, a2, a3⟩, b1, b2, b3⟩ := id hP
  obtain ⟨k1, k2⟩ := kl28 (P.W - 1) (by omega)
  have hst := fun d => l_tak8 (X := X) (d := d) (w := w) (S := uS S 26 3 ((P.W : Int) - 1)) (J := J) k1 (by omega) k2 (by omega)
  have hf := takS_fr (uS S 26 3 ((P.W : Int) - 1)) 8 (28 + (P.W - 1))
  have hrow : RowP nR nC (uS S 26 3 ((P.W : Int) - 1)) (28 + (P.W - 1)) (P.pw (P.W - 1)) := Row_row (a3 (P.W - 1) (by omega)) (uS_row _ _ _ (by omega))
  have hsc := takS_sc hR hC (b := 8) (Or.inr (by omega)) hrow
  have hfr : ∀ o, 15 < o → takS (uS S 26 3 ((P.W : Int) - 1)) 8 (28 + (P.W - 1)) o = uS S 26 3 ((P.W : Int) - 1) o := fun o ho => hf o (by simp only [List.mem_cons, List.not_mem_nil, or_false]; omega)
  have f26 : takS (uS S 26 3 ((P.W : Int) - 1)) 8 (28 + (P.W - 1)) 26 = uS S 26 3 ((P.W : Int) - 1) 26 := hfr 26 (by decide)
  have et : ((P.W : Int) - 1).toNat = P.W - 1 := by omega
  have h0 := e_X4_takeWorkBack_0 X (d + 1) 9999999 w (hI S) J false
  have hcall : am_call X aP (d + 2) 43 [.ref 26, .ref 8] (mkS w (hI S) J) = some (.inl none, (mkS w (hI (takS (uS S 26 3 ((P.W : Int) - 1)) 8 (28 + (P.W - 1)))) J)) := by
    refine (go_X4_takeWorkBack X (d + 1) false (mkS w (hI S) J)).trans ?_
    refine h0.trans ?_
    simp (disch := omega) only [hk, hu, hI_n, hI_un, z_nat, em_d, zl, z_add, z_sub, z_mul, z_lt, z_eq, gI_mk, gJ_mk, cI_some, cV_some, cJ_some, cI_x, cV_x, cJ_x, uS_self, uS_ne, if_pos, if_neg, b01, b01n, ite_not, if_true, if_false, Bool.false_eq_true, hLL, a1, rx27, et, cR_some]
    refine (congrArg (fun z => cV z _ _) (hst _)).trans ?_
    simp (disch := omega) only [hk, hu, hI_n, hI_un, z_nat, em_d, zl, z_add, z_sub, z_mul, z_lt, z_eq, gI_mk, gJ_mk, cI_some, cV_some, cJ_some, cI_x, cV_x, cJ_x, uS_self, uS_ne, if_pos, if_neg, b01, b01n, ite_not, if_true, if_false, Bool.false_eq_true, hLL, rV_d]
  refine ⟨uS (takS (uS S 26 3 ((P.W : Int) - 1)) 8 (28 + (P.W - 1))) 0 13 0, ?_, ⟨⟨?_, ?_, fun i hi => ?_⟩, ?_, b2, fun j hj => ?_⟩, ?_, fun o ho => ?_, fun k q => ?_, fun k q => ?_, uS_self _ _ _ _, fun k q1 q2 => ?_⟩
  · rw [go_X9_undo, e_X9_undo_0]
    simp (disch := omega) only [hk, hu, hI_n, hI_un, z_nat, em_d, zl, z_add, z_sub, z_mul, z_lt, z_eq, gI_mk, gJ_mk, cI_some, cV_some, cJ_some, cI_x, cV_x, cJ_x, uS_self, uS_ne, if_pos, if_neg, b01, b01n, ite_not, if_true, if_false, Bool.false_eq_true, hLL, a1]
    refine (congrArg (fun z => cV z _ _) hcall).trans ?_
    simp (disch := omega) only [hk, hu, hI_n, hI_un, z_nat, em_d, zl, z_add, z_sub, z_mul, z_lt, z_eq, gI_mk, gJ_mk, cI_some, cV_some, cJ_some, cI_x, cV_x, cJ_x, uS_self, uS_ne, if_pos, if_neg, b01, b01n, ite_not, if_true, if_false, Bool.false_eq_true, hLL, f26, rI_d]
  · rw [uS_ne _ _ (Or.inl (by decide)), f26, uS_self]
    show _ = ((P.W - 1 : Nat) : Int)
    omega
  · show P.W - 1 ≤ 16
    omega
  · have hi : i < P.W - 1 := hi
    exact Row_row (a3 i (by omega)) ((uS_row _ _ _ (by omega)).trans ((hfr _ (by omega)).trans (uS_row _ _ _ (by omega))))
  · rw [uS_ne _ _ (Or.inl (by decide)), f26, uS_ne _ _ (Or.inr (by decide))]
    exact b1
  · have e : ∀ o, 44 < o → uS (takS (uS S 26 3 ((P.W : Int) - 1)) 8 (28 + (P.W - 1))) 0 13 0 o = S o := fun o ho => (uS_row _ _ _ (by omega)).trans ((hfr o (by omega)).trans (uS_row _ _ _ (by omega)))
    obtain ⟨c1, c2, c3, c4⟩ := b3 j hj
    exact ⟨Row_row c1 (e _ (by omega)), by rw [e 96 (by omega)]; exact c2, c3, fun i hi => Row_row (c4 i hi) (e _ (by omega))⟩
  · exact CS_of hsc ⟨uS_ne _ _ (Or.inl (by decide)), uS_ne _ _ (Or.inl (by decide))⟩ (fun i i1 i2 => uS_row _ _ _ (by omega))
  · simp only [List.mem_cons, List.not_mem_nil, or_false, not_or] at ho
    rw [uS_row _ _ _ ho.1, hf o (by simp only [List.mem_cons, List.not_mem_nil, or_false]; omega), uS_row _ _ _ ho.2.1]
  · rw [uS_ne _ _ (Or.inl (by decide)), f26, uS_ne _ _ (Or.inr q)]
  · rw [uS_ne _ _ (Or.inr q), hf 0 (by decide), uS_ne _ _ (Or.inl (by decide))]
  · rw [uS_ne _ _ (Or.inl (by decide)), takS_f _ _ _ q1 q2, uS_ne _ _ (Or.inl (by decide))]
theorem cpy_row51 {nR nC : Int} (hR : nR ≤ 12) (hC : nC ≤ 5) {o o' : Nat} {s : Int → Int} (h : RowP nR nC S o s) : RowP nR nC (cpy S o o' 0 0 51) o' s := RowP_of h hR hC (fun a a1 a2 => by
  rw [cpy_in _ (by omega), show 0 + (a - 0) = a by omega])
/-- the works go into an image's rows -/
theorem l_keepIm (hR : nR ≤ 12) (hC : nC ≤ 5) {b : Nat} (hb : b + 17 ≤ 51) {W : Nat} (hW : W ≤ 16) : ∀ (j k : Nat) (S : Hp), k + j = W → S 26 3 = (W : Int) → ∃ S', (∀ f, aR X (d + 1) m_X4_keepImage (f + 2 * j + 1) 18 [some (.ref 26), none, some (.int (zI ((b : Int)))), some (.int (zI ((k : Int))))] (0, 0) (mkS w (hI S) J) = aR X (d + 1) m_X4_keepImage (f + 1) 18 [some (.ref 26), none, some (.int (zI ((b : Int)))), some (.int (zI ((W : Int))))] (0, 0) (mkS w (hI S') J)) ∧ (∀ o, ¬ (45 + b + 1 + k ≤ o ∧ o < 45 + b + 1 + W) → S' o = S o) ∧ ∀ i, k ≤ i → i < W → ∀ s, RowP nR nC S (28 + i) s → RowP nR nC S' (45 + b + 1 + i) s
  | 0, k, S, h1, h2 => by
    have : k = W := by omega
    subst this
    exact ⟨S, fun f => rfl, fun _ _ => rfl, fun i q1 q2 => absurd q2 (by omega)⟩
  | j + 1, k, S, h1, h2 => by
    obtain ⟨k1, k2⟩ := kl28 k (by omega)
    obtain ⟨k3, k4⟩ := kl45 (b + 1 + k) (by omega)
    have e45 : 45 + (b + 1 + k) = 45 + b + 1 + k := by omega
    rw [e45] at k3 k4
    have hr : ∀ o, o ≠ 45 + b + 1 + k → cpy S (28 + k) (45 + b + 1 + k) 0 0 51 o = S o := fun o ho => cpy_row _ ho
    obtain ⟨S', g1, g2, g3⟩ := l_keepIm hR hC hb hW j (k + 1) (cpy S (28 + k) (45 + b + 1 + k) 0 0 51) (by omega) (by rw [hr 26 (by omega)]; exact h2)
    have et : ((b : Int) + 1 + (k : Int)).toNat = b + 1 + k := by omega
    refine ⟨S', fun f => ?_, fun o ho => ?_, fun i i1 i2 s hs => ?_⟩
    · have g1 := g1 f
      rw [show ((k + 1 : Nat) : Int) = (k : Int) + 1 by omega] at g1
      rw [show f + 2 * (j + 1) + 1 = (f + 2 * j + 1) + 1 + 1 by omega, e_X4_keepImage_18]
      simp (disch := omega) only [hk, hu, hI_n, hI_un, z_nat, em_d, zl, z_add, z_sub, z_mul, z_lt, z_eq, gI_mk, gJ_mk, cI_some, cV_some, cJ_some, cI_x, cV_x, cJ_x, uS_self, uS_ne, if_pos, if_neg, b01, b01n, ite_not, if_true, if_false, Bool.false_eq_true, hLL, h2, rx27, rx44, et, Int.toNat_natCast, cR_some, e45]
      simp (disch := omega) only [hk, hu, hI_n, hI_un, z_nat, em_d, zl, z_add, z_sub, z_mul, z_lt, z_eq, gI_mk, gJ_mk, cI_some, cV_some, cJ_some, cI_x, cV_x, cJ_x, uS_self, uS_ne, if_pos, if_neg, b01, b01n, ite_not, if_true, if_false, Bool.false_eq_true, hLL, k1, k2, k3, k4, and_true, true_and, eq_self, hI_cpy]
      rw [e_X4_keepImage_38]
      simp (disch := omega) only [hk, hu, hI_n, hI_un, z_nat, em_d, zl, z_add, z_sub, z_mul, z_lt, z_eq, gI_mk, gJ_mk, cI_some, cV_some, cJ_some, cI_x, cV_x, cJ_x, uS_self, uS_ne, if_pos, if_neg, b01, b01n, ite_not, if_true, if_false, Bool.false_eq_true, hLL]
      exact g1
    · rw [g2 o (by omega)]
      exact hr o (by omega)
    · by_cases e : i = k
      · rw [e] at hs ⊢
        exact Row_row (cpy_row51 hR hC hs) (g2 _ (by omega))
      · exact g3 i (by omega) i2 s (Row_row hs (hr _ (by omega)))
theorem c_image3 (hP : PC nR nC S P) (hN : P.N = 3) : am_call X aP (d + 3) 139 [.ref 0] (mkS w (hI S) J) = some (.inl (some (.int (zI (-1)))), (mkS w (hI S) J)) := by
  obtain ⟨-, b1, b2, b3⟩ := id hP
  rw [hN] at b1
  rw [go_X9_image, e_X9_image_0]
  simp (disch := omega) only [hk, hu, hI_n, hI_un, z_nat, em_d, zl, z_add, z_sub, z_mul, z_lt, z_eq, gI_mk, gJ_mk, cI_some, cV_some, cJ_some, cI_x, cV_x, cJ_x, uS_self, uS_ne, if_pos, if_neg, b01, b01n, ite_not, if_true, if_false, Bool.false_eq_true, hLL, b1, rI_d]
theorem c_image (hR : nR ≤ 12) (hC : nC ≤ 5) (hs : CS nR nC S 8 s) (hP : PC nR nC S P) (hN : P.N < 3) : ∃ S', am_call X aP (d + 3) 139 [.ref 0] (mkS w (hI S) J) = some (.inl (some (.int (zI ((P.N : Int) + 1)))), (mkS w (hI S') J)) ∧ PC nR nC S' (Pimg P s) ∧ (∀ o, o ≠ 26 → ¬ (45 ≤ o ∧ o ≤ 96) → S' o = S o) ∧ ∀ k, k ≠ 4 → S' 26 k = S 26 k := by
  obtain ⟨⟨a1, a2, a3⟩, b1, b2, b3⟩ := id hP
  obtain ⟨k1, k2⟩ := kl45 (17 * P.N) (by omega)
  have hf := savS_fr S 8 (45 + 17 * P.N)
  have hsv := fun d => l_sav8 (X := X) (d := d) (w := w) (S := S) (J := J) k1 (by omega) k2 (by omega)
  have hrow := savS_row hR hC (o := 45 + 17 * P.N) (Or.inr (by omega)) hs
  have hf2 : ∀ o, o ≠ 45 + 17 * P.N → savS S 8 (45 + 17 * P.N) o = S o := fun o ho => hf o (fun z => ho (List.mem_singleton.mp z))
  obtain ⟨S2, g1, g2, g3⟩ := l_keepIm (X := X) (d := d) (w := w) (J := J) hR hC (b := 17 * P.N) (by omega) a2 P.W 0 (savS S 8 (45 + 17 * P.N)) (by omega) (by rw [hf2 26 (by omega)]; exact a1)
  have t3 : S2 26 3 = (P.W : Int) := by rw [g2 26 (by omega), hf2 26 (by omega)]; exact a1
  have t4 : S2 26 4 = (P.N : Int) := by rw [g2 26 (by omega), hf2 26 (by omega)]; exact b1
  have et : ((P.N : Int) * 17).toNat = 17 * P.N := by omega
  have ec : (P.N : Int) * 17 = ((17 * P.N : Nat) : Int) := by omega
  have h0 := e_X4_keepImage_0 X (d + 1) 9999999 w (hI S) J false
  have hcall : am_call X aP (d + 2) 44 [.ref 26, .ref 8] (mkS w (hI S) J) = some (.inl none, (mkS w (hI (uS (uS S2 96 (P.N : Int) (P.W : Int)) 26 4 ((P.N : Int) + 1))) J)) := by
    refine (go_X4_keepImage X (d + 1) false (mkS w (hI S) J)).trans ?_
    refine h0.trans ?_
    simp (disch := omega) only [hk, hu, hI_n, hI_un, z_nat, em_d, zl, z_add, z_sub, z_mul, z_lt, z_eq, gI_mk, gJ_mk, cI_some, cV_some, cJ_some, cI_x, cV_x, cJ_x, uS_self, uS_ne, if_pos, if_neg, b01, b01n, ite_not, if_true, if_false, Bool.false_eq_true, hLL, b1, rx44, et, cR_some]
    refine (congrArg (fun z => cV z _ _) (hsv _)).trans ?_
    simp (disch := omega) only [hk, hu, hI_n, hI_un, z_nat, em_d, zl, z_add, z_sub, z_mul, z_lt, z_eq, gI_mk, gJ_mk, cI_some, cV_some, cJ_some, cI_x, cV_x, cJ_x, uS_self, uS_ne, if_pos, if_neg, b01, b01n, ite_not, if_true, if_false, Bool.false_eq_true, hLL, ec]
    have g1 := g1 (9999998 - 2 * P.W)
    rw [show 9999998 - 2 * P.W + 2 * P.W + 1 = 9999999 by omega] at g1
    rw [show ((0 : Nat) : Int) = 0 from rfl] at g1
    rw [g1]
    rw [e_X4_keepImage_18]
    simp (disch := omega) only [hk, hu, hI_n, hI_un, z_nat, em_d, zl, z_add, z_sub, z_mul, z_lt, z_eq, gI_mk, gJ_mk, cI_some, cV_some, cJ_some, cI_x, cV_x, cJ_x, uS_self, uS_ne, if_pos, if_neg, b01, b01n, ite_not, if_true, if_false, Bool.false_eq_true, hLL, t3, t4, rV_d]
  have hrr : ∀ o, o ≠ 26 → o ≠ 96 → uS (uS S2 96 (P.N : Int) (P.W : Int)) 26 4 ((P.N : Int) + 1) o = S2 o := fun o o1 o2 => by rw [uS_row _ _ _ o1, uS_row _ _ _ o2]
  refine ⟨uS (uS S2 96 (P.N : Int) (P.W : Int)) 26 4 ((P.N : Int) + 1), ?_, ⟨⟨?_, a2, fun i hi => ?_⟩, ?_, hN, fun j hj => ?_⟩, fun o o1 o2 => ?_, fun k q => ?_⟩
  · rw [go_X9_image, e_X9_image_0]
    simp (disch := omega) only [hk, hu, hI_n, hI_un, z_nat, em_d, zl, z_add, z_sub, z_mul, z_lt, z_eq, gI_mk, gJ_mk, cI_some, cV_some, cJ_some, cI_x, cV_x, cJ_x, uS_self, uS_ne, if_pos, if_neg, b01, b01n, ite_not, if_true, if_false, Bool.false_eq_true, hLL, b1]
    refine (congrArg (fun z => cV z _ _) hcall).trans ?_
    simp (disch := omega) only [hk, hu, hI_n, hI_un, z_nat, em_d, zl, z_add, z_sub, z_mul, z_lt, z_eq, gI_mk, gJ_mk, cI_some, cV_some, cJ_some, cI_x, cV_x, cJ_x, uS_self, uS_ne, if_pos, if_neg, b01, b01n, ite_not, if_true, if_false, Bool.false_eq_true, hLL, rI_d]
  · rw [uS_ne _ _ (Or.inr (by decide)), uS_ne _ _ (Or.inl (by decide))]
    exact t3
  · have hi : i < P.W := hi
    exact Row_row (a3 i hi) ((hrr _ (by omega) (by omega)).trans ((g2 _ (by omega)).trans (hf2 _ (by omega))))
  · rw [uS_self]
    show _ = ((P.N + 1 : Nat) : Int)
    omega
  · show RowP nR nC _ (45 + 17 * j) (if j = P.N then s else P.im j) ∧ _ = (((if j = P.N then P.W else P.iW j) : Nat) : Int) ∧ (if j = P.N then P.W else P.iW j) ≤ 16 ∧ ∀ i, i < (if j = P.N then P.W else P.iW j) → RowP nR nC _ (45 + 17 * j + 1 + i) ((if j = P.N then P.pw else P.iw j) i)
    have hj : j < P.N + 1 := hj
    by_cases e : j = P.N
    · rw [if_pos e, if_pos e, if_pos e, e]
      refine ⟨Row_row hrow ((hrr _ (by omega) (by omega)).trans (g2 _ (by omega))), ?_, a2, fun i hi => ?_⟩
      · rw [uS_row _ _ _ (by decide), uS_self]
      · exact Row_row (g3 i (Nat.zero_le _) hi _ (Row_row (a3 i hi) (hf2 _ (by omega)))) (hrr _ (by omega) (by omega))
    · obtain ⟨c1, c2, c3, c4⟩ := b3 j (by omega)
      rw [if_neg e, if_neg e, if_neg e]
      refine ⟨Row_row c1 ((hrr _ (by omega) (by omega)).trans ((g2 _ (by omega)).trans (hf2 _ (by omega)))), ?_, c3, fun i hi => ?_⟩
      · rw [uS_row _ _ _ (by decide), uS_ne _ _ (Or.inr (by omega)), g2 96 (by omega), hf2 96 (by omega)]
        exact c2
      · exact Row_row (c4 i hi) ((hrr _ (by omega) (by omega)).trans ((g2 _ (by omega)).trans (hf2 _ (by omega))))
  · rw [hrr o o1 (by omega), g2 o (by omega)]
    exact hf2 o (by omega)
  · rw [uS_ne _ _ (Or.inr q), uS_row _ _ _ (by decide), g2 26 (by omega), hf2 26 (by omega)]
/-- an image's rows go back into the works -/
theorem l_takeIm (hR : nR ≤ 12) (hC : nC ≤ 5) {b : Nat} (hb : b + 17 ≤ 51) {W : Nat} (hW : W ≤ 16) : ∀ (j k : Nat) (S : Hp), k + j = W → S 26 3 = (W : Int) → ∃ S', (∀ f, aR X (d + 1) m_X4_takeImageBack (f + 2 * j + 1) 30 [some (.ref 26), none, some (.int (zI ((b : Int)))), some (.int (zI ((k : Int))))] (0, 0) (mkS w (hI S) J) = aR X (d + 1) m_X4_takeImageBack (f + 1) 30 [some (.ref 26), none, some (.int (zI ((b : Int)))), some (.int (zI ((W : Int))))] (0, 0) (mkS w (hI S') J)) ∧ (∀ o, ¬ (28 + k ≤ o ∧ o < 28 + W) → S' o = S o) ∧ ∀ i, k ≤ i → i < W → ∀ s, RowP nR nC S (45 + b + 1 + i) s → RowP nR nC S' (28 + i) s
  | 0, k, S, h1, h2 => by
    have : k = W := by omega
    subst this
    exact ⟨S, fun f => rfl, fun _ _ => rfl, fun i q1 q2 => absurd q2 (by omega)⟩
  | j + 1, k, S, h1, h2 => by
    obtain ⟨k1, k2⟩ := kl28 k (by omega)
    obtain ⟨k3, k4⟩ := kl45 (b + 1 + k) (by omega)
    have e45 : 45 + (b + 1 + k) = 45 + b + 1 + k := by omega
    rw [e45] at k3 k4
    have hr : ∀ o, o ≠ 28 + k → cpy S (45 + b + 1 + k) (28 + k) 0 0 51 o = S o := fun o ho => cpy_row _ ho
    obtain ⟨S', g1, g2, g3⟩ := l_takeIm hR hC hb hW j (k + 1) (cpy S (45 + b + 1 + k) (28 + k) 0 0 51) (by omega) (by rw [hr 26 (by omega)]; exact h2)
    have et : ((b : Int) + 1 + (k : Int)).toNat = b + 1 + k := by omega
    refine ⟨S', fun f => ?_, fun o ho => ?_, fun i i1 i2 s hs => ?_⟩
    · have g1 := g1 f
      rw [show ((k + 1 : Nat) : Int) = (k : Int) + 1 by omega] at g1
      rw [show f + 2 * (j + 1) + 1 = (f + 2 * j + 1) + 1 + 1 by omega, e_X4_takeImageBack_30]
      simp (disch := omega) only [hk, hu, hI_n, hI_un, z_nat, em_d, zl, z_add, z_sub, z_mul, z_lt, z_eq, gI_mk, gJ_mk, cI_some, cV_some, cJ_some, cI_x, cV_x, cJ_x, uS_self, uS_ne, if_pos, if_neg, b01, b01n, ite_not, if_true, if_false, Bool.false_eq_true, hLL, h2, rx27, rx44, et, Int.toNat_natCast, cR_some, e45]
      simp (disch := omega) only [hk, hu, hI_n, hI_un, z_nat, em_d, zl, z_add, z_sub, z_mul, z_lt, z_eq, gI_mk, gJ_mk, cI_some, cV_some, cJ_some, cI_x, cV_x, cJ_x, uS_self, uS_ne, if_pos, if_neg, b01, b01n, ite_not, if_true, if_false, Bool.false_eq_true, hLL, k1, k2, k3, k4, and_true, true_and, eq_self, hI_cpy]
      rw [e_X4_takeImageBack_50]
      simp (disch := omega) only [hk, hu, hI_n, hI_un, z_nat, em_d, zl, z_add, z_sub, z_mul, z_lt, z_eq, gI_mk, gJ_mk, cI_some, cV_some, cJ_some, cI_x, cV_x, cJ_x, uS_self, uS_ne, if_pos, if_neg, b01, b01n, ite_not, if_true, if_false, Bool.false_eq_true, hLL]
      exact g1
    · rw [g2 o (by omega)]
      exact hr o (by omega)
    · by_cases e : i = k
      · rw [e] at hs ⊢
        exact Row_row (cpy_row51 hR hC hs) (g2 _ (by omega))
      · exact g3 i (by omega) i2 s (Row_row hs (hr _ (by omega)))
theorem c_restore0 (hP : PC nR nC S P) (hN : P.N = 0) : am_call X aP (d + 3) 140 [.ref 0] (mkS w (hI S) J) = some (.inl (some (.int (zI (-1)))), (mkS w (hI S) J)) := by
  obtain ⟨-, b1, b2, b3⟩ := id hP
  rw [hN] at b1
  rw [go_X9_restore, e_X9_restore_0]
  simp (disch := omega) only [hk, hu, hI_n, hI_un, z_nat, em_d, zl, z_add, z_sub, z_mul, z_lt, z_eq, gI_mk, gJ_mk, cI_some, cV_some, cJ_some, cI_x, cV_x, cJ_x, uS_self, uS_ne, if_pos, if_neg, b01, b01n, ite_not, if_true, if_false, Bool.false_eq_true, hLL, b1, rI_d]
theorem c_restore (hR : nR ≤ 12) (hC : nC ≤ 5) (hP : PC nR nC S P) (hN : P.N ≠ 0) : ∃ S', am_call X aP (d + 3) 140 [.ref 0] (mkS w (hI S) J) = some (.inl (some (.int (zI ((P.N : Int) - 1)))), (mkS w (hI S') J)) ∧ PC nR nC S' (Prst P) ∧ CS nR nC S' 8 (P.im (P.N - 1)) ∧ (∀ o, o ≠ 0 → ¬ (8 ≤ o ∧ o ≤ 15) → o ≠ 26 → ¬ (28 ≤ o ∧ o ≤ 43) → S' o = S o) ∧ (∀ k, k ≠ 3 → k ≠ 4 → S' 26 k = S 26 k) ∧ (∀ k, k ≠ 13 → S' 0 k = S 0 k) ∧ S' 0 13 = 0 ∧ ∀ k, k ≠ 8 → k ≠ 9 → S' 8 k = S 8 k := by
  obtain ⟨⟨a1, a2, a3⟩, b1, b2, b3⟩ := id hP
  obtain ⟨c1, c2, c3, c4⟩ := b3 (P.N - 1) (by omega)
  obtain ⟨k1, k2⟩ := kl45 (17 * (P.N - 1)) (by omega)
  have hst := fun d => l_tak8 (X := X) (d := d) (w := w) (S := uS S 26 4 ((P.N : Int) - 1)) (J := J) k1 (by omega) k2 (by omega)
  have hf := takS_fr (uS S 26 4 ((P.N : Int) - 1)) 8 (45 + 17 * (P.N - 1))
  have hrow : RowP nR nC (uS S 26 4 ((P.N : Int) - 1)) (45 + 17 * (P.N - 1)) (P.im (P.N - 1)) := Row_row c1 (uS_row _ _ _ (by omega))
  have hsc := takS_sc hR hC (b := 8) (Or.inr (by omega)) hrow
  have hfr : ∀ o, ¬ (8 ≤ o ∧ o ≤ 15) → takS (uS S 26 4 ((P.N : Int) - 1)) 8 (45 + 17 * (P.N - 1)) o = uS S 26 4 ((P.N : Int) - 1) o := fun o ho => hf o (by simp only [List.mem_cons, List.not_mem_nil, or_false]; omega)
  have t8 : ∀ k, k ≠ 8 → k ≠ 9 → takS (uS S 26 4 ((P.N : Int) - 1)) 8 (45 + 17 * (P.N - 1)) 8 k = S 8 k := fun k q1 q2 => by rw [takS_f _ _ _ q1 q2, uS_ne _ _ (Or.inl (by decide))]
  generalize hT : takS (uS S 26 4 ((P.N : Int) - 1)) 8 (45 + 17 * (P.N - 1)) = T at *
  have f4 : T 26 4 = (P.N : Int) - 1 := by rw [hfr 26 (by omega), uS_self]
  have f96 : T 96 ((P.N : Int) - 1) = (P.iW (P.N - 1) : Int) := by
    rw [hfr 96 (by omega), uS_row _ _ _ (by decide), show (P.N : Int) - 1 = ((P.N - 1 : Nat) : Int) by omega]
    exact c2
  obtain ⟨S2, g1, g2, g3⟩ := l_takeIm (X := X) (d := d) (w := w) (J := J) hR hC (b := 17 * (P.N - 1)) (by omega) c3 (P.iW (P.N - 1)) 0 (uS T 26 3 (P.iW (P.N - 1) : Int)) (by omega) (uS_self _ _ _ _)
  have t3 : S2 26 3 = (P.iW (P.N - 1) : Int) := by rw [g2 26 (by omega), uS_self]
  have t4 : S2 26 4 = (P.N : Int) - 1 := by rw [g2 26 (by omega), uS_ne _ _ (Or.inr (by decide))]; exact f4
  have et : (((P.N : Int) - 1) * 17).toNat = 17 * (P.N - 1) := by omega
  have ec : ((P.N : Int) - 1) * 17 = ((17 * (P.N - 1) : Nat) : Int) := by omega
  have h0 := e_X4_takeImageBack_0 X (d + 1) 9999999 w (hI S) J false
  have hcall : am_call X aP (d + 2) 45 [.ref 26, .ref 8] (mkS w (hI S) J) = some (.inl none, (mkS w (hI S2) J)) := by
    refine (go_X4_takeImageBack X (d + 1) false (mkS w (hI S) J)).trans ?_
    refine h0.trans ?_
    simp (disch := omega) only [hk, hu, hI_n, hI_un, z_nat, em_d, zl, z_add, z_sub, z_mul, z_lt, z_eq, gI_mk, gJ_mk, cI_some, cV_some, cJ_some, cI_x, cV_x, cJ_x, uS_self, uS_ne, if_pos, if_neg, b01, b01n, ite_not, if_true, if_false, Bool.false_eq_true, hLL, b1, rx44, et, cR_some]
    refine (congrArg (fun z => cV z _ _) (hst _)).trans ?_
    simp (disch := omega) only [hk, hu, hI_n, hI_un, z_nat, em_d, zl, z_add, z_sub, z_mul, z_lt, z_eq, gI_mk, gJ_mk, cI_some, cV_some, cJ_some, cI_x, cV_x, cJ_x, uS_self, uS_ne, if_pos, if_neg, b01, b01n, ite_not, if_true, if_false, Bool.false_eq_true, hLL, f4, f96, ec]
    have g1 := g1 (9999998 - 2 * P.iW (P.N - 1))
    rw [show 9999998 - 2 * P.iW (P.N - 1) + 2 * P.iW (P.N - 1) + 1 = 9999999 by omega] at g1
    rw [show ((0 : Nat) : Int) = 0 from rfl] at g1
    rw [g1]
    rw [e_X4_takeImageBack_30]
    simp (disch := omega) only [hk, hu, hI_n, hI_un, z_nat, em_d, zl, z_add, z_sub, z_mul, z_lt, z_eq, gI_mk, gJ_mk, cI_some, cV_some, cJ_some, cI_x, cV_x, cJ_x, uS_self, uS_ne, if_pos, if_neg, b01, b01n, ite_not, if_true, if_false, Bool.false_eq_true, hLL, t3, rV_d]
  have hrr : ∀ o, o ≠ 0 → ¬ (28 ≤ o ∧ o ≤ 43) → o ≠ 26 → uS S2 0 13 0 o = T o := fun o o1 o2 o3 => by rw [uS_row _ _ _ o1, g2 o (by omega), uS_row _ _ _ o3]
  have hrs : ∀ o, o ≠ 0 → ¬ (28 ≤ o ∧ o ≤ 43) → o ≠ 26 → ¬ (8 ≤ o ∧ o ≤ 15) → uS S2 0 13 0 o = S o := fun o o1 o2 o3 o4 => by rw [hrr o o1 o2 o3, hfr o o4, uS_row _ _ _ o3]
  refine ⟨uS S2 0 13 0, ?_, ⟨⟨?_, c3, fun i hi => ?_⟩, ?_, ?_, fun j hj => ?_⟩, ?_, fun o o1 o2 o3 o4 => hrs o o1 o4 o3 o2, fun k q1 q2 => ?_, fun k q => ?_, uS_self _ _ _ _, fun k q1 q2 => ?_⟩
  · rw [go_X9_restore, e_X9_restore_0]
    simp (disch := omega) only [hk, hu, hI_n, hI_un, z_nat, em_d, zl, z_add, z_sub, z_mul, z_lt, z_eq, gI_mk, gJ_mk, cI_some, cV_some, cJ_some, cI_x, cV_x, cJ_x, uS_self, uS_ne, if_pos, if_neg, b01, b01n, ite_not, if_true, if_false, Bool.false_eq_true, hLL, b1]
    refine (congrArg (fun z => cV z _ _) hcall).trans ?_
    simp (disch := omega) only [hk, hu, hI_n, hI_un, z_nat, em_d, zl, z_add, z_sub, z_mul, z_lt, z_eq, gI_mk, gJ_mk, cI_some, cV_some, cJ_some, cI_x, cV_x, cJ_x, uS_self, uS_ne, if_pos, if_neg, b01, b01n, ite_not, if_true, if_false, Bool.false_eq_true, hLL, t4, rI_d]
  · rw [uS_ne _ _ (Or.inl (by decide))]
    exact t3
  · have hi : i < P.iW (P.N - 1) := hi
    refine Row_row (g3 i (Nat.zero_le _) hi _ (Row_row (c4 i hi) ?_)) (uS_row _ _ _ (by omega))
    rw [uS_row _ _ _ (by omega), hfr _ (by omega), uS_row _ _ _ (by omega)]
  · rw [uS_ne _ _ (Or.inl (by decide)), t4]
    show _ = ((P.N - 1 : Nat) : Int)
    omega
  · show P.N - 1 ≤ 3
    omega
  · have hj : j < P.N - 1 := hj
    obtain ⟨d1, d2, d3, d4⟩ := b3 j (by omega)
    exact ⟨Row_row d1 (hrs _ (by omega) (by omega) (by omega) (by omega)), by rw [hrs 96 (by omega) (by omega) (by omega) (by omega)]; exact d2, d3, fun i hi => Row_row (d4 i hi) (hrs _ (by omega) (by omega) (by omega) (by omega))⟩
  · exact CS_of hsc ⟨by rw [hrr 8 (by omega) (by omega) (by omega)], by rw [hrr 8 (by omega) (by omega) (by omega)]⟩ (fun i i1 i2 => hrr _ (by omega) (by omega) (by omega))
  · rw [uS_row _ _ _ (by decide), g2 26 (by omega), uS_ne _ _ (Or.inr q1), hfr 26 (by omega), uS_ne _ _ (Or.inr q2)]
  · rw [uS_ne _ _ (Or.inr q), g2 0 (by omega), uS_row _ _ _ (by decide), hfr 0 (by omega), uS_row _ _ _ (by decide)]
  · rw [uS_row _ _ _ (by decide), g2 8 (by omega), uS_row _ _ _ (by decide)]
    exact t8 k q1 q2
/-! the reference -/
theorem m_undo0 (hP : PM nR nC S P) (hW : P.W = 0) : am_call X aP (d + 1) 212 [.ref 132] (mkS w (hI S) J) = some (.inl (some (.int (zI (-1)))), (mkS w (hI (uS S 132 0 0)) J)) := by
  obtain ⟨⟨a1, a2, a3⟩, b1, b2, b3⟩ := id hP
  rw [hW] at a1
  rw [go_X10_undo, e_X10_undo_0]
  simp (disch := omega) only [hk, hu, hI_n, hI_un, z_nat, em_d, zl, z_add, z_sub, z_mul, z_lt, z_eq, gI_mk, gJ_mk, cI_some, cV_some, cJ_some, cI_x, cV_x, cJ_x, uS_self, uS_ne, if_pos, if_neg, b01, b01n, ite_not, if_true, if_false, Bool.false_eq_true, a1, rI_d]
theorem cpy_snoc (S : Hp) {s d : Nat} (h : s ≠ d) (sp dp : Int) (k : Nat) : uS (cpy S s d sp dp k) d (dp + k) (S s (sp + k)) = cpy S s d sp dp ((k + 1 : Nat) : Int) := by
  funext o a
  rw [uS_at]
  unfold cpy
  by_cases e : o = d
  · by_cases e2 : a = dp + k
    · rw [if_pos ⟨e, e2⟩, if_pos ⟨e, by omega, by omega⟩, e2]
      congr 1
      omega
    · rw [if_neg (fun z => e2 z.2)]
      by_cases e3 : dp ≤ a ∧ a < dp + k
      · rw [if_pos ⟨e, e3⟩, if_pos ⟨e, by omega, by omega⟩]
      · rw [if_neg (fun z => e3 z.2), if_neg (fun z => e3 (by have := z.2; omega))]
  · rw [if_neg (fun z => e z.1), if_neg (fun z => e z.1), if_neg (fun z => e z.1)]
theorem cpy_zero (S : Hp) (s d : Nat) (sp dp : Int) : cpy S s d sp dp ((0 : Nat) : Int) = S := by
  funext o a
  unfold cpy
  rw [if_neg (fun z => by have := z.2; omega)]
theorem m_undo (hR : nR ≤ 12) (hC : nC ≤ 5) (hP : PM nR nC S P) (hW : P.W ≠ 0) : ∃ S', am_call X aP (d + 1) 212 [.ref 132] (mkS w (hI S) J) = some (.inl (some (.int (zI ((P.W : Int) - 1)))), (mkS w (hI S') J)) ∧ PM nR nC S' (Pundo P) ∧ NwP nR nC S' (P.pw (P.W - 1)) ∧ Fr [132, 147] S S' ∧ (∀ k, k ≠ 0 → k ≠ 31 → k ≠ 32 → S' 132 k = S 132 k) ∧ S' 132 32 = 0 ∧ S' 132 0 = 0 := by
  obtain ⟨⟨a1, a2, a3⟩, b1, b2, b3⟩ := id hP
  have key : ∀ (j k n : Nat) (T : Hp), k + j = 51 → T 132 31 = (P.W : Int) - 1 → j + 1 ≤ n → aR X d m_X10_undo n 16 [some (.ref 132), some (.int (zI ((k : Int))))] (0, 0) (mkS w (hI (cpy T 149 147 (51 * ((P.W : Int) - 1)) 0 (k : Nat))) J) = some (.inl (some (.int (zI ((P.W : Int) - 1)))), (mkS w (hI (uS (cpy T 149 147 (51 * ((P.W : Int) - 1)) 0 51) 132 32 0)) J)) := by
    intro j
    induction j with
    | zero =>
      intro k n T h1 h2 h3
      obtain ⟨n, rfl⟩ : ∃ m, n = m + 1 := ⟨n - 1, by omega⟩
      have : k = 51 := by omega
      subst this
      have h4 : cpy T 149 147 (51 * ((P.W : Int) - 1)) 0 ((51 : Nat) : Int) 132 31 = (P.W : Int) - 1 := by
        rw [cpy_row _ (by decide)]
        exact h2
      rw [e_X10_undo_16]
      simp (disch := omega) only [hk, hu, hI_n, hI_un, z_nat, em_d, zl, z_add, z_sub, z_mul, z_lt, z_eq, gI_mk, gJ_mk, cI_some, cV_some, cJ_some, cI_x, cV_x, cJ_x, uS_self, uS_ne, if_pos, if_neg, b01, b01n, ite_not, if_true, if_false, Bool.false_eq_true, h4, rI_d]
      rfl
    | succ j ih =>
      intro k n T h1 h2 h3
      obtain ⟨n, rfl⟩ : ∃ m, n = m + 1 := ⟨n - 1, by omega⟩
      have ih := ih (k + 1) n T (by omega) h2 (by omega)
      have h4 : cpy T 149 147 (51 * ((P.W : Int) - 1)) 0 (k : Int) 132 31 = (P.W : Int) - 1 := by
        rw [cpy_row _ (by decide)]
        exact h2
      have h5 : cpy T 149 147 (51 * ((P.W : Int) - 1)) 0 (k : Int) 149 = T 149 := cpy_row _ (by decide)
      rw [← cpy_snoc _ (by decide), show ((k + 1 : Nat) : Int) = (k : Int) + 1 by omega, Int.zero_add] at ih
      rw [e_X10_undo_16]
      simp (disch := omega) only [hk, hu, hI_n, hI_un, z_nat, em_d, zl, z_add, z_sub, z_mul, z_lt, z_eq, gI_mk, gJ_mk, cI_some, cV_some, cJ_some, cI_x, cV_x, cJ_x, uS_self, uS_ne, if_pos, if_neg, b01, b01n, ite_not, if_true, if_false, Bool.false_eq_true, h4, h5]
      exact ih
  have h := key 51 0 9999999 (uS (uS S 132 0 0) 132 31 ((P.W : Int) - 1)) (by decide) (uS_self _ _ _ _) (by decide)
  rw [cpy_zero] at h
  have hfr : ∀ o, o ≠ 147 → cpy (uS (uS S 132 0 0) 132 31 ((P.W : Int) - 1)) 149 147 (51 * ((P.W : Int) - 1)) 0 51 o = uS (uS S 132 0 0) 132 31 ((P.W : Int) - 1) o := fun o ho => cpy_row _ ho
  have hfr2 : ∀ o, o ≠ 147 → o ≠ 132 → uS (cpy (uS (uS S 132 0 0) 132 31 ((P.W : Int) - 1)) 149 147 (51 * ((P.W : Int) - 1)) 0 51) 132 32 0 o = S o := fun o o1 o2 => by rw [uS_row _ _ _ o2, hfr o o1, uS_row _ _ _ o2, uS_row _ _ _ o2]
  refine ⟨uS (cpy (uS (uS S 132 0 0) 132 31 ((P.W : Int) - 1)) 149 147 (51 * ((P.W : Int) - 1)) 0 51) 132 32 0, ?_, ⟨⟨?_, ?_, fun i hi k hk9 => ?_⟩, ?_, b2, ?_⟩, fun k hk9 => ?_, fun o ho => ?_, fun k q1 q2 q3 => ?_, uS_self _ _ _ _, ?_⟩
  · rw [go_X10_undo, e_X10_undo_0]
    simp (disch := omega) only [hk, hu, hI_n, hI_un, z_nat, em_d, zl, z_add, z_sub, z_mul, z_lt, z_eq, gI_mk, gJ_mk, cI_some, cV_some, cJ_some, cI_x, cV_x, cJ_x, uS_self, uS_ne, if_pos, if_neg, b01, b01n, ite_not, if_true, if_false, Bool.false_eq_true, a1]
    exact h
  · rw [uS_ne _ _ (Or.inr (by decide)), hfr 132 (by decide), uS_self]
    show _ = ((P.W - 1 : Nat) : Int)
    omega
  · show P.W - 1 ≤ 16
    omega
  · have hi : i < P.W - 1 := hi
    rw [hfr2 149 (by decide) (by decide)]
    exact a3 i (by omega) k hk9
  · rw [uS_ne _ _ (Or.inr (by decide)), hfr 132 (by decide), uS_ne _ _ (Or.inr (by decide)), uS_ne _ _ (Or.inr (by decide))]
    exact b1
  · rw [hfr2 157 (by decide) (by decide)]
    exact b3
  · obtain ⟨k1, k2⟩ := Vd_r hR hC hk9
    rw [uS_row _ _ _ (by decide), cpy_in _ (by omega), uS_row _ _ _ (by decide), uS_row _ _ _ (by decide), show 51 * ((P.W : Int) - 1) + (k - 0) = 51 * ((P.W - 1 : Nat) : Int) + k by omega]
    exact a3 (P.W - 1) (by omega) k hk9
  · simp only [List.mem_cons, List.not_mem_nil, or_false, not_or] at ho
    exact hfr2 o ho.2 ho.1
  · rw [uS_ne _ _ (Or.inr q3), hfr 132 (by decide), uS_ne _ _ (Or.inr q2), uS_ne _ _ (Or.inr q1)]
  · rw [uS_ne _ _ (Or.inr (by decide)), hfr 132 (by decide), uS_ne _ _ (Or.inr (by decide)), uS_self]
theorem m_keepRow {a : Int} {o : Nat} {n : Nat} (h1 : KK o = 10) (h2 : o < 1000000) (h3 : n ≤ LL o) (h4 : o ≠ 157) (h5 : 0 ≤ a ∧ a + n ≤ 2604) : am_call X aP (d + 1) 263 [.ref 132, .int (zI a), .ref o, .int (zI ((n : Int))), .int (zI 1)] (mkS w (hI S) J) = some (.inl (some (.int (zI (a + n)))), (mkS w (hI (cpy S o 157 0 a (n : Int))) J)) := by
  have key : ∀ (j k f : Nat), k + j = n → j + 1 ≤ f → aR X d m_X10_keepsRow f 2 [some (.ref 132), some (.int (zI a)), some (.ref o), some (.int (zI ((n : Int)))), some (.int (zI 1)), some (.int (zI ((k : Int))))] (0, 0) (mkS w (hI (cpy S o 157 0 a (k : Int))) J) = some (.inl (some (.int (zI (a + n)))), (mkS w (hI (cpy S o 157 0 a (n : Int))) J)) := by
    intro j
    induction j with
    | zero =>
      intro k f q1 q2
      obtain ⟨f, rfl⟩ : ∃ m, f = m + 1 := ⟨f - 1, by omega⟩
      have : k = n := by omega
      subst this
      rw [e_X10_keepsRow_2]
      simp (disch := omega) only [hk, hu, hI_n, hI_un, z_nat, em_d, zl, z_add, z_sub, z_mul, z_lt, z_eq, gI_mk, gJ_mk, cI_some, cV_some, cJ_some, cI_x, cV_x, cJ_x, uS_self, uS_ne, if_pos, if_neg, b01, b01n, ite_not, if_true, if_false, Bool.false_eq_true, rI_d]
    | succ j ih =>
      intro k f q1 q2
      obtain ⟨f, rfl⟩ : ∃ m, f = m + 1 := ⟨f - 1, by omega⟩
      have ih := ih (k + 1) f (by omega) (by omega)
      have e5 : cpy S o 157 0 a (k : Int) o = S o := cpy_row _ h4
      rw [← cpy_snoc _ h4, show ((k + 1 : Nat) : Int) = (k : Int) + 1 by omega, Int.zero_add] at ih
      rw [e_X10_keepsRow_2]
      simp (disch := omega) only [hk, hu, hI_n, hI_un, z_nat, em_d, zl, z_add, z_sub, z_mul, z_lt, z_eq, gI_mk, gJ_mk, cI_some, cV_some, cJ_some, cI_x, cV_x, cJ_x, uS_self, uS_ne, if_pos, if_neg, b01, b01n, ite_not, if_true, if_false, Bool.false_eq_true, h1, e5]
      exact ih
  have h := key n 0 9999999 (by omega) (by omega)
  rw [cpy_zero] at h
  rw [go_X10_keepsRow, e_X10_keepsRow_0]
  exact h
theorem m_backRow {a : Int} {o : Nat} {n : Nat} (h1 : KK o = 10) (h2 : o < 1000000) (h3 : n ≤ LL o) (h4 : o ≠ 157) (h5 : 0 ≤ a ∧ a + n ≤ 2604) : am_call X aP (d + 1) 263 [.ref 132, .int (zI a), .ref o, .int (zI ((n : Int))), .int (zI 0)] (mkS w (hI S) J) = some (.inl (some (.int (zI (a + n)))), (mkS w (hI (cpy S 157 o a 0 (n : Int))) J)) := by
  have key : ∀ (j k f : Nat), k + j = n → j + 1 ≤ f → aR X d m_X10_keepsRow f 2 [some (.ref 132), some (.int (zI a)), some (.ref o), some (.int (zI ((n : Int)))), some (.int (zI 0)), some (.int (zI ((k : Int))))] (0, 0) (mkS w (hI (cpy S 157 o a 0 (k : Int))) J) = some (.inl (some (.int (zI (a + n)))), (mkS w (hI (cpy S 157 o a 0 (n : Int))) J)) := by
    intro j
    induction j with
    | zero =>
      intro k f q1 q2
      obtain ⟨f, rfl⟩ : ∃ m, f = m + 1 := ⟨f - 1, by omega⟩
      have : k = n := by omega
      subst this
      rw [e_X10_keepsRow_2]
      simp (disch := omega) only [hk, hu, hI_n, hI_un, z_nat, em_d, zl, z_add, z_sub, z_mul, z_lt, z_eq, gI_mk, gJ_mk, cI_some, cV_some, cJ_some, cI_x, cV_x, cJ_x, uS_self, uS_ne, if_pos, if_neg, b01, b01n, ite_not, if_true, if_false, Bool.false_eq_true, rI_d]
    | succ j ih =>
      intro k f q1 q2
      obtain ⟨f, rfl⟩ : ∃ m, f = m + 1 := ⟨f - 1, by omega⟩
      have ih := ih (k + 1) f (by omega) (by omega)
      have e5 : cpy S 157 o a 0 (k : Int) 157 = S 157 := cpy_row _ (fun z => h4 z.symm)
      rw [← cpy_snoc _ (fun z => h4 z.symm), show ((k + 1 : Nat) : Int) = (k : Int) + 1 by omega, Int.zero_add] at ih
      rw [e_X10_keepsRow_2]
      simp (disch := omega) only [hk, hu, hI_n, hI_un, z_nat, em_d, zl, z_add, z_sub, z_mul, z_lt, z_eq, gI_mk, gJ_mk, cI_some, cV_some, cJ_some, cI_x, cV_x, cJ_x, uS_self, uS_ne, if_pos, if_neg, b01, b01n, ite_not, if_true, if_false, Bool.false_eq_true, h1, h2, and_self, e5]
      exact ih
  have h := key n 0 9999999 (by omega) (by omega)
  rw [cpy_zero] at h
  rw [go_X10_keepsRow, e_X10_keepsRow_0]
  exact h
theorem m_image3 (hP : PM nR nC S P) (hN : P.N = 3) : am_call X aP (d + 3) 265 [.ref 132] (mkS w (hI S) J) = some (.inl (some (.int (zI (-1)))), (mkS w (hI (uS S 132 0 0)) J)) := by
  obtain ⟨-, b1, b2, b3⟩ := id hP
  rw [hN] at b1
  rw [go_X10_image, e_X10_image_0]
  simp (disch := omega) only [hk, hu, hI_n, hI_un, z_nat, em_d, zl, z_add, z_sub, z_mul, z_lt, z_eq, gI_mk, gJ_mk, cI_some, cV_some, cJ_some, cI_x, cV_x, cJ_x, uS_self, uS_ne, if_pos, if_neg, b01, b01n, ite_not, if_true, if_false, Bool.false_eq_true, b1, rI_d]
def kpA (S : Hp) (a : Int) : Hp := uS (cpy (cpy S 147 157 0 a 51) 149 157 0 (a + 51) 816) 157 (a + 51 + 816) (S 132 31)
def bkA (S : Hp) (a : Int) : Hp := uS (cpy (cpy S 157 147 a 0 51) 157 149 (a + 51) 0 816) 132 31 (S 157 (a + 51 + 816))
theorem m_keepsAll1 {j : Int} (hj : 0 ≤ j ∧ j < 3) : am_call X aP (d + 2) 264 [.ref 132, .int (zI j), .int (zI 1)] (mkS w (hI S) J) = some (.inl none, (mkS w (hI (kpA S (868 * j))) J)) := by
  have h1 : ∀ d, am_call X aP (d + 1) 263 [.ref 132, .int (zI (868 * j)), .ref 147, .int (zI 51), .int (zI 1)] (mkS w (hI S) J) = some (.inl (some (.int (zI (868 * j + 51)))), (mkS w (hI (cpy S 147 157 0 (868 * j) 51)) J)) := fun d => m_keepRow (X := X) (d := d) (w := w) (S := S) (J := J) (a := 868 * j) (o := 147) (n := 51) rfl (by decide) (by decide) (by decide) (by omega)
  have h2 : ∀ d, am_call X aP (d + 1) 263 [.ref 132, .int (zI (868 * j + 51)), .ref 149, .int (zI 816), .int (zI 1)] (mkS w (hI (cpy S 147 157 0 (868 * j) 51)) J) = some (.inl (some (.int (zI (868 * j + 51 + 816)))), (mkS w (hI (cpy (cpy S 147 157 0 (868 * j) 51) 149 157 0 (868 * j + 51) 816)) J)) := fun d => m_keepRow (X := X) (d := d) (w := w) (S := cpy S 147 157 0 (868 * j) 51) (J := J) (a := 868 * j + 51) (o := 149) (n := 816) rfl (by decide) (by decide) (by decide) (by omega)
  have e : cpy (cpy S 147 157 0 (868 * j) 51) 149 157 0 (868 * j + 51) 816 132 = S 132 := (cpy_row _ (by decide)).trans (cpy_row _ (by decide))
  rw [go_X10_keepsAll, e_X10_keepsAll_0]
  simp (disch := omega) only [hk, hu, hI_n, hI_un, z_nat, em_d, zl, z_add, z_sub, z_mul, z_lt, z_eq, gI_mk, gJ_mk, cI_some, cV_some, cJ_some, cI_x, cV_x, cJ_x, uS_self, uS_ne, if_pos, if_neg, b01, b01n, ite_not, if_true, if_false, Bool.false_eq_true]
  rw [h1]
  simp (disch := omega) only [hk, hu, hI_n, hI_un, z_nat, em_d, zl, z_add, z_sub, z_mul, z_lt, z_eq, gI_mk, gJ_mk, cI_some, cV_some, cJ_some, cI_x, cV_x, cJ_x, uS_self, uS_ne, if_pos, if_neg, b01, b01n, ite_not, if_true, if_false, Bool.false_eq_true]
  rw [h2]
  simp (disch := omega) only [hk, hu, hI_n, hI_un, z_nat, em_d, zl, z_add, z_sub, z_mul, z_lt, z_eq, gI_mk, gJ_mk, cI_some, cV_some, cJ_some, cI_x, cV_x, cJ_x, uS_self, uS_ne, if_pos, if_neg, b01, b01n, ite_not, if_true, if_false, Bool.false_eq_true, e, rV_d]
  rfl
theorem m_keepsAll0 {j : Int} (hj : 0 ≤ j ∧ j < 3) : am_call X aP (d + 2) 264 [.ref 132, .int (zI j), .int (zI 0)] (mkS w (hI S) J) = some (.inl none, (mkS w (hI (bkA S (868 * j))) J)) := by
  have h1 : ∀ d, am_call X aP (d + 1) 263 [.ref 132, .int (zI (868 * j)), .ref 147, .int (zI 51), .int (zI 0)] (mkS w (hI S) J) = some (.inl (some (.int (zI (868 * j + 51)))), (mkS w (hI (cpy S 157 147 (868 * j) 0 51)) J)) := fun d => m_backRow (X := X) (d := d) (w := w) (S := S) (J := J) (a := 868 * j) (o := 147) (n := 51) rfl (by decide) (by decide) (by decide) (by omega)
  have h2 : ∀ d, am_call X aP (d + 1) 263 [.ref 132, .int (zI (868 * j + 51)), .ref 149, .int (zI 816), .int (zI 0)] (mkS w (hI (cpy S 157 147 (868 * j) 0 51)) J) = some (.inl (some (.int (zI (868 * j + 51 + 816)))), (mkS w (hI (cpy (cpy S 157 147 (868 * j) 0 51) 157 149 (868 * j + 51) 0 816)) J)) := fun d => m_backRow (X := X) (d := d) (w := w) (S := cpy S 157 147 (868 * j) 0 51) (J := J) (a := 868 * j + 51) (o := 149) (n := 816) rfl (by decide) (by decide) (by decide) (by omega)
  have e : cpy (cpy S 157 147 (868 * j) 0 51) 157 149 (868 * j + 51) 0 816 157 = S 157 := (cpy_row _ (by decide)).trans (cpy_row _ (by decide))
  rw [go_X10_keepsAll, e_X10_keepsAll_0]
  simp (disch := omega) only [hk, hu, hI_n, hI_un, z_nat, em_d, zl, z_add, z_sub, z_mul, z_lt, z_eq, gI_mk, gJ_mk, cI_some, cV_some, cJ_some, cI_x, cV_x, cJ_x, uS_self, uS_ne, if_pos, if_neg, b01, b01n, ite_not, if_true, if_false, Bool.false_eq_true]
  rw [h1]
  simp (disch := omega) only [hk, hu, hI_n, hI_un, z_nat, em_d, zl, z_add, z_sub, z_mul, z_lt, z_eq, gI_mk, gJ_mk, cI_some, cV_some, cJ_some, cI_x, cV_x, cJ_x, uS_self, uS_ne, if_pos, if_neg, b01, b01n, ite_not, if_true, if_false, Bool.false_eq_true]
  rw [h2]
  simp (disch := omega) only [hk, hu, hI_n, hI_un, z_nat, em_d, zl, z_add, z_sub, z_mul, z_lt, z_eq, gI_mk, gJ_mk, cI_some, cV_some, cJ_some, cI_x, cV_x, cJ_x, uS_self, uS_ne, if_pos, if_neg, b01, b01n, ite_not, if_true, if_false, Bool.false_eq_true, e, rV_d]
  rfl
theorem m_image (hR : nR ≤ 12) (hC : nC ≤ 5) (hn : NwP nR nC S s) (hP : PM nR nC S P) (hN : P.N < 3) : ∃ S', am_call X aP (d + 3) 265 [.ref 132] (mkS w (hI S) J) = some (.inl (some (.int (zI ((P.N : Int) + 1)))), (mkS w (hI S') J)) ∧ PM nR nC S' (Pimg P s) ∧ Fr [132, 157] S S' ∧ (∀ k, k ≠ 0 → k ≠ 49 → S' 132 k = S 132 k) ∧ S' 132 0 = 0 := by
  obtain ⟨⟨a1, a2, a3⟩, b1, b2, b3⟩ := id hP
  have hk1 := fun d => m_keepsAll1 (X := X) (d := d) (w := w) (S := uS S 132 0 0) (J := J) (j := (P.N : Int)) (by omega)
  have r0 : ∀ o, o ≠ 157 → kpA (uS S 132 0 0) (868 * (P.N : Int)) o = uS S 132 0 0 o := fun o ho => by
    unfold kpA
    rw [uS_row _ _ _ ho, cpy_row _ ho, cpy_row _ ho]
  have r1 : ∀ o, o ≠ 157 → o ≠ 132 → uS (kpA (uS S 132 0 0) (868 * (P.N : Int))) 132 49 ((P.N : Int) + 1) o = S o := fun o o1 o2 => by rw [uS_row _ _ _ o2, r0 o o1, uS_row _ _ _ o2]
  have r2 : uS (kpA (uS S 132 0 0) (868 * (P.N : Int))) 132 49 ((P.N : Int) + 1) 157 = kpA (uS S 132 0 0) (868 * (P.N : Int)) 157 := uS_row _ _ _ (by decide)
  have t1 : ∀ a, a < 868 * (P.N : Int) → kpA (uS S 132 0 0) (868 * (P.N : Int)) 157 a = S 157 a := fun a ha => by
    unfold kpA
    rw [uS_ne _ _ (Or.inr (by omega)), cpy_out _ (Or.inr (Or.inl (by omega))), cpy_out _ (Or.inr (Or.inl (by omega))), uS_row _ _ _ (by decide)]
  refine ⟨uS (kpA (uS S 132 0 0) (868 * (P.N : Int))) 132 49 ((P.N : Int) + 1), ?_, ⟨⟨?_, a2, ?_⟩, ?_, hN, fun j hj => ?_⟩, fun o ho => ?_, fun k q1 q2 => ?_, ?_⟩
  · rw [go_X10_image, e_X10_image_0]
    simp (disch := omega) only [hk, hu, hI_n, hI_un, z_nat, em_d, zl, z_add, z_sub, z_mul, z_lt, z_eq, gI_mk, gJ_mk, cI_some, cV_some, cJ_some, cI_x, cV_x, cJ_x, uS_self, uS_ne, if_pos, if_neg, b01, b01n, ite_not, if_true, if_false, Bool.false_eq_true, b1]
    rw [hk1]
    simp (disch := omega) only [hk, hu, hI_n, hI_un, z_nat, em_d, zl, z_add, z_sub, z_mul, z_lt, z_eq, gI_mk, gJ_mk, cI_some, cV_some, cJ_some, cI_x, cV_x, cJ_x, uS_self, uS_ne, if_pos, if_neg, b01, b01n, ite_not, if_true, if_false, Bool.false_eq_true, r0, b1, rI_d]
  · rw [uS_ne _ _ (Or.inr (by decide)), r0 132 (by decide), uS_ne _ _ (Or.inr (by decide))]
    exact a1
  · rw [r1 149 (by decide) (by decide)]
    exact a3
  · rw [uS_self]
    show _ = ((P.N + 1 : Nat) : Int)
    omega
  · rw [r2]
    show (∀ k, Vd nR nC k → _ = (if j = P.N then s else P.im j) k) ∧ _ = (((if j = P.N then P.W else P.iW j) : Nat) : Int) ∧ (if j = P.N then P.W else P.iW j) ≤ 16 ∧ ∀ i : Nat, i < (if j = P.N then P.W else P.iW j) → ∀ k, Vd nR nC k → _ = (if j = P.N then P.pw else P.iw j) i k
    have hj : j < P.N + 1 := hj
    by_cases e : j = P.N
    · rw [if_pos e, if_pos e, if_pos e, e]
      refine ⟨fun k hk9 => ?_, ?_, a2, fun i hi k hk9 => ?_⟩
      · obtain ⟨k1, k2⟩ := Vd_r hR hC hk9
        unfold kpA
        rw [uS_ne _ _ (Or.inr (by omega)), cpy_out _ (Or.inr (Or.inl (by omega))), cpy_in _ (by omega), uS_row _ _ _ (by decide), show 0 + (868 * (P.N : Int) + k - 868 * (P.N : Int)) = k by omega]
        exact hn k hk9
      · unfold kpA
        rw [show 868 * (P.N : Int) + 867 = 868 * (P.N : Int) + 51 + 816 by omega, uS_self, uS_ne _ _ (Or.inr (by decide))]
        exact a1
      · obtain ⟨k1, k2⟩ := Vd_r hR hC hk9
        unfold kpA
        rw [uS_ne _ _ (Or.inr (by omega)), cpy_in _ (by omega), cpy_row _ (by decide), uS_row _ _ _ (by decide), show 0 + (868 * (P.N : Int) + 51 + (51 * (i : Int) + k) - (868 * (P.N : Int) + 51)) = 51 * (i : Int) + k by omega]
        exact a3 i hi k hk9
    · obtain ⟨c1, c2, c3, c4⟩ := b3 j (by omega)
      rw [if_neg e, if_neg e, if_neg e]
      refine ⟨fun k hk9 => ?_, ?_, c3, fun i hi k hk9 => ?_⟩
      · obtain ⟨k1, k2⟩ := Vd_r hR hC hk9
        rw [t1 _ (by omega)]
        exact c1 k hk9
      · rw [t1 _ (by omega)]
        exact c2
      · obtain ⟨k1, k2⟩ := Vd_r hR hC hk9
        rw [t1 _ (by omega)]
        exact c4 i hi k hk9
  · simp only [List.mem_cons, List.not_mem_nil, or_false, not_or] at ho
    exact r1 o ho.2 ho.1
  · rw [uS_ne _ _ (Or.inr q2), r0 132 (by decide), uS_ne _ _ (Or.inr q1)]
  · rw [uS_ne _ _ (Or.inr (by decide)), r0 132 (by decide), uS_self]
theorem m_restore0 (hP : PM nR nC S P) (hN : P.N = 0) : am_call X aP (d + 3) 266 [.ref 132] (mkS w (hI S) J) = some (.inl (some (.int (zI (-1)))), (mkS w (hI (uS S 132 0 0)) J)) := by
  obtain ⟨-, b1, b2, b3⟩ := id hP
  rw [hN] at b1
  rw [go_X10_restore, e_X10_restore_0]
  simp (disch := omega) only [hk, hu, hI_n, hI_un, z_nat, em_d, zl, z_add, z_sub, z_mul, z_lt, z_eq, gI_mk, gJ_mk, cI_some, cV_some, cJ_some, cI_x, cV_x, cJ_x, uS_self, uS_ne, if_pos, if_neg, b01, b01n, ite_not, if_true, if_false, Bool.false_eq_true, b1, rI_d]
theorem m_restore (hR : nR ≤ 12) (hC : nC ≤ 5) (hP : PM nR nC S P) (hN : P.N ≠ 0) : ∃ S', am_call X aP (d + 3) 266 [.ref 132] (mkS w (hI S) J) = some (.inl (some (.int (zI ((P.N : Int) - 1)))), (mkS w (hI S') J)) ∧ PM nR nC S' (Prst P) ∧ NwP nR nC S' (P.im (P.N - 1)) ∧ Fr [132, 147, 149] S S' ∧ (∀ k, k ≠ 0 → k ≠ 31 → k ≠ 32 → k ≠ 49 → S' 132 k = S 132 k) ∧ S' 132 32 = 0 ∧ S' 132 0 = 0 := by
  obtain ⟨⟨a1, a2, a3⟩, b1, b2, b3⟩ := id hP
  obtain ⟨c1, c2, c3, c4⟩ := b3 (P.N - 1) (by omega)
  rw [show ((P.N - 1 : Nat) : Int) = (P.N : Int) - 1 by omega] at c1 c2 c4
  have hk1 := fun d => m_keepsAll0 (X := X) (d := d) (w := w) (S := uS (uS S 132 0 0) 132 49 ((P.N : Int) - 1)) (J := J) (j := (P.N : Int) - 1) (by omega)
  have r0 : ∀ o, o ≠ 147 → o ≠ 149 → o ≠ 132 → bkA (uS (uS S 132 0 0) 132 49 ((P.N : Int) - 1)) (868 * ((P.N : Int) - 1)) o = S o := fun o o1 o2 o3 => by
    unfold bkA
    rw [uS_row _ _ _ o3, cpy_row _ o2, cpy_row _ o1, uS_row _ _ _ o3, uS_row _ _ _ o3]
  have r1 : ∀ k, k ≠ 31 → bkA (uS (uS S 132 0 0) 132 49 ((P.N : Int) - 1)) (868 * ((P.N : Int) - 1)) 132 k = uS (uS S 132 0 0) 132 49 ((P.N : Int) - 1) 132 k := fun k q => by
    unfold bkA
    rw [uS_ne _ _ (Or.inr q), cpy_row _ (by decide), cpy_row _ (by decide)]
  have r31 : bkA (uS (uS S 132 0 0) 132 49 ((P.N : Int) - 1)) (868 * ((P.N : Int) - 1)) 132 31 = (P.iW (P.N - 1) : Int) := by
    unfold bkA
    rw [uS_self, uS_row _ _ _ (by decide), uS_row _ _ _ (by decide), show 868 * ((P.N : Int) - 1) + 51 + 816 = 868 * ((P.N : Int) - 1) + 867 by omega]
    exact c2
  have e149 : ∀ a, 0 ≤ a → a < 816 → bkA (uS (uS S 132 0 0) 132 49 ((P.N : Int) - 1)) (868 * ((P.N : Int) - 1)) 149 a = S 157 (868 * ((P.N : Int) - 1) + 51 + a) := fun a h1 h2 => by
    unfold bkA
    rw [uS_row _ _ _ (by decide), cpy_in _ (by omega), cpy_row _ (by decide), uS_row _ _ _ (by decide), uS_row _ _ _ (by decide), show 868 * ((P.N : Int) - 1) + 51 + (a - 0) = 868 * ((P.N : Int) - 1) + 51 + a by omega]
  have e147 : ∀ a, 0 ≤ a → a < 51 → bkA (uS (uS S 132 0 0) 132 49 ((P.N : Int) - 1)) (868 * ((P.N : Int) - 1)) 147 a = S 157 (868 * ((P.N : Int) - 1) + a) := fun a h1 h2 => by
    unfold bkA
    rw [uS_row _ _ _ (by decide), cpy_row _ (by decide), cpy_in _ (by omega), uS_row _ _ _ (by decide), uS_row _ _ _ (by decide), show 868 * ((P.N : Int) - 1) + (a - 0) = 868 * ((P.N : Int) - 1) + a by omega]
  generalize hT : bkA (uS (uS S 132 0 0) 132 49 ((P.N : Int) - 1)) (868 * ((P.N : Int) - 1)) = T at *
  refine ⟨uS T 132 32 0, ?_, ⟨⟨?_, c3, fun i hi k hk9 => ?_⟩, ?_, ?_, fun j hj => ?_⟩, fun k hk9 => ?_, fun o ho => ?_, fun k q1 q2 q3 q4 => ?_, uS_self _ _ _ _, ?_⟩
  · have e49 : T 132 49 = (P.N : Int) - 1 := by rw [r1 49 (by decide), uS_self]
    rw [go_X10_restore, e_X10_restore_0]
    simp (disch := omega) only [hk, hu, hI_n, hI_un, z_nat, em_d, zl, z_add, z_sub, z_mul, z_lt, z_eq, gI_mk, gJ_mk, cI_some, cV_some, cJ_some, cI_x, cV_x, cJ_x, uS_self, uS_ne, if_pos, if_neg, b01, b01n, ite_not, if_true, if_false, Bool.false_eq_true, b1]
    rw [hk1]
    simp (disch := omega) only [hk, hu, hI_n, hI_un, z_nat, em_d, zl, z_add, z_sub, z_mul, z_lt, z_eq, gI_mk, gJ_mk, cI_some, cV_some, cJ_some, cI_x, cV_x, cJ_x, uS_self, uS_ne, if_pos, if_neg, b01, b01n, ite_not, if_true, if_false, Bool.false_eq_true, hT, e49, rI_d]
  · rw [uS_ne _ _ (Or.inr (by decide))]
    exact r31
  · have hi : i < P.iW (P.N - 1) := hi
    obtain ⟨k1, k2⟩ := Vd_r hR hC hk9
    rw [uS_row _ _ _ (by decide), e149 _ (by omega) (by omega)]
    exact c4 i hi k hk9
  · rw [uS_ne _ _ (Or.inr (by decide)), r1 49 (by decide), uS_self]
    show _ = ((P.N - 1 : Nat) : Int)
    omega
  · show P.N - 1 ≤ 3
    omega
  · have hj : j < P.N - 1 := hj
    rw [uS_row _ _ _ (by decide), r0 157 (by decide) (by decide) (by decide)]
    exact b3 j (by omega)
  · obtain ⟨k1, k2⟩ := Vd_r hR hC hk9
    rw [uS_row _ _ _ (by decide), e147 _ (by omega) (by omega)]
    exact c1 k hk9
  · simp only [List.mem_cons, List.not_mem_nil, or_false, not_or] at ho
    rw [uS_row _ _ _ ho.1]
    exact r0 o ho.2.1 ho.2.2 ho.1
  · rw [uS_ne _ _ (Or.inr q3), r1 k q2, uS_ne _ _ (Or.inr q4), uS_ne _ _ (Or.inr q1)]
  · rw [uS_ne _ _ (Or.inr (by decide)), r1 0 (by decide), uS_ne _ _ (Or.inr (by decide)), uS_self]
end PST
