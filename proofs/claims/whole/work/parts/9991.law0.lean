/-! THE LAW'S TEXT: what is read by both -/
def km (e : Int × Int) : Int × Int := (kc e.1, e.2)
theorem cdC_ne {cd : List (Int × Int)} (h : cd ≠ []) : cdC cd = cd.map km := if_neg h
theorem CPs_ext {S S' : Hp} {o1 o2 : Nat} : ∀ (K : List (Int × Int)) (i : Int), (∀ j, i ≤ j → j < i + K.length → S' o1 j = S o1 j ∧ S' o2 j = S o2 j) → CPs S o1 o2 i K → CPs S' o1 o2 i K
  | [], _, _, _ => trivial
  | (k, v) :: K, i, h, ⟨h1, h2, h3⟩ => by
    have hl : (((k, v) :: K).length : Int) = (K.length : Int) + 1 := by rw [List.length_cons]; omega
    obtain ⟨e1, e2⟩ := h i (by omega) (by omega)
    exact ⟨e1.trans h1, e2.trans h2, CPs_ext K (i + 1) (fun j j1 j2 => h j (by omega) (by omega)) h3⟩
theorem CPs_snoc {S : Hp} {o1 o2 : Nat} {k v : Int} : ∀ (K : List (Int × Int)) (i : Int), CPs S o1 o2 i K → S o1 (i + K.length) = k → S o2 (i + K.length) = v → CPs S o1 o2 i (K ++ [(k, v)])
  | [], i, _, h1, h2 => by
    have e : i + (([] : List (Int × Int)).length : Int) = i := Int.add_zero i
    rw [e] at h1 h2
    exact ⟨h1, h2, trivial⟩
  | (k', v') :: K, i, ⟨g1, g2, g3⟩, h1, h2 => by
    have hl : i + (((k', v') :: K).length : Int) = i + 1 + (K.length : Int) := by rw [List.length_cons]; omega
    rw [hl] at h1 h2
    exact ⟨g1, g2, CPs_snoc K (i + 1) g3 h1 h2⟩
/-- codes so far, in rows o1 and o2, counted at (a, k) -/
def CKp (S : Hp) (a : Nat) (c : Int) (o1 o2 : Nat) (K : List (Int × Int)) : Prop := S a c = (K.length : Int) ∧ CPs S o1 o2 0 K
theorem CKp_o {S S' : Hp} {a : Nat} {c : Int} {o1 o2 : Nat} {K : List (Int × Int)} (h : CKp S a c o1 o2 K) (h0 : S' a c = S a c) (h1 : S' o1 = S o1) (h2 : S' o2 = S o2) : CKp S' a c o1 o2 K := ⟨h0.trans h.1, CPs_of h1 h2 _ 0 h.2⟩
def emS (S : Hp) (a : Nat) (c : Int) (o1 o2 : Nat) (n k v : Int) : Hp := uS (uS (uS S o1 n k) o2 n v) a c (n + 1)
theorem emS_ck {S : Hp} {a : Nat} {c : Int} {o1 o2 : Nat} {K : List (Int × Int)} (h : CKp S a c o1 o2 K) (h1 : a ≠ o1) (h2 : a ≠ o2) (h3 : o1 ≠ o2) (k v : Int) : CKp (emS S a c o1 o2 K.length k v) a c o1 o2 (K ++ [(k, v)]) := by
  unfold emS
  refine ⟨?_, CPs_snoc K 0 (CPs_ext K 0 (fun j j1 j2 => ?_) h.2) ?_ ?_⟩
  · rw [uS_self, List.length_append]
    show _ = ((K.length + 1 : Nat) : Int)
    omega
  · rw [uS_ne _ _ (Or.inl (fun z => h1 z.symm)), uS_ne _ _ (Or.inl h3), uS_ne _ _ (Or.inr (by omega)), uS_ne _ _ (Or.inl (fun z => h2 z.symm)), uS_ne _ _ (Or.inr (by omega)), uS_ne _ _ (Or.inl (fun z => h3 z.symm))]
    exact ⟨rfl, rfl⟩
  · rw [uS_ne _ _ (Or.inl (fun z => h1 z.symm)), uS_ne _ _ (Or.inl h3), Int.zero_add, uS_self]
  · rw [uS_ne _ _ (Or.inl (fun z => h2 z.symm)), Int.zero_add, uS_self]
abbrev LOut : Type := Flt ⊕ (List (Int × Int) × Nat)
/-- what is put pushes one value -/
def Psh (c : List (Int × Int)) : Prop := ∀ rest t, okc rest (t + 1) → okc (c ++ rest) t
/-- what is put behind a value leaves one -/
def StpC (c : List (Int × Int)) : Prop := ∀ rest t, okc rest (t + 1) → okc (c ++ rest) (t + 1)
def WfU (q : Nat) (B : Nat → Int) (e : Nat) : LOut → Prop
  | .inl _ => True
  | .inr y => (q < y.2 ∧ y.1.length + q ≤ y.2 ∧ sk B e y.2 = y.2 ∧ y.2 ≤ e) ∧ y.1 ≠ [] ∧ Psh y.1
def WfL (q : Nat) (B : Nat → Int) (e : Nat) : LOut → Prop
  | .inl _ => True
  | .inr y => (q ≤ y.2 ∧ y.1.length + q ≤ y.2 ∧ sk B e y.2 = y.2 ∧ y.2 ≤ e) ∧ StpC y.1
/-- the class's law at l -/
abbrev CKl (S : Hp) (l : Nat) (cd : List (Int × Int)) : Prop := CKp S l 4 (l + 1) (l + 2) (cd.map km)
abbrev MKl (S : Hp) (cd : List (Int × Int)) : Prop := CKp S 132 25 139 140 cd
abbrev FW (l : Nat) (S S' : Hp) : Prop := Fr [1, l, l + 1, l + 2] S S' ∧ ∀ k, k < 3 → S' 1 k = S 1 k
abbrev FZ (S S' : Hp) : Prop := Fr [132, 139, 140] S S' ∧ ∀ k, k < 4 ∨ (7 < k ∧ k ≠ 25) → S' 132 k = S 132 k
theorem FW_tr {l : Nat} {S S1 S2 : Hp} (h : FW l S S1) (h2 : FW l S1 S2) : FW l S S2 := ⟨fun o ho => (h2.1 o ho).trans (h.1 o ho), fun k hk1 => (h2.2 k hk1).trans (h.2 k hk1)⟩
theorem FW_t {l : Nat} {S S' : Hp} (h : FT S S') : FW l S S' := ⟨fun o ho => h.1 o (fun z => ho (by rw [List.mem_singleton.mp z]; exact List.mem_cons_self ..)), fun k hk1 => h.2 k (Or.inl hk1)⟩
theorem FW_rf (l : Nat) (S : Hp) : FW l S S := ⟨fun _ _ => rfl, fun _ _ => rfl⟩
theorem FZ_tr {S S1 S2 : Hp} (h : FZ S S1) (h2 : FZ S1 S2) : FZ S S2 := ⟨fun o ho => (h2.1 o ho).trans (h.1 o ho), fun k hk1 => (h2.2 k hk1).trans (h.2 k hk1)⟩
theorem FZ_rf (S : Hp) : FZ S S := ⟨fun _ _ => rfl, fun _ _ => rfl⟩
theorem FZ_m {S S' : Hp} (h : FM S S') : FZ S S' := ⟨fun o ho => h.1 o (fun z => ho (by rw [List.mem_singleton.mp z]; exact List.mem_cons_self ..)), fun k hk1 => h.2 k (by omega)⟩
theorem FZ_7 (S : Hp) {k : Int} (v : Int) (h : k = 4 ∨ k = 7) : FZ S (uS S 132 k v) := ⟨fun x hx => uS_row _ _ _ (fun z => hx (by rw [z]; decide)), fun x hx => uS_ne _ _ (Or.inr (by omega))⟩
theorem CKl_ft {l : Nat} (hl : 2 < l) {S S' : Hp} {cd : List (Int × Int)} (h : CKl S l cd) (hF : FT S S') : CKl S' l cd := CKp_o h (by rw [hF.1 l (fun z => by have := List.mem_singleton.mp z; omega)]) (hF.1 _ (fun z => by have := List.mem_singleton.mp z; omega)) (hF.1 _ (fun z => by have := List.mem_singleton.mp z; omega))
theorem MKl_m {S S' : Hp} {cd : List (Int × Int)} (h : MKl S cd) (hF : FM S S') : MKl S' cd := CKp_o h (hF.2 25 (by decide)) (hF.1 139 (by decide)) (hF.1 140 (by decide))
theorem map_km (a b : List (Int × Int)) : (a ++ b).map km = a.map km ++ b.map km := List.map_append ..
section LW0
variable {X : Nat × (Nat → Int32)} {d : Nat} {w : Bool × Bool × Bool} {S : Hp} {J : Nat → Nat → Int64} {B : Nat → Int} {e p q : Nat} {bw : Bool} {cd : List (Int × Int)}
theorem c_put (w : Bool × Bool × Bool) (J : Nat → Nat → Int64) (hK : CKl S (iW bw) cd) (hl : cd.length < 150) (a : Int × Int) : ∃ S', (∀ d, am_call X aP (d + 1) 30 [.ref (iW bw), .int (zI (kc a.1)), .int (zI a.2)] (mkS w (hI S) J) = some (.inl (some (.int (zI 1))), (mkS w (hI S') J))) ∧ CKl S' (iW bw) (cd ++ [a]) ∧ S' 1 = S 1 ∧ S' 2 = S 2 ∧ FW (iW bw) S S' := by
  have hb := iW_c bw
  have h4 := hK.1
  have hlen : ((cd.map km).length : Int) = (cd.length : Int) := by rw [List.length_map]
  rw [hlen] at h4
  have := emS_ck hK (by omega) (by omega) (by omega) (kc a.1) a.2
  rw [hlen] at this
  refine ⟨emS S (iW bw) 4 (iW bw + 1) (iW bw + 2) cd.length (kc a.1) a.2, fun d => ?_, ?_, ?_, ?_, ?_, ?_⟩
  · rw [go_X3_put, e_X3_put_0]
    simp (disch := omega) only [hk, hu, hI_n, hI_un, z_nat, em_d, zl, z_add, z_sub, z_mul, z_lt, z_eq, gI_mk, gJ_mk, cI_some, cV_some, cJ_some, cI_x, cV_x, cJ_x, uS_self, uS_ne, if_pos, if_neg, b01, b01n, ite_not, if_true, if_false, Bool.false_eq_true, hLL, h4, rI_d]
    rfl
  · show CKp _ _ _ _ _ ((cd ++ [a]).map km)
    rw [map_km]
    exact this
  · unfold emS
    rw [uS_row _ _ _ (by omega), uS_row _ _ _ (by omega), uS_row _ _ _ (by omega)]
  · unfold emS
    rw [uS_row _ _ _ (by omega), uS_row _ _ _ (by omega), uS_row _ _ _ (by omega)]
  · intro o ho
    simp only [List.mem_cons, List.not_mem_nil, or_false, not_or] at ho
    unfold emS
    rw [uS_row _ _ _ ho.2.1, uS_row _ _ _ ho.2.2.2, uS_row _ _ _ ho.2.2.1]
  · intro k _
    unfold emS
    rw [uS_row _ _ _ (by omega), uS_row _ _ _ (by omega), uS_row _ _ _ (by omega)]
theorem m_emit (w : Bool × Bool × Bool) (J : Nat → Nat → Int64) (h : Mp S B e p) (hK : MKl S cd) (hl : cd.length < 150) (a : Int × Int) : ∃ S', (∀ d, am_call X aP (d + 2) 180 [.ref 132, .int (zI a.1), .int (zI a.2)] (mkS w (hI S) J) = some (.inl none, (mkS w (hI S') J))) ∧ MKl S' (cd ++ [a]) ∧ Mp S' B e p ∧ S' 132 7 = S 132 7 ∧ FZ S S' := by
  have h4 := hK.1
  refine ⟨emS S 132 25 139 140 cd.length a.1 a.2, fun d => ?_, emS_ck hK (by decide) (by decide) (by decide) a.1 a.2, ?_, ?_, ?_, ?_⟩
  · rw [go_X10_emit, e_X10_emit_0, M_fine1 h]
    simp (disch := omega) only [hk, hu, hI_n, hI_un, z_nat, em_d, zl, z_add, z_sub, z_mul, z_lt, z_eq, gI_mk, gJ_mk, cI_some, cV_some, cJ_some, cI_x, cV_x, cJ_x, uS_self, uS_ne, if_pos, if_neg, b01, b01n, ite_not, if_true, if_false, Bool.false_eq_true, h4, rV_d]
    rfl
  · unfold emS
    exact Mp_o h (fun k k1 k2 => by rw [uS_ne _ _ (Or.inr (by omega)), uS_row _ _ _ (by decide), uS_row _ _ _ (by decide)]) (by rw [uS_row _ _ _ (by decide), uS_row _ _ _ (by decide), uS_row _ _ _ (by decide)])
  · unfold emS
    rw [uS_ne _ _ (Or.inr (by decide)), uS_row _ _ _ (by decide), uS_row _ _ _ (by decide)]
  · intro o ho
    simp only [List.mem_cons, List.not_mem_nil, or_false, not_or] at ho
    unfold emS
    rw [uS_row _ _ _ ho.1, uS_row _ _ _ ho.2.2, uS_row _ _ _ ho.2.1]
  · intro k hk9
    unfold emS
    rw [uS_ne _ _ (Or.inr (by omega)), uS_row _ _ _ (by decide), uS_row _ _ _ (by decide)]
theorem m_emitB {k pl a b : Int} (h : Bd S k pl) : am_call X aP (d + 2) 180 [.ref 132, .int (zI a), .int (zI b)] (mkS w (hI S) J) = some (.inl none, (mkS w (hI S) J)) := by
  rw [go_X10_emit, e_X10_emit_0, M_fine0 h]
  simp (disch := omega) only [hk, hu, hI_n, hI_un, z_nat, em_d, zl, z_add, z_sub, z_mul, z_lt, z_eq, gI_mk, gJ_mk, cI_some, cV_some, cJ_some, cI_x, cV_x, cJ_x, uS_self, uS_ne, if_pos, if_neg, b01, b01n, ite_not, if_true, if_false, Bool.false_eq_true, rV_d]
/-- some more of the bytes is read at once -/
theorem Mp_4 (h : Mp S B e p) {x : Nat} (hx : x ≤ e) : Mp (uS S 132 4 (x : Int)) B e x := Mp_t h (FM_u S _ (by decide)) (uS_self _ _ _ _) ((uS_ne _ _ (Or.inr (by decide))).trans h.2.2.2.2.2) hx
theorem m_opensOne1 (w : Bool × Bool × Bool) (J : Nat → Nat → Int64) (h : Mp S B e p) {x : Nat} (hx : p + x ≤ e) {o : Int} (h7 : S 132 7 = o) (ho : 0 ≤ o ∧ o < 6) : ∃ S', (∀ d, am_call X aP (d + 2) 181 [.ref 132, .int (zI ((x : Int)))] (mkS w (hI S) J) = some (.inl none, (mkS w (hI S') J))) ∧ Mp S' B e (p + x) ∧ S' 132 7 = o + 1 ∧ S' 132 25 = S 132 25 ∧ FZ S S' ∧ Fr [132] S S' := by
  have h4 := h.2.2.2.2.1
  have he := h.2.2.1
  refine ⟨uS (uS S 132 4 (p + x : Nat)) 132 7 (o + 1), fun d => ?_, Mp_o (Mp_4 h hx) (fun k k1 k2 => uS_ne _ _ (Or.inr (by omega))) (uS_row _ _ _ (by decide)), uS_self _ _ _ _, ?_, FZ_tr (FZ_7 S _ (Or.inl rfl)) (FZ_7 _ _ (Or.inr rfl)), Fr_tr (Fr_u S (L := [132]) _ _ (by decide)) (Fr_u _ (L := [132]) _ _ (by decide)) (fun _ z => z) (fun _ z => z)⟩
  · rw [go_X10_opensOne, e_X10_opensOne_0, M_fine1 h]
    simp (disch := omega) only [hk, hu, hI_n, hI_un, z_nat, em_d, zl, z_add, z_sub, z_mul, z_lt, z_eq, gI_mk, gJ_mk, cI_some, cV_some, cJ_some, cI_x, cV_x, cJ_x, uS_self, uS_ne, if_pos, if_neg, b01, b01n, ite_not, if_true, if_false, Bool.false_eq_true, h7]
    rw [show 9999999 = 9999998 + 1 from rfl, e_X10_opensOne_12, M_fine1 h]
    simp (disch := omega) only [hk, hu, hI_n, hI_un, z_nat, em_d, zl, z_add, z_sub, z_mul, z_lt, z_eq, gI_mk, gJ_mk, cI_some, cV_some, cJ_some, cI_x, cV_x, cJ_x, uS_self, uS_ne, if_pos, if_neg, b01, b01n, ite_not, if_true, if_false, Bool.false_eq_true, h4]
    rw [show 9999998 = 9999997 + 1 from rfl, e_X10_opensOne_21]
    simp (disch := omega) only [hk, hu, hI_n, hI_un, z_nat, em_d, zl, z_add, z_sub, z_mul, z_lt, z_eq, gI_mk, gJ_mk, cI_some, cV_some, cJ_some, cI_x, cV_x, cJ_x, uS_self, uS_ne, if_pos, if_neg, b01, b01n, ite_not, if_true, if_false, Bool.false_eq_true, h7, rV_d]
    rw [show ((p + x : Nat) : Int) = (p : Int) + (x : Int) by omega]
  · rw [uS_ne _ _ (Or.inr (by decide)), uS_ne _ _ (Or.inr (by decide))]
theorem m_opensOne0 (w : Bool × Bool × Bool) (J : Nat → Nat → Int64) (h : Mp S B e p) {x : Int} (h7 : S 132 7 = 6) : ∃ S', (∀ d, am_call X aP (d + 2) 181 [.ref 132, .int (zI x)] (mkS w (hI S) J) = some (.inl none, (mkS w (hI S') J))) ∧ Bd S' 3 (p : Int) ∧ FZ S S' := by
  have h4 := h.2.2.2.2.1
  have he := h.2.2.1
  have hp := h.2.2.2.1
  obtain ⟨S1, g1, g2, -, g3⟩ := M_wrong1 (X := X) w J h 3 (p : Int) (by omega)
  have e7 : S1 132 7 = 6 := (g3.2 7 (by decide)).trans h7
  refine ⟨uS S1 132 7 7, fun d => ?_, Bd_o g2 (uS_ne _ _ (Or.inr (by decide))) (uS_ne _ _ (Or.inr (by decide))), FZ_tr (FZ_m g3) (FZ_7 _ _ (Or.inr rfl))⟩
  rw [go_X10_opensOne, e_X10_opensOne_0, M_fine1 h]
  simp (disch := omega) only [hk, hu, hI_n, hI_un, z_nat, em_d, zl, z_add, z_sub, z_mul, z_lt, z_eq, gI_mk, gJ_mk, cI_some, cV_some, cJ_some, cI_x, cV_x, cJ_x, uS_self, uS_ne, if_pos, if_neg, b01, b01n, ite_not, if_true, if_false, Bool.false_eq_true, h7, h4]
  rw [g1]
  simp (disch := omega) only [hk, hu, hI_n, hI_un, z_nat, em_d, zl, z_add, z_sub, z_mul, z_lt, z_eq, gI_mk, gJ_mk, cI_some, cV_some, cJ_some, cI_x, cV_x, cJ_x, uS_self, uS_ne, if_pos, if_neg, b01, b01n, ite_not, if_true, if_false, Bool.false_eq_true]
  rw [show 9999999 = 9999998 + 1 from rfl, e_X10_opensOne_12, M_fine0 g2]
  simp (disch := omega) only [hk, hu, hI_n, hI_un, z_nat, em_d, zl, z_add, z_sub, z_mul, z_lt, z_eq, gI_mk, gJ_mk, cI_some, cV_some, cJ_some, cI_x, cV_x, cJ_x, uS_self, uS_ne, if_pos, if_neg, b01, b01n, ite_not, if_true, if_false, Bool.false_eq_true]
  rw [show 9999998 = 9999997 + 1 from rfl, e_X10_opensOne_21]
  simp (disch := omega) only [hk, hu, hI_n, hI_un, z_nat, em_d, zl, z_add, z_sub, z_mul, z_lt, z_eq, gI_mk, gJ_mk, cI_some, cV_some, cJ_some, cI_x, cV_x, cJ_x, uS_self, uS_ne, if_pos, if_neg, b01, b01n, ite_not, if_true, if_false, Bool.false_eq_true, e7, rV_d]
  rfl
/-- wrong already: nothing more is read -/
theorem m_unitB {k pl : Int} (h : Bd S k pl) : am_call X aP (d + 2) 186 [.ref 132] (mkS w (hI S) J) = some (.inl none, (mkS w (hI S) J)) := by
  rw [show d + 2 = (d + 1) + 1 from rfl, go_X10_readUnit, e_X10_readUnit_0]
  refine cI_go (r := zI 0) (st := mkS w (hI S) J) (M_fine0 h) ?_
  simp (disch := omega) only [hk, hu, hI_n, hI_un, z_nat, em_d, zl, z_add, z_sub, z_mul, z_lt, z_eq, gI_mk, gJ_mk, cI_some, cV_some, cJ_some, cI_x, cV_x, cJ_x, uS_self, uS_ne, if_pos, if_neg, b01, b01n, ite_not, if_true, if_false, Bool.false_eq_true, rV_d]
theorem m_prodB {k pl : Int} (h : Bd S k pl) : am_call X aP (d + 3) 183 [.ref 132] (mkS w (hI S) J) = some (.inl none, (mkS w (hI S) J)) := by
  rw [show d + 3 = (d + 2) + 1 from rfl, go_X10_readProduct, e_X10_readProduct_0]
  refine cV_go (st := mkS w (hI S) J) (m_unitB h) ?_
  simp only [gI_mk, gJ_mk]
  rw [show 9999999 = 9999998 + 1 from rfl, e_X10_readProduct_2]
  refine cI_go (r := zI 0) (st := mkS w (hI S) J) (M_fine0 h) ?_
  simp (disch := omega) only [hk, hu, hI_n, hI_un, z_nat, em_d, zl, z_add, z_sub, z_mul, z_lt, z_eq, gI_mk, gJ_mk, cI_some, cV_some, cJ_some, cI_x, cV_x, cJ_x, uS_self, uS_ne, if_pos, if_neg, b01, b01n, ite_not, if_true, if_false, Bool.false_eq_true, rV_d]
theorem m_sumB {k pl : Int} (h : Bd S k pl) : am_call X aP (d + 4) 182 [.ref 132] (mkS w (hI S) J) = some (.inl none, (mkS w (hI S) J)) := by
  rw [show d + 4 = (d + 3) + 1 from rfl, go_X10_readSum, e_X10_readSum_0]
  refine cV_go (st := mkS w (hI S) J) (m_prodB h) ?_
  simp only [gI_mk, gJ_mk]
  rw [show 9999999 = 9999998 + 1 from rfl, e_X10_readSum_2]
  refine cI_go (r := zI 0) (st := mkS w (hI S) J) (M_fine0 h) ?_
  simp (disch := omega) only [hk, hu, hI_n, hI_un, z_nat, em_d, zl, z_add, z_sub, z_mul, z_lt, z_eq, gI_mk, gJ_mk, cI_some, cV_some, cJ_some, cI_x, cV_x, cJ_x, uS_self, uS_ne, if_pos, if_neg, b01, b01n, ite_not, if_true, if_false, Bool.false_eq_true, rV_d]
end LW0
