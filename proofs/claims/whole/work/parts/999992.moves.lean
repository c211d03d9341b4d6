/-! A WORK RUNS: what it comes to, and the class's moves -/
abbrev GSt : Type := (Int → Int) × Nat × Nat × Nat
def gst (cd : List (Int × Int)) (rd : Int → Int) (nR nC k a b : Int) (x : GSt) : GSt := if canDo rd x.1 k a b = true then (doF cd rd nR nC x.1 k a b, x.2.1 + 1, x.2.2.1 + 1, x.2.2.2) else (x.1, x.2.1 + 1, x.2.2.1, x.2.2.2 + 1)
def goT (f : GSt → GSt) : Nat → GSt → GSt
  | 0, x => x
  | k + 1, x => goT f k (f x)
/-- steps in a row, 200 begun at most -/
def goF (cd : List (Int × Int)) (rd : Int → Int) (nR nC : Int) : Nat → List Tk → GSt → GSt
  | 0, _, x => x
  | _ + 1, [], x => x
  | n + 1, a :: t, x => if 200 ≤ x.2.1 then x else if a.1 = 5 then goF cd rd nR nC n (t.drop (a.2.2.1.toNat + 1)) (goT (goF cd rd nR nC n (t.take a.2.2.1.toNat)) a.2.1.toNat (x.1, x.2.1 + 1, x.2.2)) else goF cd rd nR nC n t (gst cd rd nR nC a.1 a.2.1 a.2.2.1 x)
theorem gst_b (cd : List (Int × Int)) (rd : Int → Int) (nR nC k a b : Int) (x : GSt) : (gst cd rd nR nC k a b x).2.1 = x.2.1 + 1 := by
  unfold gst
  by_cases p : canDo rd x.1 k a b = true
  · rw [if_pos p]
  · rw [if_neg p]
theorem gst_s (cd : List (Int × Int)) (rd : Int → Int) (nR nC k a b : Int) (x : GSt) : (gst cd rd nR nC k a b x).1 = if canDo rd x.1 k a b = true then doF cd rd nR nC x.1 k a b else x.1 := by
  unfold gst
  by_cases p : canDo rd x.1 k a b = true
  · rw [if_pos p, if_pos p]
  · rw [if_neg p, if_neg p]
section GOF
variable {cd : List (Int × Int)} {rd : Int → Int} {nR nC : Int}
theorem goF_nil : ∀ (n : Nat) (x : GSt), goF cd rd nR nC n [] x = x
  | 0, _ => rfl
  | _ + 1, _ => rfl
theorem goF_full : ∀ (n : Nat) (L : List Tk) (x : GSt), 200 ≤ x.2.1 → goF cd rd nR nC n L x = x
  | 0, _, _, _ => rfl
  | _ + 1, [], _, _ => rfl
  | _ + 1, _ :: _, _, h => if_pos h
theorem goT_full (n : Nat) (L : List Tk) : ∀ (k : Nat) (x : GSt), 200 ≤ x.2.1 → goT (goF cd rd nR nC n L) k x = x
  | 0, _, _ => rfl
  | k + 1, x, h => by
    show goT (goF cd rd nR nC n L) k (goF cd rd nR nC n L x) = x
    rw [goF_full n L x h]
    exact goT_full n L k x h
theorem goT_nil (n : Nat) : ∀ (k : Nat) (x : GSt), goT (goF cd rd nR nC n []) k x = x
  | 0, _ => rfl
  | k + 1, x => by
    show goT (goF cd rd nR nC n []) k (goF cd rd nR nC n [] x) = x
    rw [goF_nil]
    exact goT_nil n k x
theorem goF_st {n : Nat} {k a b : Int} {m : Nat} {t : List Tk} {x : GSt} (hk9 : k ≠ 5) (h : ¬ 200 ≤ x.2.1) : goF cd rd nR nC (n + 1) ((k, a, b, m) :: t) x = goF cd rd nR nC n t (gst cd rd nR nC k a b x) := (if_neg h).trans (if_neg hk9)
theorem goF_ag {n : Nat} {m : Int} {b t : List Tk} {x : GSt} (h : ¬ 200 ≤ x.2.1) : goF cd rd nR nC (n + 1) ((5, m, (b.length : Int), mL b) :: (b ++ (6, (b.length : Int), 0, 0) :: t)) x = goF cd rd nR nC n t (goT (goF cd rd nR nC n b) m.toNat (x.1, x.2.1 + 1, x.2.2)) := by
  refine (if_neg h).trans ((if_pos rfl).trans ?_)
  show goF cd rd nR nC n ((b ++ (6, (b.length : Int), 0, 0) :: t).drop ((b.length : Int).toNat + 1)) (goT (goF cd rd nR nC n ((b ++ (6, (b.length : Int), 0, 0) :: t).take (b.length : Int).toNat)) m.toNat (x.1, x.2.1 + 1, x.2.2)) = _
  rw [show ((b.length : Int)).toNat = b.length from Int.toNat_natCast _, List.take_left, show b ++ (6, (b.length : Int), 0, 0) :: t = (b ++ [(6, (b.length : Int), 0, 0)]) ++ t by rw [List.append_assoc]; rfl, show b.length + 1 = (b ++ [((6 : Int), (b.length : Int), (0 : Int), (0 : Nat))]).length by rw [List.length_append]; rfl, List.drop_left]
end GOF
/-- what the class holds while a work runs -/
def RC (bl bs bw : Bool) (nT nR nC : Int) (rd : Int → Int) (cd : List (Int × Int)) (sz : Nat) (S : Hp) (x : GSt) : Prop := CL S (iL bl) nT nR nC rd ∧ CW S (iW bw) cd ∧ CS nR nC S (iS bs) x.1 ∧ InvS rd nR nC x.1 ∧ S 3 6 = (x.2.2.1 : Int) ∧ S 3 7 = (x.2.2.2 : Int) ∧ S 3 4 = (sz : Int)
theorem rcL (bl bs bw : Bool) : ∀ i, i ≤ 3 → ¬ (iL bl + i) ∈ 3 :: 7 :: dsL bw bs := fun i hi => by
  have : i = 0 ∨ i = 1 ∨ i = 2 ∨ i = 3 := by omega
  rcases this with rfl | rfl | rfl | rfl <;> cases bl <;> cases bs <;> cases bw <;> decide
theorem rcW (bs bw : Bool) : ∀ i, i ≤ 2 → ¬ (iW bw + i) ∈ 3 :: 7 :: dsL bw bs := fun i hi => by
  have : i = 0 ∨ i = 1 ∨ i = 2 := by omega
  rcases this with rfl | rfl | rfl <;> cases bs <;> cases bw <;> decide
theorem rcS (bs : Bool) : ∀ i, i ≤ 7 → ¬ (iS bs + i) ∈ [3, 7] := fun i hi => by
  simp only [List.mem_cons, List.not_mem_nil, or_false]
  have := iS_c bs
  omega
section MVS
variable {X : Nat × (Nat → Int32)} {d : Nat} {w : Bool × Bool × Bool} {S : Hp} {J : Nat → Nat → Int64} {nT nR nC : Int} {rd : Int → Int} {cd : List (Int × Int)} {bl bs bw : Bool} {sz : Nat} {x : GSt} {i u : Nat} {g : Nat}
theorem RC_37 {S' : Hp} {y : GSt} (h : RC bl bs bw nT nR nC rd cd sz S x) (hF : Fr [3, 7] S S') (hy : y.1 = x.1) (h6 : S' 3 6 = (y.2.2.1 : Int)) (h7 : S' 3 7 = (y.2.2.2 : Int)) (h4 : S' 3 4 = (sz : Int)) : RC bl bs bw nT nR nC rd cd sz S' y := by
  obtain ⟨a1, a2, a3, a4, a5, a6, a7⟩ := h
  have m : ∀ o, o ∈ [3, 7] → o ∈ 3 :: 7 :: dsL bw bs := fun o ho => by
    simp only [List.mem_cons, List.not_mem_nil, or_false] at ho ⊢
    omega
  refine ⟨CL_fr a1 (Fr_mono hF m) (rcL bl bs bw), CW_fr a2 (Fr_mono hF m) (rcW bs bw), ?_, ?_, h6, h7, h4⟩
  · rw [hy]
    exact CS_fr a3 hF (rcS bs)
  · rw [hy]
    exact a4
/-- the limit is met -/
theorem c_mvStop (h : RC bl bs bw nT nR nC rd cd sz S x) (hi : i < sz) (hz : sz ≤ 150) (hu : 0 < u ∧ u ≤ 100000) (h9 : ¬ S 4 (i : Int) = 6) (hb : 200 ≤ x.2.1) (hb2 : x.2.1 ≤ 200) (h4r : 0 ≤ S 4 (i : Int) ∧ S 4 (i : Int) ≤ 6) : aR X (d + 6) m_X6_run (g + 1) 15 [some (.ref 3), some (.ref ((iL bl))), some (.ref ((iW bw))), some (.ref ((iS bs))), some (.int (zI x.2.1)), some (.int (zI i)), some (.int (zI ((100000 - (u : Int)))))] (0, 0) (mkS w (hI S) J) = some (.inl none, (mkS w (hI S) J)) := by
  have e4 := h.2.2.2.2.2.2
  rw [e_X6_run_15]
  simp (disch := omega) only [hk, hu, hI_n, hI_un, z_nat, em_d, zl, z_add, z_sub, z_mul, z_lt, z_eq, gI_mk, gJ_mk, cI_some, cV_some, cJ_some, cI_x, cV_x, cJ_x, uS_self, uS_ne, if_pos, if_neg, b01, b01n, ite_not, if_true, if_false, Bool.false_eq_true, hLL, e4, h9, rV_d]
theorem c_mvAgn {S' : Hp} {i' : Nat} (h : RC bl bs bw nT nR nC rd cd sz S x) (hi : i < sz) (hz : sz ≤ 150) (hu : 0 < u ∧ u ≤ 100000) (h9 : S 4 (i : Int) = 5) (hb : x.2.1 < 200) (hc : am_call X aP (d + 6) 75 [.ref 3, .int (zI i)] (mkS w (hI S) J) = some (.inl (some (.int (zI i'))), (mkS w (hI S') J))) : aR X (d + 6) m_X6_run (g + 1) 15 [some (.ref 3), some (.ref ((iL bl))), some (.ref ((iW bw))), some (.ref ((iS bs))), some (.int (zI x.2.1)), some (.int (zI i)), some (.int (zI ((100000 - (u : Int)))))] (0, 0) (mkS w (hI S) J) = aR X (d + 6) m_X6_run g 15 [some (.ref 3), some (.ref ((iL bl))), some (.ref ((iW bw))), some (.ref ((iS bs))), some (.int (zI ((x.2.1 + 1)))), some (.int (zI i')), some (.int (zI ((100000 - (u : Int) + 1))))] (0, 0) (mkS w (hI S') J) := by
  have e4 := h.2.2.2.2.2.2
  rw [e_X6_run_15]
  simp (disch := omega) only [hk, hu, hI_n, hI_un, z_nat, em_d, zl, z_add, z_sub, z_mul, z_lt, z_eq, gI_mk, gJ_mk, cI_some, cV_some, cJ_some, cI_x, cV_x, cJ_x, uS_self, uS_ne, if_pos, if_neg, b01, b01n, ite_not, if_true, if_false, Bool.false_eq_true, hLL, e4, h9]
  rw [hc]
  simp only [hk, hu, hI_n, hI_un, z_nat, em_d, zl, z_add, z_sub, z_mul, z_lt, z_eq, gI_mk, gJ_mk, cI_some, cV_some, cJ_some, cI_x, cV_x, cJ_x, uS_self, uS_ne, if_pos, if_neg, b01, b01n, ite_not, if_true, if_false, Bool.false_eq_true, hLL]
theorem c_mvEnd {S' : Hp} {i' : Nat} (h : RC bl bs bw nT nR nC rd cd sz S x) (hi : i < sz) (hz : sz ≤ 150) (hu : 0 < u ∧ u ≤ 100000) (h9 : S 4 (i : Int) = 6) (hc : am_call X aP (d + 6) 76 [.ref 3, .int (zI i)] (mkS w (hI S) J) = some (.inl (some (.int (zI i'))), (mkS w (hI S') J))) : aR X (d + 6) m_X6_run (g + 1) 15 [some (.ref 3), some (.ref ((iL bl))), some (.ref ((iW bw))), some (.ref ((iS bs))), some (.int (zI x.2.1)), some (.int (zI i)), some (.int (zI ((100000 - (u : Int)))))] (0, 0) (mkS w (hI S) J) = aR X (d + 6) m_X6_run g 15 [some (.ref 3), some (.ref ((iL bl))), some (.ref ((iW bw))), some (.ref ((iS bs))), some (.int (zI x.2.1)), some (.int (zI i')), some (.int (zI ((100000 - (u : Int) + 1))))] (0, 0) (mkS w (hI S') J) := by
  have e4 := h.2.2.2.2.2.2
  rw [e_X6_run_15]
  simp (disch := omega) only [hk, hu, hI_n, hI_un, z_nat, em_d, zl, z_add, z_sub, z_mul, z_lt, z_eq, gI_mk, gJ_mk, cI_some, cV_some, cJ_some, cI_x, cV_x, cJ_x, uS_self, uS_ne, if_pos, if_neg, b01, b01n, ite_not, if_true, if_false, Bool.false_eq_true, hLL, e4, h9]
  rw [hc]
  simp only [hk, hu, hI_n, hI_un, z_nat, em_d, zl, z_add, z_sub, z_mul, z_lt, z_eq, gI_mk, gJ_mk, cI_some, cV_some, cJ_some, cI_x, cV_x, cJ_x, uS_self, uS_ne, if_pos, if_neg, b01, b01n, ite_not, if_true, if_false, Bool.false_eq_true, hLL]
theorem c_mvDone (h : RC bl bs bw nT nR nC rd cd sz S x) (hu : 0 < u ∧ u ≤ 100000) (hz : sz ≤ 150) (hb2 : x.2.1 ≤ 200) : aR X (d + 6) m_X6_run (g + 1) 15 [some (.ref 3), some (.ref ((iL bl))), some (.ref ((iW bw))), some (.ref ((iS bs))), some (.int (zI x.2.1)), some (.int (zI sz)), some (.int (zI ((100000 - (u : Int)))))] (0, 0) (mkS w (hI S) J) = some (.inl none, (mkS w (hI S) J)) := by
  have e4 := h.2.2.2.2.2.2
  rw [e_X6_run_15]
  simp (disch := omega) only [hk, hu, hI_n, hI_un, z_nat, em_d, zl, z_add, z_sub, z_mul, z_lt, z_eq, gI_mk, gJ_mk, cI_some, cV_some, cJ_some, cI_x, cV_x, cJ_x, uS_self, uS_ne, if_pos, if_neg, b01, b01n, ite_not, if_true, if_false, Bool.false_eq_true, hLL, e4, rV_d]
theorem c_mvStep (h : RC bl bs bw nT nR nC rd cd sz S x) (hR : nR ≤ 12) (hC : 0 ≤ nC ∧ nC ≤ 5) (hrd : Rd nR rd) (hi : i < sz) (hz : sz ≤ 150) (hu : 0 < u ∧ u ≤ 100000) {k a b : Int} (h4 : S 4 (i : Int) = k) (h5 : S 5 (i : Int) = a) (h6 : S 6 (i : Int) = b) (hok : okst nC nR k a b) (hb : x.2.1 < 200) (hdn : x.2.2.1 + x.2.2.2 ≤ 200) : ∃ S', (∀ g, aR X (d + 6) m_X6_run (g + 1) 15 [some (.ref 3), some (.ref ((iL bl))), some (.ref ((iW bw))), some (.ref ((iS bs))), some (.int (zI x.2.1)), some (.int (zI i)), some (.int (zI ((100000 - (u : Int)))))] (0, 0) (mkS w (hI S) J) = aR X (d + 6) m_X6_run g 15 [some (.ref 3), some (.ref ((iL bl))), some (.ref ((iW bw))), some (.ref ((iS bs))), some (.int (zI ((x.2.1 + 1)))), some (.int (zI ((i + 1)))), some (.int (zI ((100000 - (u : Int) + 1))))] (0, 0) (mkS w (hI S') J)) ∧ RC bl bs bw nT nR nC rd cd sz S' (gst cd rd nR nC k a b x) ∧ Fr (3 :: dsL bw bs) S S' ∧ S' 3 5 = S 3 5 := by
  obtain ⟨a1, a2, a3, a4, a5, a6, a7⟩ := h
  have hkk : k ≠ 5 ∧ k ≠ 6 ∧ 0 ≤ k ∧ k ≤ 4 := by
    unfold okst at hok
    omega
  obtain ⟨S1, g1, g2, g3⟩ := c_dstep (X := X) (d := d) (w := w) (J := J) a1 a3 a4 a2 hR hC.2 (x := i) (by omega) h4 h5 h6 (okst_ok hok)
  have n3 : 3 ∉ dsL bw bs := by cases bw <;> cases bs <;> decide
  have n37 : ∀ o, o ∈ dsL bw bs → o ∈ 3 :: 7 :: dsL bw bs := fun o ho => List.mem_cons_of_mem _ (List.mem_cons_of_mem _ ho)
  have b1 := CL_fr a1 (Fr_mono g3 n37) (rcL bl bs bw)
  have b2 := CW_fr a2 (Fr_mono g3 n37) (rcW bs bw)
  have r3 := g3 3 n3
  have inv := InvS_do (cd := cd) a4 hrd hR hC (okst_ok hok)
  by_cases p : canDo rd x.1 k a b = true
  · rw [if_pos p] at g1 g2 inv
    have eg : gst cd rd nR nC k a b x = (doF cd rd nR nC x.1 k a b, x.2.1 + 1, x.2.2.1 + 1, x.2.2.2) := if_pos p
    rw [eg]
    have c6 : S1 3 6 = (x.2.2.1 : Int) := by rw [r3]; exact a5
    refine ⟨uS S1 3 6 ((x.2.2.1 : Int) + 1), ?_, RC_37 (x := (doF cd rd nR nC x.1 k a b, x.2.1 + 1, x.2.2.1, x.2.2.2)) ⟨b1, b2, g2, inv, c6, by rw [r3]; exact a6, by rw [r3]; exact a7⟩ (Fr_u _ _ _ (by decide)) rfl ?_ ?_ ?_, Fr_tr g3 (Fr_u S1 (L := [3]) _ _ (by decide)) (fun o ho => List.mem_cons_of_mem _ ho) (fun o ho => by rw [List.mem_singleton.mp ho]; exact List.mem_cons_self ..), ?_⟩
    · intro g
      rw [e_X6_run_15]
      simp (disch := omega) only [hk, hu, hI_n, hI_un, z_nat, em_d, zl, z_add, z_sub, z_mul, z_lt, z_eq, gI_mk, gJ_mk, cI_some, cV_some, cJ_some, cI_x, cV_x, cJ_x, uS_self, uS_ne, if_pos, if_neg, b01, b01n, ite_not, if_true, if_false, Bool.false_eq_true, hLL, a7, h4]
      rw [g1]
      simp (disch := omega) only [hk, hu, hI_n, hI_un, z_nat, em_d, zl, z_add, z_sub, z_mul, z_lt, z_eq, gI_mk, gJ_mk, cI_some, cV_some, cJ_some, cI_x, cV_x, cJ_x, uS_self, uS_ne, if_pos, if_neg, b01, b01n, ite_not, if_true, if_false, Bool.false_eq_true, hLL, c6]
      rw [show uI (hI S1) 3 6 (zI ((x.2.2.1 : Int) + 1)) = hI (uS S1 3 6 ((x.2.2.1 : Int) + 1)) from hI_un S1 3 (a := 6) _ (by decide)]
    · rw [uS_self]
      show (x.2.2.1 : Int) + 1 = ((x.2.2.1 + 1 : Nat) : Int)
      omega
    · rw [uS_ne _ _ (Or.inr (by decide)), r3]
      exact a6
    · rw [uS_ne _ _ (Or.inr (by decide)), r3]
      exact a7
    · rw [uS_ne _ _ (Or.inr (by decide)), r3]
  · rw [if_neg p] at g1 g2 inv
    have eg : gst cd rd nR nC k a b x = (x.1, x.2.1 + 1, x.2.2.1, x.2.2.2 + 1) := if_neg p
    rw [eg]
    have c7 : S1 3 7 = (x.2.2.2 : Int) := by rw [r3]; exact a6
    refine ⟨uS S1 3 7 ((x.2.2.2 : Int) + 1), ?_, RC_37 (x := (x.1, x.2.1 + 1, x.2.2.1, x.2.2.2)) ⟨b1, b2, g2, inv, by rw [r3]; exact a5, c7, by rw [r3]; exact a7⟩ (Fr_u _ _ _ (by decide)) rfl ?_ ?_ ?_, Fr_tr g3 (Fr_u S1 (L := [3]) _ _ (by decide)) (fun o ho => List.mem_cons_of_mem _ ho) (fun o ho => by rw [List.mem_singleton.mp ho]; exact List.mem_cons_self ..), ?_⟩
    · intro g
      rw [e_X6_run_15]
      simp (disch := omega) only [hk, hu, hI_n, hI_un, z_nat, em_d, zl, z_add, z_sub, z_mul, z_lt, z_eq, gI_mk, gJ_mk, cI_some, cV_some, cJ_some, cI_x, cV_x, cJ_x, uS_self, uS_ne, if_pos, if_neg, b01, b01n, ite_not, if_true, if_false, Bool.false_eq_true, hLL, a7, h4]
      rw [g1]
      simp (disch := omega) only [hk, hu, hI_n, hI_un, z_nat, em_d, zl, z_add, z_sub, z_mul, z_lt, z_eq, gI_mk, gJ_mk, cI_some, cV_some, cJ_some, cI_x, cV_x, cJ_x, uS_self, uS_ne, if_pos, if_neg, b01, b01n, ite_not, if_true, if_false, Bool.false_eq_true, hLL, c7]
      rw [show uI (hI S1) 3 7 (zI ((x.2.2.2 : Int) + 1)) = hI (uS S1 3 7 ((x.2.2.2 : Int) + 1)) from hI_un S1 3 (a := 7) _ (by decide)]
    · rw [uS_ne _ _ (Or.inr (by decide)), r3]
      exact a5
    · rw [uS_self]
      show (x.2.2.2 : Int) + 1 = ((x.2.2.2 + 1 : Nat) : Int)
      omega
    · rw [uS_ne _ _ (Or.inr (by decide)), r3]
      exact a7
    · rw [uS_ne _ _ (Or.inr (by decide)), r3]
end MVS
