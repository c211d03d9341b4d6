/-! THE CLASS: the law's value, filling, the least and the most -/
section CPC
variable {X : Nat × (Nat → Int32)} {d : Nat} {w : Bool × Bool × Bool} {S : Hp} {J : Nat → Nat → Int64} {nT nR nC : Int} {rd s : Int → Int} {cd : List (Int × Int)} {bl bs bw : Bool}
theorem c_min {a b : Int} (ha : -2147483648 ≤ a ∧ a < 2147483648) (hb : -2147483648 ≤ b ∧ b < 2147483648) : am_call X aP (d + 1) 300 [.int (zI a), .int (zI b)] (mkS w (hI S) J) = some (.inl (some (.int (zI (min a b)))), (mkS w (hI S) J)) := by
  rw [go_J9_min_7cf53, e_J9_min_7cf53_0]
  by_cases h : b < a
  · have e : min a b = b := by omega
    simp (disch := omega) only [hk, hu, hI_n, hI_un, z_nat, em_d, zl, z_add, z_sub, z_mul, z_lt, z_eq, gI_mk, gJ_mk, cI_some, cV_some, cJ_some, cI_x, cV_x, cJ_x, uS_self, uS_ne, if_pos, if_neg, b01, b01n, ite_not, if_true, if_false, rI_d, e]
  · have e : min a b = a := by omega
    simp (disch := omega) only [hk, hu, hI_n, hI_un, z_nat, em_d, zl, z_add, z_sub, z_mul, z_lt, z_eq, gI_mk, gJ_mk, cI_some, cV_some, cJ_some, cI_x, cV_x, cJ_x, uS_self, uS_ne, if_pos, if_neg, b01, b01n, ite_not, if_true, if_false, rI_d, e]
theorem c_max {a b : Int} (ha : -2147483648 ≤ a ∧ a < 2147483648) (hb : -2147483648 ≤ b ∧ b < 2147483648) : am_call X aP (d + 1) 299 [.int (zI a), .int (zI b)] (mkS w (hI S) J) = some (.inl (some (.int (zI (max a b)))), (mkS w (hI S) J)) := by
  rw [go_J9_max_7cf53, e_J9_max_7cf53_0]
  by_cases h : a < b
  · have e : max a b = b := by omega
    simp (disch := omega) only [hk, hu, hI_n, hI_un, z_nat, em_d, zl, z_add, z_sub, z_mul, z_lt, z_eq, gI_mk, gJ_mk, cI_some, cV_some, cJ_some, cI_x, cV_x, cJ_x, uS_self, uS_ne, if_pos, if_neg, b01, b01n, ite_not, if_true, if_false, rI_d, e]
  · have e : max a b = a := by omega
    simp (disch := omega) only [hk, hu, hI_n, hI_un, z_nat, em_d, zl, z_add, z_sub, z_mul, z_lt, z_eq, gI_mk, gJ_mk, cI_some, cV_some, cJ_some, cI_x, cV_x, cJ_x, uS_self, uS_ne, if_pos, if_neg, b01, b01n, ite_not, if_true, if_false, rI_d, e]
/-- a row of one value -/
def fillS (S : Hp) (o : Nat) (n v : Int) : Hp := fun o' a => if o' = o ∧ 0 ≤ a ∧ a < n then v else S o' a
theorem fillS_fr (S : Hp) (o : Nat) (n v : Int) : Fr [o] S (fillS S o n v) := fun o' ho => by
  have ho : o' ≠ o := fun z => ho (z ▸ List.mem_singleton.mpr rfl)
  funext a
  unfold fillS
  rw [if_neg (fun z => ho z.1)]
theorem c_fill {o : Nat} (h1 : KK o = 10) (h2 : o < 1000000) {n : Int} (hn : n = (LL o : Int)) (hn3 : n < 3000) (v : Int) : am_call X aP (d + 1) 301 [.ref o, .int (zI v)] (mkS w (hI S) J) = some (.inl none, (mkS w (hI (fillS S o n v)) J)) := by
  rw [go_J7_fill_53178, e_J7_fill_53178_0, if_neg (by omega), if_pos h1, z_0, z_nI, ← hn]
  have hpres : ∀ (k : Int) (T : Hp), 0 ≤ k → k < n → T = fillS S o k v → uS T o k v = fillS S o (k + 1) v := fun k T q1 q2 q3 => by
    rw [q3]
    funext o' a
    unfold fillS
    rw [uS_at]
    by_cases e1 : o' = o ∧ a = k
    · rw [if_pos e1, if_pos ⟨e1.1, by omega⟩]
    · rw [if_neg e1]
      by_cases e2 : o' = o ∧ 0 ≤ a ∧ a < k
      · rw [if_pos e2, if_pos ⟨e2.1, by omega⟩]
      · rw [if_neg e2, if_neg (fun z => e2 ⟨z.1, z.2.1, by have := z.1; omega⟩)]
  have h0 : S = fillS S o 0 v := by
    funext o' a
    unfold fillS
    rw [if_neg (by omega)]
  have := loopA (fun n' k T => aR X d m_J7_fill_53178 n' 5 [some (.ref o), some (.int (zI v)), some (.int (zI k)), some (.int (zI n))] (0, 0) (mkS w (hI T) J)) (fun k T => uS T o k v) (fun k T => T = fillS S o k v) n 1 (fun T => some (.inl none, (mkS w (hI T) J))) (fun n' k T q1 q2 q3 => by
    show aR X d m_J7_fill_53178 (n' + 1) 5 [some (.ref o), some (.int (zI v)), some (.int (zI k)), some (.int (zI n))] (0, 0) (mkS w (hI T) J) = aR X d m_J7_fill_53178 n' 5 [some (.ref o), some (.int (zI v)), some (.int (zI ((k + 1)))), some (.int (zI n))] (0, 0) (mkS w (hI (uS T o k v)) J)
    rw [e_J7_fill_53178_5]
    simp (disch := omega) only [hk, hu, hI_n, hI_un, z_nat, em_d, zl, z_add, z_sub, z_mul, z_lt, z_eq, gI_mk, gJ_mk, cI_some, cV_some, cJ_some, cI_x, cV_x, cJ_x, uS_self, uS_ne, if_pos, if_neg, b01, b01n, ite_not, if_true, if_false, h1, h2, true_and, and_true]) hpres (fun n' T q1 q2 => by
    obtain ⟨n', rfl⟩ : ∃ m, n' = m + 1 := ⟨n' - 1, by omega⟩
    show aR X d m_J7_fill_53178 (n' + 1) 5 [some (.ref o), some (.int (zI v)), some (.int (zI n)), some (.int (zI n))] (0, 0) (mkS w (hI T) J) = _
    rw [e_J7_fill_53178_5]
    simp (disch := omega) only [hk, hu, hI_n, hI_un, z_nat, em_d, zl, z_add, z_sub, z_mul, z_lt, z_eq, gI_mk, gJ_mk, cI_some, cV_some, cJ_some, cI_x, cV_x, cJ_x, uS_self, uS_ne, if_pos, if_neg, b01, b01n, ite_not, if_true, if_false, rV_d]) n.toNat 0 S (by omega) (by omega) h0 9999999 (by omega)
  have hV := fold_V (fun k T => uS T o k v) (fun k T => T = fillS S o k v) n hpres n.toNat 0 S (by omega) (by omega) h0
  have hV : fold (fun k T => uS T o k v) n.toNat 0 S = fillS S o n v := hV
  rw [hV] at this
  exact this
theorem kc_c {k : Int} : (kc k = 0 ↔ k = 0) ∧ (kc k = 1 ↔ k = 1) := by
  unfold kc
  constructor
  · constructor
    · intro h
      split at h
      · omega
      · split at h
        · omega
        · split at h <;> omega
    · intro h; subst h; decide
  · constructor
    · intro h
      split at h
      · omega
      · split at h
        · omega
        · split at h <;> omega
    · intro h; subst h; decide
theorem kc_r {k : Int} (h : 2 ≤ k ∧ k ≤ 8) : 2 ≤ kc k ∧ kc k ≤ 8 := by
  unfold kc
  split
  · omega
  · split
    · omega
    · split <;> omega
theorem l_pace {f : Int → Int} : ∀ (cd : List (Int × Int)) (i : Int) (st : List Int32) (T : Hp) (n : Nat), CPs T (iW bw + 1) (iW bw + 2) i (cd.map (fun e => (kc e.1, e.2))) → T (iW bw) 4 = i + cd.length → StR T (iW bw + 3) st → okc cd st.length → 0 ≤ i → i + cd.length ≤ 150 → (st.length : Int) ≤ i → (∀ k, 0 ≤ k → k < 8 → T (iW bw + 4) k = f k) → cd.length + 2 ≤ n → ∃ T', aR X (d + 1) m_X3_pace n 4 [some (.ref ((iW bw))), some (.int (zI ((st.length : Int)))), some (.int (zI i))] (0, 0) (mkS w (hI T) J) = some (.inl (some (.int (zI (clampP (hd32 (evS f cd st)))))), (mkS w (hI T') J)) ∧ Fr [iW bw + 3] T T'
  | [], i, st, T, n, hc, h26, hst, hok, hi, hlen, hsl, hf, hn => by
    obtain ⟨n, rfl⟩ : ∃ n', n = n' + 1 + 1 := ⟨n - 2, by omega⟩
    have hok : st.length = 1 := hok
    match st, hok with
    | [v], _ =>
      refine ⟨T, ?_, Fr_rf _ _⟩
      have e : evS f [] [v] = [v] := rfl
      have hv : zI (T (iW bw + 3) 0) = zI v.toInt := (show zI (T (iW bw + 3) 0) = v from hst.1).trans (z_of v)
      have r1 := Int32.le_toInt v
      have r2 := Int32.toInt_lt v
      rw [e_X3_pace_4, e]
      simp only [List.length_nil] at h26
      simp (disch := omega) only [hk, hu, hI_n, hI_un, z_nat, em_d, zl, z_add, z_sub, z_mul, z_lt, z_eq, gI_mk, gJ_mk, cI_some, cV_some, cJ_some, cI_x, cV_x, cJ_x, uS_self, uS_ne, if_pos, if_neg, b01, b01n, ite_not, if_true, if_false, hLL, h26]
      rw [e_X3_pace_72]
      simp (disch := omega) only [hk, hu, hI_n, hI_un, z_nat, em_d, zl, z_add, z_sub, z_mul, z_lt, z_eq, gI_mk, gJ_mk, cI_some, cV_some, cJ_some, cI_x, cV_x, cJ_x, uS_self, uS_ne, if_pos, if_neg, b01, b01n, ite_not, if_true, if_false, hLL, hv]
      rw [c_min (by omega) (by omega)]
      simp (disch := omega) only [hk, hu, hI_n, hI_un, z_nat, em_d, zl, z_add, z_sub, z_mul, z_lt, z_eq, gI_mk, gJ_mk, cI_some, cV_some, cJ_some, cI_x, cV_x, cJ_x, uS_self, uS_ne, if_pos, if_neg, b01, b01n, ite_not, if_true, if_false, hLL]
      rw [c_max (by omega) (by omega)]
      have e3 : max 0 (min 9 v.toInt) = clampP (hd32 [v]) := by
        show _ = clampP v.toInt
        unfold clampP
        split
        · omega
        · split <;> omega
      simp only [hk, hu, hI_n, hI_un, z_nat, em_d, zl, z_add, z_sub, z_mul, z_lt, z_eq, gI_mk, gJ_mk, cI_some, cV_some, cJ_some, cI_x, cV_x, cJ_x, uS_self, uS_ne, if_pos, if_neg, b01, b01n, ite_not, if_true, if_false, hLL, rI_d, e3]
  | (k, v) :: cd, i, st, T, n, hc, h26, hst, hok, hi, hlen, hsl, hf, hn => by
    obtain ⟨n, rfl⟩ : ∃ n', n = n' + 1 := ⟨n - 1, by omega⟩
    obtain ⟨c1, c2, c3⟩ := hc
    have c1 : T (iW bw + 1) i = kc k := c1
    have c2 : T (iW bw + 2) i = v := c2
    rw [List.length_cons] at h26 hlen hn
    have hlen' : i + 1 + (cd.length : Int) ≤ 150 := by omega
    have hw := iW_c bw
    have q1 : iW bw + 1 ≠ iW bw + 3 := by omega
    have q2 : iW bw + 2 ≠ iW bw + 3 := by omega
    have q4 : iW bw + 4 ≠ iW bw + 3 := by omega
    have q0 : iW bw ≠ iW bw + 3 := by omega
    rw [e_X3_pace_4]
    rcases hok with ⟨rfl, hok⟩ | ⟨rfl, hv1, hv2, hok⟩ | ⟨hk2, hk8, ht, hok⟩
    · obtain ⟨T', h1, h2⟩ := l_pace (f := f) cd (i + 1) (zI v :: st) (uS T (iW bw + 3) (st.length : Int) v) n (CPs_of (uS_row _ _ _ q1) (uS_row _ _ _ q2) _ _ c3) (by rw [uS_ne _ _ (Or.inl q0)]; omega) (StR_push hst v) hok (by omega) (by omega) (by rw [List.length_cons]; omega) (fun k q5 q6 => by rw [uS_ne _ _ (Or.inl q4)]; exact hf k q5 q6) (by omega)
      refine ⟨T', ?_, Fr_tr (Fr_u T _ _ (List.mem_singleton.mpr rfl)) h2 (fun _ z => z) (fun _ z => z)⟩
      have c1 : T (iW bw + 1) i = 0 := c1
      simp (disch := omega) only [hk, hu, hI_n, hI_un, z_nat, em_d, zl, z_add, z_sub, z_mul, z_lt, z_eq, gI_mk, gJ_mk, cI_some, cV_some, cJ_some, cI_x, cV_x, cJ_x, uS_self, uS_ne, if_pos, if_neg, b01, b01n, ite_not, if_true, if_false, hLL, h26, c1, c2]
      rw [List.length_cons, show ((st.length + 1 : Nat) : Int) = (st.length : Int) + 1 by omega] at h1
      exact h1
    · obtain ⟨T', h1, h2⟩ := l_pace (f := f) cd (i + 1) (zI (f v) :: st) (uS T (iW bw + 3) (st.length : Int) (f v)) n (CPs_of (uS_row _ _ _ q1) (uS_row _ _ _ q2) _ _ c3) (by rw [uS_ne _ _ (Or.inl q0)]; omega) (StR_push hst (f v)) hok (by omega) (by omega) (by rw [List.length_cons]; omega) (fun k q5 q6 => by rw [uS_ne _ _ (Or.inl q4)]; exact hf k q5 q6) (by omega)
      refine ⟨T', ?_, Fr_tr (Fr_u T _ _ (List.mem_singleton.mpr rfl)) h2 (fun _ z => z) (fun _ z => z)⟩
      have e8 := hf v hv1 hv2
      have c1 : T (iW bw + 1) i = 1 := c1
      simp (disch := omega) only [hk, hu, hI_n, hI_un, z_nat, em_d, zl, z_add, z_sub, z_mul, z_lt, z_eq, gI_mk, gJ_mk, cI_some, cV_some, cJ_some, cI_x, cV_x, cJ_x, uS_self, uS_ne, if_pos, if_neg, b01, b01n, ite_not, if_true, if_false, hLL, h26, c1, c2, e8]
      rw [List.length_cons, show ((st.length + 1 : Nat) : Int) = (st.length : Int) + 1 by omega] at h1
      exact h1
    · have hkr := kc_r (k := k) ⟨hk2, hk8⟩
      match st, ht with
      | b :: a :: st, _ =>
        obtain ⟨hb, ha, hst3⟩ := hst
        simp only [List.length_cons] at *
        have hev : evS f ((k, v) :: cd) (b :: a :: st) = evS f cd (op2 k a b :: st) := by
          show evS f cd _ = _
          rw [if_neg (by omega), if_neg (by omega)]
        obtain ⟨T', h1, h2⟩ := l_pace (f := f) cd (i + 1) (zI (op2 k a b).toInt :: st) (uS T (iW bw + 3) (st.length : Int) (op2 k a b).toInt) n (CPs_of (uS_row _ _ _ q1) (uS_row _ _ _ q2) _ _ c3) (by rw [uS_ne _ _ (Or.inl q0)]; omega) (StR_push hst3 _) (by simpa using hok) (by omega) (by omega) (by rw [List.length_cons]; omega) (fun k q5 q6 => by rw [uS_ne _ _ (Or.inl q4)]; exact hf k q5 q6) (by omega)
        refine ⟨T', ?_, Fr_tr (Fr_u T _ _ (List.mem_singleton.mpr rfl)) h2 (fun _ z => z) (fun _ z => z)⟩
        rw [hev]
        rw [← z_of] at h1
        have e1 : ((st.length + 1 : Nat) : Int) - 1 = (st.length : Int) := by omega
        have e2 : ((st.length + 1 + 1 : Nat) : Int) - 1 = ((st.length + 1 : Nat) : Int) := by omega
        simp (disch := omega) only [hk, hu, hI_n, hI_un, z_nat, em_d, zl, z_add, z_sub, z_mul, z_lt, z_eq, gI_mk, gJ_mk, cI_some, cV_some, cJ_some, cI_x, cV_x, cJ_x, uS_self, uS_ne, if_pos, if_neg, b01, b01n, ite_not, if_true, if_false, hLL, h26, c1, c2, e1, e2, ha, hb]
        rw [c_outOf ⟨hk2, hk8⟩]
        simp (disch := omega) only [hk, hu, hI_n, hI_un, z_nat, em_d, zl, z_add, z_sub, z_mul, z_lt, z_eq, gI_mk, gJ_mk, cI_some, cV_some, cJ_some, cI_x, cV_x, cJ_x, uS_self, uS_ne, if_pos, if_neg, b01, b01n, ite_not, if_true, if_false, hLL, hI_uv]
        exact h1
theorem c_pace {f : Int → Int} (hc : CW S (iW bw) cd) (hf : ∀ k, 0 ≤ k → k < 8 → S (iW bw + 4) k = f k) : ∃ S', am_call X aP (d + 2) 37 [.ref (iW bw)] (mkS w (hI S) J) = some (.inl (some (.int (zI (paceZ cd f)))), (mkS w (hI S') J)) ∧ Fr [iW bw + 3] S S' := by
  obtain ⟨c1, c2, c3, c4⟩ := hc
  rw [go_X3_pace, e_X3_pace_0]
  unfold cdC at c1 c4
  by_cases hne : cd = []
  · rw [if_pos hne] at c1 c4
    obtain ⟨S', h1, h2⟩ := l_pace (X := X) (d := d) (w := w) (J := J) (bw := bw) (f := f) [(0, 2)] 0 [] S 9999999 c4 (by omega) trivial (Or.inl ⟨rfl, rfl⟩) (by omega) (by decide) (by decide) hf (by decide)
    refine ⟨S', ?_, h2⟩
    unfold paceZ
    rw [if_pos hne]
    exact h1
  · rw [if_neg hne] at c1 c4
    rw [List.length_map] at c1
    rcases c3 with c3 | c3
    · exact absurd c3 hne
    obtain ⟨S', h1, h2⟩ := l_pace (X := X) (d := d) (w := w) (J := J) (bw := bw) (f := f) cd 0 [] S 9999999 c4 (by omega) trivial c3 (by omega) (by omega) (by decide) hf (by omega)
    refine ⟨S', ?_, h2⟩
    unfold paceZ
    rw [if_neg hne]
    exact h1
theorem c_plain (hL : CL S (iL bl) nT nR nC rd) (hc : CW S (iW bw) cd) {r : Int} (hr : 0 ≤ r ∧ r < nR) : ∃ S', am_call X aP (d + 3) 39 [.ref (iW bw), .ref ((iL bl)), .int (zI r)] (mkS w (hI S) J) = some (.inl (some (.int (zI (plainZ cd rd r)))), (mkS w (hI S') J)) ∧ Fr [iW bw + 3, iW bw + 4] S S' := by
  obtain ⟨a1, a2, a3, a4, a5, a6, a7, a8, a9, a10, a11⟩ := hL
  obtain ⟨e1, e2, e3⟩ := a4 r hr.1 hr.2
  have hw := iW_c bw
  have hl := iL_c bl
  have hF : Fr [iW bw + 4] S (uS (uS (fillS S (iW bw + 4) 8 0) (iW bw + 4) 0 (rd (4 * r + 2))) (iW bw + 4) 7 r) := fun o ho => by
    have h4 : o ≠ iW bw + 4 := fun z => ho (z ▸ List.mem_singleton.mpr rfl)
    rw [uS_row _ _ _ h4, uS_row _ _ _ h4]
    exact fillS_fr _ _ _ _ o ho
  obtain ⟨S', h1, h2⟩ := c_pace (X := X) (d := d) (w := w) (J := J) (bw := bw) (f := fc (rd (4 * r + 2)) 0 0 0 0 0 0 r) (CW_of hc (by rw [hF _ (by simp)]) (hF _ (by simp)) (hF _ (by simp))) (fun k q1 q2 => by
    have : k = 0 ∨ k = 1 ∨ k = 2 ∨ k = 3 ∨ k = 4 ∨ k = 5 ∨ k = 6 ∨ k = 7 := by omega
    have h9 : ∀ k, 0 ≤ k → k < 8 → fillS S (iW bw + 4) 8 0 (iW bw + 4) k = 0 := fun k q1 q2 => by
      unfold fillS
      rw [if_pos ⟨rfl, q1, q2⟩]
    rcases this with rfl | rfl | rfl | rfl | rfl | rfl | rfl | rfl <;> simp (disch := omega) only [uS_self, uS_ne, h9] <;> rfl)
  refine ⟨S', ?_, Fr_tr hF h2 (by simp) (by simp)⟩
  have e4 : fillS S (iW bw + 4) 8 0 (iL bl + 3) r = rd (4 * r + 2) := by
    rw [fillS_fr S (iW bw + 4) 8 0 (iL bl + 3) (by simp; omega)]
    exact e3
  rw [go_X3_plainPace, e_X3_plainPace_0, z_0]
  rw [c_fill (n := 8) (hLL_kw bw) (by omega) (by rw [hLL_lw]; rfl) (by omega)]
  simp (disch := omega) only [hk, hu, hI_n, hI_un, z_nat, em_d, zl, z_add, z_sub, z_mul, z_lt, z_eq, gI_mk, gJ_mk, cI_some, cV_some, cJ_some, cI_x, cV_x, cJ_x, uS_self, uS_ne, if_pos, if_neg, b01, b01n, ite_not, if_true, if_false, hLL, e4]
  rw [h1]
  simp only [hk, hu, hI_n, hI_un, z_nat, em_d, zl, z_add, z_sub, z_mul, z_lt, z_eq, gI_mk, gJ_mk, cI_some, cV_some, cJ_some, cI_x, cV_x, cJ_x, uS_self, uS_ne, if_pos, if_neg, b01, b01n, ite_not, if_true, if_false, hLL, rI_d]
  rfl
end CPC
