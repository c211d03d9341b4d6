/-! THE WAY: what is asked; the class -/
def lastF (rd s pl : Int → Int) (nR h : Int) (D : Int → Int) (x : Int) : Int := if D x = -1 then -1 else srch (fun r => decide (goesF rd r x ∧ byF rd s pl h D r (othF rd r x) = D x)) nR.toNat 0
def wayF (rd s pl : Int → Int) (nR h : Int) (D : Int → Int) : Nat → Int → Int × Int × Int → Int × Int × Int
  | 0, _, a => a
  | j + 1, x, a => if lastF rd s pl nR h D x = -1 then a else wayF rd s pl nR h D j (othF rd (lastF rd s pl nR h D x) x) (a.1 + 1, lastF rd s pl nR h D x, if a.2.2 = -1 then lastF rd s pl nR h D x else a.2.2)
def wayR (rd s pl : Int → Int) (nR h : Int) (D : Int → Int) (o : Int) : Int × Int × Int := wayF rd s pl nR h D 7 o (if D o = -1 then -1 else 0, -1, -1)
def pick3 (p : Int) (a : Int × Int × Int) : Int := if p = 0 then a.1 else if p = 1 then a.2.1 else a.2.2
theorem lastF_r (rd s pl : Int → Int) (nR h : Int) (D : Int → Int) (x : Int) : lastF rd s pl nR h D x = -1 ∨ (¬ D x = -1 ∧ 0 ≤ lastF rd s pl nR h D x ∧ lastF rd s pl nR h D x < nR ∧ goesF rd (lastF rd s pl nR h D x) x ∧ byF rd s pl h D (lastF rd s pl nR h D x) (othF rd (lastF rd s pl nR h D x) x) = D x) := by
  unfold lastF
  by_cases q : D x = -1
  · rw [if_pos q]
    exact Or.inl rfl
  · rw [if_neg q]
    rcases srch_r (P := fun r => decide (goesF rd r x ∧ byF rd s pl h D r (othF rd r x) = D x)) nR.toNat 0 with g | ⟨g1, g2, g3, -⟩
    · exact Or.inl g
    · have := of_decide_eq_true g3
      exact Or.inr ⟨q, g1, by omega, this.1, this.2⟩
/-- at the end of the way there is none; elsewhere there is one, and it comes from a nearer town -/
theorem lastF_t {rd s pl D : Int → Int} {nT nR h t : Int} (hI : SI rd s pl nT nR h t D) : lastF rd s pl nR h D t = -1 := by
  rcases lastF_r rd s pl nR h D t with g | ⟨g0, g1, g2, g3, g4⟩
  · exact g
  · have := byF_r rd s pl h hI.1 (lastF rd s pl nR h D t) (othF rd (lastF rd s pl nR h D t) t)
    have h2 := hI.1 (othF rd (lastF rd s pl nR h D t) t)
    rw [hI.2.1] at g4
    rcases this.2.2 with q | q <;> omega
theorem lastF_s {rd s pl D : Int → Int} {nT nR h t x : Int} (hE : Ends nT nR rd) (hI : SI rd s pl nT nR h t D) (hx : 0 ≤ x ∧ x < nT) (hxt : x ≠ t) (hd : ¬ D x = -1) : ∃ r, lastF rd s pl nR h D x = r ∧ (0 ≤ r ∧ r < nR) ∧ (0 ≤ othF rd r x ∧ othF rd r x < nT) ∧ ¬ D (othF rd r x) = -1 ∧ D (othF rd r x) < D x := by
  obtain ⟨r, u, r1, r2, u1, u2, g1, g2, g3, g4, g5⟩ := hI.2.2.2 x hx.1 hx.2 hxt hd
  have hg := othF_oth hE ⟨r1, r2⟩ g1
  rw [g2] at hg
  have hne : ¬ lastF rd s pl nR h D x = -1 := by
    unfold lastF
    rw [if_neg hd]
    intro z
    have hall : ∀ (j : Nat) (k : Int), srch (fun r => decide (goesF rd r x ∧ byF rd s pl h D r (othF rd r x) = D x)) j k = -1 → 0 ≤ k → ∀ y, k ≤ y → y < k + j → decide (goesF rd y x ∧ byF rd s pl h D y (othF rd y x) = D x) = false := by
      intro j
      induction j with
      | zero => intro k _ _ y h1 h2; omega
      | succ j ih =>
        intro k h0 hk0 y h1 h2
        have e : srch (fun r => decide (goesF rd r x ∧ byF rd s pl h D r (othF rd r x) = D x)) (j + 1) k = if decide (goesF rd k x ∧ byF rd s pl h D k (othF rd k x) = D x) = true then k else srch (fun r => decide (goesF rd r x ∧ byF rd s pl h D r (othF rd r x) = D x)) j (k + 1) := rfl
        rw [e] at h0
        by_cases q : decide (goesF rd k x ∧ byF rd s pl h D k (othF rd k x) = D x) = true
        · rw [if_pos q] at h0
          omega
        · rw [if_neg q] at h0
          by_cases e2 : y = k
          · subst e2
            exact Bool.eq_false_iff.mpr q
          · exact ih (k + 1) h0 (by omega) y (by omega) (by omega)
    have := of_decide_eq_false (hall nR.toNat 0 z (by decide) r r1 (by omega))
    rw [g2, g3] at this
    exact this ⟨g1, rfl⟩
  rcases lastF_r rd s pl nR h D x with g | ⟨-, k1, k2, k3, k4⟩
  · exact absurd g hne
  · refine ⟨_, rfl, ⟨k1, k2⟩, ?_⟩
    have ho := othF_oth hE ⟨k1, k2⟩ k3
    have hb := byF_r rd s pl h hI.1 (lastF rd s pl nR h D x) (othF rd (lastF rd s pl nR h D x) x)
    refine ⟨⟨ho.2.2.1, ho.2.2.2.1⟩, ?_⟩
    rcases hb.2.2 with q | q
    · exact absurd (k4 ▸ q) hd
    · exact ⟨q.1, by omega⟩
/-- how many towns are nearer -/
def nrr (D : Int → Int) (nT x : Int) : Int := sumZ (fun y => if ¬ D y = -1 ∧ D y < D x then 1 else 0) nT.toNat
theorem sumZ_lt {f g : Int → Int} {b : Int} (hb : 0 ≤ b) (hfg : ∀ y, f y ≤ g y) (hlt : f b < g b) : ∀ n : Nat, sumZ f n + (if b < n then 1 else 0) ≤ sumZ g n
  | 0 => by
    rw [if_neg (by omega)]
    exact Int.le_refl _
  | n + 1 => by
    have ih := sumZ_lt hb hfg hlt n
    have h1 := hfg n
    show sumZ f n + f n + (if b < ((n + 1 : Nat) : Int) then 1 else 0) ≤ sumZ g n + g n
    by_cases e : b = n
    · subst e
      rw [if_neg (by omega)] at ih
      rw [if_pos (by omega)]
      omega
    · by_cases e2 : b < n
      · rw [if_pos e2] at ih
        rw [if_pos (by omega)]
        omega
      · rw [if_neg e2] at ih
        rw [if_neg (by omega)]
        omega
theorem nrr_0 (D : Int → Int) (nT x : Int) : 0 ≤ nrr D nT x := by
  have := sumZ_r (f := fun y => if ¬ D y = -1 ∧ D y < D x then (1 : Int) else 0) (a := 0) (b := 1) nT.toNat (fun k _ _ => by show 0 ≤ (if ¬ D k = -1 ∧ D k < D x then (1 : Int) else 0) ∧ (if ¬ D k = -1 ∧ D k < D x then (1 : Int) else 0) ≤ 1; split <;> decide)
  have h0 : (nT.toNat : Int) * 0 = 0 := Int.mul_zero _
  show 0 ≤ sumZ _ nT.toNat
  omega
theorem nrr_7 (D : Int → Int) {nT x : Int} (hx : 0 ≤ x ∧ x < nT) (hT : nT ≤ 7) : nrr D nT x < 7 := by
  have h1 := sumZ_lt (f := fun y => if ¬ D y = -1 ∧ D y < D x then (1 : Int) else 0) (g := fun _ => 1) hx.1 (fun y => by show (if ¬ D y = -1 ∧ D y < D x then (1 : Int) else 0) ≤ 1; split <;> decide) (by show (if ¬ D x = -1 ∧ D x < D x then (1 : Int) else 0) < 1; rw [if_neg (fun z => Int.lt_irrefl _ z.2)]; decide) nT.toNat
  rw [if_pos (by omega)] at h1
  have h2 := sumZ_r (f := fun _ => (1 : Int)) (a := 1) (b := 1) nT.toNat (fun _ _ _ => by decide)
  have h3 : (nT.toNat : Int) * 1 = nT.toNat := Int.mul_one _
  show sumZ _ nT.toNat < 7
  omega
theorem nrr_lt {D : Int → Int} {nT x u : Int} (hu : 0 ≤ u ∧ u < nT) (hd : ¬ D u = -1) (hlt : D u < D x) : nrr D nT u < nrr D nT x := by
  have h1 := sumZ_lt (f := fun y => if ¬ D y = -1 ∧ D y < D u then (1 : Int) else 0) (g := fun y => if ¬ D y = -1 ∧ D y < D x then (1 : Int) else 0) hu.1 (fun y => by
    show (if ¬ D y = -1 ∧ D y < D u then (1 : Int) else 0) ≤ (if ¬ D y = -1 ∧ D y < D x then (1 : Int) else 0)
    by_cases q : ¬ D y = -1 ∧ D y < D u
    · rw [if_pos q, if_pos ⟨q.1, by omega⟩]; decide
    · rw [if_neg q]; split <;> decide) (by
    show (if ¬ D u = -1 ∧ D u < D u then (1 : Int) else 0) < (if ¬ D u = -1 ∧ D u < D x then (1 : Int) else 0)
    rw [if_neg (fun z => Int.lt_irrefl _ z.2), if_pos ⟨hd, hlt⟩]; decide) nT.toNat
  rw [if_pos (by omega)] at h1
  show sumZ _ nT.toNat < sumZ _ nT.toNat
  omega
section CWA
variable {X : Nat × (Nat → Int32)} {d : Nat} {w : Bool × Bool × Bool} {S : Hp} {J : Nat → Nat → Int64} {nT nR nC : Int} {rd s pl D : Int → Int} {cd : List (Int × Int)} {bl bs : Bool}
theorem l_lastRoad (hL : CL S (iL bl) nT nR nC rd) (hE : Ends nT nR rd) (hs : CS nR nC S (iS bs) s) (hoff : ∀ r, 0 ≤ r → r < nR → 0 ≤ s r ∧ s r < 7) (hW : WP S nR pl D) (hP : PL nR pl) (hD : DR D) {x h : Int} (hx : 0 ≤ x ∧ x < 7) (hh : 0 ≤ h ∧ h ≤ 6000) : ∀ (j : Nat) (k : Int) (n : Nat), k + j = nR → 0 ≤ k → j + 1 ≤ n → aR X (d + 2) m_X8_lastRoad n 10 [some (.ref 97), some (.ref ((iL bl))), some (.ref ((iS bs))), some (.int (zI x)), some (.int (zI h)), some (.int (zI k))] (0, 0) (mkS w (hI S) J) = some (.inl (some (.int (zI (srch (fun r => decide (goesF rd r x ∧ byF rd s pl h D r (othF rd r x) = D x)) j k)))), (mkS w (hI S) J))
  | 0, k, n, hk1, hk0, hn => by
    obtain ⟨n, rfl⟩ : ∃ n', n = n' + 1 := ⟨n - 1, by omega⟩
    have t7 := hL.2.1
    obtain ⟨-, -, -, -, -, -, a7, a8, -⟩ := id hL
    rw [e_X8_lastRoad_10]
    simp (disch := omega) only [hk, hu, hI_n, hI_un, z_nat, em_d, zl, z_add, z_sub, z_mul, z_lt, z_eq, gI_mk, gJ_mk, cI_some, cV_some, cJ_some, cI_x, cV_x, cJ_x, uS_self, uS_ne, if_pos, if_neg, b01, b01n, ite_not, if_true, if_false, hLL, t7]
    rfl
  | j + 1, k, n, hk1, hk0, hn => by
    obtain ⟨n, rfl⟩ : ∃ n', n = n' + 1 := ⟨n - 1, by omega⟩
    have t7 := hL.2.1
    obtain ⟨-, -, -, -, -, -, a7, a8, -, -, a11⟩ := id hL
    have ih := l_lastRoad hL hE hs hoff hW hP hD hx hh j (k + 1) n (by omega) (by omega) (by omega)
    have ho := othF_r a11 (t := x) (r := k) ⟨hk0, by omega⟩
    have hby := fun d => c_by (X := X) (d := d) (w := w) (J := J) hL hE hs hoff hW hP hD (r := k) (t := othF rd k x) ⟨hk0, by omega⟩ ho hh
    have hac := fun d => c_across (X := X) (d := d) (w := w) (J := J) hL (r := k) (t := x) ⟨hk0, by omega⟩ (by omega)
    have hto := fun d => c_touches (X := X) (d := d) (w := w) (J := J) hL (r := k) (t := x) ⟨hk0, by omega⟩ (by omega)
    have e99 := hW.2 x hx.1 hx.2
    have hb := byF_r rd s pl h hD k (othF rd k x)
    have hdx := hD x
    have es : srch (fun r => decide (goesF rd r x ∧ byF rd s pl h D r (othF rd r x) = D x)) (j + 1) k = if decide (goesF rd k x ∧ byF rd s pl h D k (othF rd k x) = D x) = true then k else srch (fun r => decide (goesF rd r x ∧ byF rd s pl h D r (othF rd r x) = D x)) j (k + 1) := rfl
    rw [e_X8_lastRoad_10]
    by_cases p1 : goesF rd k x
    · by_cases p2 : byF rd s pl h D k (othF rd k x) = D x
      · rw [es.trans (if_pos (decide_eq_true ⟨p1, p2⟩))]
        simp (disch := omega) only [hk, hu, hI_n, hI_un, z_nat, em_d, zl, z_add, z_sub, z_mul, z_lt, z_eq, gI_mk, gJ_mk, cI_some, cV_some, cJ_some, cI_x, cV_x, cJ_x, uS_self, uS_ne, if_pos, if_neg, b01, b01n, ite_not, if_true, if_false, hLL, t7]
        rw [hto, if_pos p1]
        simp (disch := omega) only [hk, hu, hI_n, hI_un, z_nat, em_d, zl, z_add, z_sub, z_mul, z_lt, z_eq, gI_mk, gJ_mk, cI_some, cV_some, cJ_some, cI_x, cV_x, cJ_x, uS_self, uS_ne, if_pos, if_neg, b01, b01n, ite_not, if_true, if_false, hLL, show (zI 1 = zI 0) = False from eq_false (by decide)]
        rw [hac]
        simp (disch := omega) only [hk, hu, hI_n, hI_un, z_nat, em_d, zl, z_add, z_sub, z_mul, z_lt, z_eq, gI_mk, gJ_mk, cI_some, cV_some, cJ_some, cI_x, cV_x, cJ_x, uS_self, uS_ne, if_pos, if_neg, b01, b01n, ite_not, if_true, if_false, hLL]
        rw [hby]
        simp (disch := omega) only [hk, hu, hI_n, hI_un, z_nat, em_d, zl, z_add, z_sub, z_mul, z_lt, z_eq, gI_mk, gJ_mk, cI_some, cV_some, cJ_some, cI_x, cV_x, cJ_x, uS_self, uS_ne, if_pos, if_neg, b01, b01n, ite_not, if_true, if_false, hLL, e99, p2, rI_d]
      · rw [es.trans (if_neg (fun z => p2 (of_decide_eq_true z).2))]
        simp (disch := omega) only [hk, hu, hI_n, hI_un, z_nat, em_d, zl, z_add, z_sub, z_mul, z_lt, z_eq, gI_mk, gJ_mk, cI_some, cV_some, cJ_some, cI_x, cV_x, cJ_x, uS_self, uS_ne, if_pos, if_neg, b01, b01n, ite_not, if_true, if_false, hLL, t7]
        rw [hto, if_pos p1]
        simp (disch := omega) only [hk, hu, hI_n, hI_un, z_nat, em_d, zl, z_add, z_sub, z_mul, z_lt, z_eq, gI_mk, gJ_mk, cI_some, cV_some, cJ_some, cI_x, cV_x, cJ_x, uS_self, uS_ne, if_pos, if_neg, b01, b01n, ite_not, if_true, if_false, hLL, show (zI 1 = zI 0) = False from eq_false (by decide)]
        rw [hac]
        simp (disch := omega) only [hk, hu, hI_n, hI_un, z_nat, em_d, zl, z_add, z_sub, z_mul, z_lt, z_eq, gI_mk, gJ_mk, cI_some, cV_some, cJ_some, cI_x, cV_x, cJ_x, uS_self, uS_ne, if_pos, if_neg, b01, b01n, ite_not, if_true, if_false, hLL]
        rw [hby]
        simp (disch := omega) only [hk, hu, hI_n, hI_un, z_nat, em_d, zl, z_add, z_sub, z_mul, z_lt, z_eq, gI_mk, gJ_mk, cI_some, cV_some, cJ_some, cI_x, cV_x, cJ_x, uS_self, uS_ne, if_pos, if_neg, b01, b01n, ite_not, if_true, if_false, hLL, e99]
        exact ih
    · rw [es.trans (if_neg (fun z => p1 (of_decide_eq_true z).1))]
      simp (disch := omega) only [hk, hu, hI_n, hI_un, z_nat, em_d, zl, z_add, z_sub, z_mul, z_lt, z_eq, gI_mk, gJ_mk, cI_some, cV_some, cJ_some, cI_x, cV_x, cJ_x, uS_self, uS_ne, if_pos, if_neg, b01, b01n, ite_not, if_true, if_false, hLL, t7]
      rw [hto, if_neg p1]
      simp (disch := omega) only [hk, hu, hI_n, hI_un, z_nat, em_d, zl, z_add, z_sub, z_mul, z_lt, z_eq, gI_mk, gJ_mk, cI_some, cV_some, cJ_some, cI_x, cV_x, cJ_x, uS_self, uS_ne, if_pos, if_neg, b01, b01n, ite_not, if_true, if_false, hLL]
      exact ih
theorem c_lastRoad (hL : CL S (iL bl) nT nR nC rd) (hE : Ends nT nR rd) (hs : CS nR nC S (iS bs) s) (hoff : ∀ r, 0 ≤ r → r < nR → 0 ≤ s r ∧ s r < 7) (hW : WP S nR pl D) (hP : PL nR pl) (hD : DR D) {x h : Int} (hx : 0 ≤ x ∧ x < 7) (hh : 0 ≤ h ∧ h ≤ 6000) : am_call X aP (d + 3) 101 [.ref 97, .ref ((iL bl)), .ref ((iS bs)), .int (zI x), .int (zI h)] (mkS w (hI S) J) = some (.inl (some (.int (zI (lastF rd s pl nR h D x)))), (mkS w (hI S) J)) := by
  obtain ⟨-, -, -, -, -, -, a7, a8, -, -, a11⟩ := id hL
  have e99 := hW.2 x hx.1 hx.2
  have hdx := hD x
  rw [go_X8_lastRoad, e_X8_lastRoad_0]
  unfold lastF
  by_cases q : D x = -1
  · simp (disch := omega) only [hk, hu, hI_n, hI_un, z_nat, em_d, zl, z_add, z_sub, z_mul, z_lt, z_eq, gI_mk, gJ_mk, cI_some, cV_some, cJ_some, cI_x, cV_x, cJ_x, uS_self, uS_ne, if_pos, if_neg, b01, b01n, ite_not, if_true, if_false, hLL, e99, q, rI_d]
  · simp (disch := omega) only [hk, hu, hI_n, hI_un, z_nat, em_d, zl, z_add, z_sub, z_mul, z_lt, z_eq, gI_mk, gJ_mk, cI_some, cV_some, cJ_some, cI_x, cV_x, cJ_x, uS_self, uS_ne, if_pos, if_neg, b01, b01n, ite_not, if_true, if_false, hLL, e99]
    exact l_lastRoad hL hE hs hoff hW hP hD hx hh nR.toNat 0 9999999 (by omega) (by omega) (by omega)
theorem l_trace (hL : CL S (iL bl) nT nR nC rd) (hE : Ends nT nR rd) (hs : CS nR nC S (iS bs) s) (hoff : ∀ r, 0 ≤ r → r < nR → 0 ≤ s r ∧ s r < 7) (hW : WP S nR pl D) (hP : PL nR pl) (hD : DR D) {h : Int} (hh : 0 ≤ h ∧ h ≤ 6000) : ∀ (j : Nat) (i x : Int) (a : Int × Int × Int) (T : Hp), i + j = 7 → 0 ≤ i → 0 ≤ x ∧ x < 7 → Fr [97] S T → T 97 2 = a.1 → T 97 3 = a.2.1 → T 97 4 = a.2.2 → -1 ≤ a.1 ∧ a.1 + j ≤ 100 → -1 ≤ a.2.2 ∧ a.2.2 ≤ 100 → ∃ S', (∀ n, j + 1 ≤ n → aR X (d + 3) m_X8_trace n 21 [some (.ref 97), some (.ref ((iL bl))), some (.ref ((iS bs))), none, some (.int (zI h)), some (.int (zI x)), some (.int (zI i)), none] (0, 0) (mkS w (hI T) J) = some (.inl none, (mkS w (hI S') J))) ∧ S' 97 2 = (wayF rd s pl nR h D j x a).1 ∧ S' 97 3 = (wayF rd s pl nR h D j x a).2.1 ∧ S' 97 4 = (wayF rd s pl nR h D j x a).2.2 ∧ Fr [97] S S'
  | 0, i, x, a, T, hij, hi0, hx, hF, e2, e3, e4, ha, hb => by
    refine ⟨T, fun n hn => ?_, e2, e3, e4, hF⟩
    obtain ⟨n, rfl⟩ : ∃ n', n = n' + 1 := ⟨n - 1, by omega⟩
    rw [e_X8_trace_21]
    simp (disch := omega) only [hk, hu, hI_n, hI_un, z_nat, em_d, zl, z_add, z_sub, z_mul, z_lt, z_eq, gI_mk, gJ_mk, cI_some, cV_some, cJ_some, cI_x, cV_x, cJ_x, uS_self, uS_ne, if_pos, if_neg, b01, b01n, ite_not, if_true, if_false, hLL, rV_d]
  | j + 1, i, x, a, T, hij, hi0, hx, hF, e2, e3, e4, ha, hb => by
    have hl := iL_c bl
    have hsb := iS_c bs
    obtain ⟨-, -, -, -, -, -, a7, a8, -, -, a11⟩ := id hL
    have hL1 : CL T (iL bl) nT nR nC rd := CL_fr hL hF (fun i hi => by simp; omega)
    have hs1 : CS nR nC T (iS bs) s := CS_fr hs hF (fun i hi => by simp; omega)
    have hW1 : WP T nR pl D := ⟨fun r r1 r2 => by rw [hF 98 (by decide)]; exact hW.1 r r1 r2, fun t t1 t2 => by rw [hF 99 (by decide)]; exact hW.2 t t1 t2⟩
    have hla := fun d => c_lastRoad (X := X) (d := d) (w := w) (J := J) hL1 hE hs1 hoff hW1 hP hD hx hh
    have hlr := lastF_r rd s pl nR h D x
    have ew : wayF rd s pl nR h D (j + 1) x a = if lastF rd s pl nR h D x = -1 then a else wayF rd s pl nR h D j (othF rd (lastF rd s pl nR h D x) x) (a.1 + 1, lastF rd s pl nR h D x, if a.2.2 = -1 then lastF rd s pl nR h D x else a.2.2) := rfl
    rw [ew]
    generalize lastF rd s pl nR h D x = r at hla hlr
    by_cases q : r = -1
    · rw [if_pos q]
      subst q
      refine ⟨T, fun n hn => ?_, e2, e3, e4, hF⟩
      obtain ⟨n, rfl⟩ : ∃ n', n = n' + 1 := ⟨n - 1, by omega⟩
      rw [e_X8_trace_21]
      simp (disch := omega) only [hk, hu, hI_n, hI_un, z_nat, em_d, zl, z_add, z_sub, z_mul, z_lt, z_eq, gI_mk, gJ_mk, cI_some, cV_some, cJ_some, cI_x, cV_x, cJ_x, uS_self, uS_ne, if_pos, if_neg, b01, b01n, ite_not, if_true, if_false, hLL]
      rw [hla]
      simp (disch := omega) only [hk, hu, hI_n, hI_un, z_nat, em_d, zl, z_add, z_sub, z_mul, z_lt, z_eq, gI_mk, gJ_mk, cI_some, cV_some, cJ_some, cI_x, cV_x, cJ_x, uS_self, uS_ne, if_pos, if_neg, b01, b01n, ite_not, if_true, if_false, hLL, rV_d]
    · rw [if_neg q]
      obtain ⟨-, r1, r2, -, -⟩ := hlr.resolve_left q
      have ho := othF_r a11 (t := x) (r := r) ⟨r1, r2⟩
      by_cases p : a.2.2 = -1
      · rw [if_pos p]
        have hF3 : Fr [97] S (uS (uS (uS T 97 4 r) 97 3 r) 97 2 (a.1 + 1)) := Fr_tr (Fr_tr (Fr_tr hF (Fr_u T (L := [97]) _ _ (by decide)) (fun _ z => z) (fun _ z => z)) (Fr_u _ (L := [97]) _ _ (by decide)) (fun _ z => z) (fun _ z => z)) (Fr_u _ (L := [97]) _ _ (by decide)) (fun _ z => z) (fun _ z => z)
        obtain ⟨S', k1, k2, k3, k4, k5⟩ := l_trace hL hE hs hoff hW hP hD hh j (i + 1) (othF rd r x) (a.1 + 1, r, r) (uS (uS (uS T 97 4 r) 97 3 r) 97 2 (a.1 + 1)) (by omega) (by omega) ho hF3 (uS_self _ _ _ _) (by rw [uS_ne _ _ (Or.inr (by decide))]; exact uS_self _ _ _ _) (by rw [uS_ne _ _ (Or.inr (by decide)), uS_ne _ _ (Or.inr (by decide))]; exact uS_self _ _ _ _) (by show -1 ≤ a.1 + 1 ∧ a.1 + 1 + (j : Int) ≤ 100; omega) (by show -1 ≤ r ∧ r ≤ 100; omega)
        refine ⟨S', fun n hn => ?_, k2, k3, k4, k5⟩
        obtain ⟨n, rfl⟩ : ∃ n', n = n' + 1 := ⟨n - 1, by omega⟩
        rw [e_X8_trace_21]
        simp (disch := omega) only [hk, hu, hI_n, hI_un, z_nat, em_d, zl, z_add, z_sub, z_mul, z_lt, z_eq, gI_mk, gJ_mk, cI_some, cV_some, cJ_some, cI_x, cV_x, cJ_x, uS_self, uS_ne, if_pos, if_neg, b01, b01n, ite_not, if_true, if_false, hLL]
        rw [hla]
        have hac := fun d => c_across (X := X) (d := d) (w := w) (J := J) (S := uS (uS (uS T 97 4 r) 97 3 r) 97 2 (a.1 + 1)) (CL_fr hL hF3 (fun i hi => by simp; omega)) (r := r) (t := x) ⟨r1, r2⟩ (by omega)
        simp (disch := omega) only [hk, hu, hI_n, hI_un, z_nat, em_d, zl, z_add, z_sub, z_mul, z_lt, z_eq, gI_mk, gJ_mk, cI_some, cV_some, cJ_some, cI_x, cV_x, cJ_x, uS_self, uS_ne, if_pos, if_neg, b01, b01n, ite_not, if_true, if_false, hLL, e2, e3, e4, p]
        rw [hac]
        simp (disch := omega) only [hk, hu, hI_n, hI_un, z_nat, em_d, zl, z_add, z_sub, z_mul, z_lt, z_eq, gI_mk, gJ_mk, cI_some, cV_some, cJ_some, cI_x, cV_x, cJ_x, uS_self, uS_ne, if_pos, if_neg, b01, b01n, ite_not, if_true, if_false, hLL]
        exact k1 n (by omega)
      · rw [if_neg p]
        have hF3 : Fr [97] S (uS (uS (uS T 97 4 a.2.2) 97 3 r) 97 2 (a.1 + 1)) := Fr_tr (Fr_tr (Fr_tr hF (Fr_u T (L := [97]) _ _ (by decide)) (fun _ z => z) (fun _ z => z)) (Fr_u _ (L := [97]) _ _ (by decide)) (fun _ z => z) (fun _ z => z)) (Fr_u _ (L := [97]) _ _ (by decide)) (fun _ z => z) (fun _ z => z)
        obtain ⟨S', k1, k2, k3, k4, k5⟩ := l_trace hL hE hs hoff hW hP hD hh j (i + 1) (othF rd r x) (a.1 + 1, r, a.2.2) (uS (uS (uS T 97 4 a.2.2) 97 3 r) 97 2 (a.1 + 1)) (by omega) (by omega) ho hF3 (uS_self _ _ _ _) (by rw [uS_ne _ _ (Or.inr (by decide))]; exact uS_self _ _ _ _) (by rw [uS_ne _ _ (Or.inr (by decide)), uS_ne _ _ (Or.inr (by decide))]; exact uS_self _ _ _ _) (by show -1 ≤ a.1 + 1 ∧ a.1 + 1 + (j : Int) ≤ 100; omega) (by show -1 ≤ a.2.2 ∧ a.2.2 ≤ 100; omega)
        refine ⟨S', fun n hn => ?_, k2, k3, k4, k5⟩
        obtain ⟨n, rfl⟩ : ∃ n', n = n' + 1 := ⟨n - 1, by omega⟩
        rw [e_X8_trace_21]
        simp (disch := omega) only [hk, hu, hI_n, hI_un, z_nat, em_d, zl, z_add, z_sub, z_mul, z_lt, z_eq, gI_mk, gJ_mk, cI_some, cV_some, cJ_some, cI_x, cV_x, cJ_x, uS_self, uS_ne, if_pos, if_neg, b01, b01n, ite_not, if_true, if_false, hLL]
        rw [hla]
        have hac := fun d => c_across (X := X) (d := d) (w := w) (J := J) (S := uS (uS (uS T 97 4 a.2.2) 97 3 r) 97 2 (a.1 + 1)) (CL_fr hL hF3 (fun i hi => by simp; omega)) (r := r) (t := x) ⟨r1, r2⟩ (by omega)
        simp (disch := omega) only [hk, hu, hI_n, hI_un, z_nat, em_d, zl, z_add, z_sub, z_mul, z_lt, z_eq, gI_mk, gJ_mk, cI_some, cV_some, cJ_some, cI_x, cV_x, cJ_x, uS_self, uS_ne, if_pos, if_neg, b01, b01n, ite_not, if_true, if_false, hLL, e2, e3, e4]
        rw [hac]
        simp (disch := omega) only [hk, hu, hI_n, hI_un, z_nat, em_d, zl, z_add, z_sub, z_mul, z_lt, z_eq, gI_mk, gJ_mk, cI_some, cV_some, cJ_some, cI_x, cV_x, cJ_x, uS_self, uS_ne, if_pos, if_neg, b01, b01n, ite_not, if_true, if_false, hLL]
        exact k1 n (by omega)
theorem c_trace (hL : CL S (iL bl) nT nR nC rd) (hE : Ends nT nR rd) (hs : CS nR nC S (iS bs) s) (hoff : ∀ r, 0 ≤ r → r < nR → 0 ≤ s r ∧ s r < 7) (hW : WP S nR pl D) (hP : PL nR pl) (hD : DR D) {x h : Int} (hx : 0 ≤ x ∧ x < 7) (hh : 0 ≤ h ∧ h ≤ 6000) : ∃ S', am_call X aP (d + 4) 100 [.ref 97, .ref ((iL bl)), .ref ((iS bs)), .int (zI x), .int (zI h)] (mkS w (hI S) J) = some (.inl none, (mkS w (hI S') J)) ∧ S' 97 2 = (wayR rd s pl nR h D x).1 ∧ S' 97 3 = (wayR rd s pl nR h D x).2.1 ∧ S' 97 4 = (wayR rd s pl nR h D x).2.2 ∧ Fr [97] S S' := by
  have e99 := hW.2 x hx.1 hx.2
  have hdx := hD x
  have hF3 : Fr [97] S (uS (uS (uS S 97 3 (-1)) 97 4 (-1)) 97 2 (if D x = -1 then -1 else 0)) := Fr_tr (Fr_tr (Fr_u S (L := [97]) _ _ (by decide)) (Fr_u _ (L := [97]) _ _ (by decide)) (fun _ z => z) (fun _ z => z)) (Fr_u _ (L := [97]) _ _ (by decide)) (fun _ z => z) (fun _ z => z)
  obtain ⟨S', k1, k2, k3, k4, k5⟩ := l_trace (X := X) (d := d) (w := w) (J := J) hL hE hs hoff hW hP hD hh 7 0 x (if D x = -1 then -1 else 0, -1, -1) (uS (uS (uS S 97 3 (-1)) 97 4 (-1)) 97 2 (if D x = -1 then -1 else 0)) (by omega) (by omega) hx hF3 (uS_self _ _ _ _) (by rw [uS_ne _ _ (Or.inr (by decide)), uS_ne _ _ (Or.inr (by decide))]; exact uS_self _ _ _ _) (by rw [uS_ne _ _ (Or.inr (by decide))]; exact uS_self _ _ _ _) (by show -1 ≤ (if D x = -1 then (-1 : Int) else 0) ∧ (if D x = -1 then (-1 : Int) else 0) + ((7 : Nat) : Int) ≤ 100; split <;> decide) (by show (-1 : Int) ≤ -1 ∧ (-1 : Int) ≤ 100; decide)
  refine ⟨S', ?_, k2, k3, k4, k5⟩
  have k1 := k1 9999999 (by omega)
  rw [go_X8_trace, e_X8_trace_0]
  by_cases q : D x = -1
  · rw [if_pos q] at k1
    simp (disch := omega) only [hk, hu, hI_n, hI_un, z_nat, em_d, zl, z_add, z_sub, z_mul, z_lt, z_eq, gI_mk, gJ_mk, cI_some, cV_some, cJ_some, cI_x, cV_x, cJ_x, uS_self, uS_ne, if_pos, if_neg, b01, b01n, ite_not, if_true, if_false, hLL, e99, q]
    exact k1
  · rw [if_neg q] at k1
    simp (disch := omega) only [hk, hu, hI_n, hI_un, z_nat, em_d, zl, z_add, z_sub, z_mul, z_lt, z_eq, gI_mk, gJ_mk, cI_some, cV_some, cJ_some, cI_x, cV_x, cJ_x, uS_self, uS_ne, if_pos, if_neg, b01, b01n, ite_not, if_true, if_false, hLL, e99]
    exact k1
end CWA
section CWB
variable {X : Nat × (Nat → Int32)} {d : Nat} {w : Bool × Bool × Bool} {S : Hp} {J : Nat → Nat → Int64} {nT nR nC : Int} {rd s : Int → Int} {cd : List (Int × Int)}
theorem c_way (hL : CL S (iL w.1) nT nR nC rd) (hE : Ends nT nR rd) (hs : CS nR nC S 8 s) (hv : Sc nR nC s) (hc : CW S (iW w.2.1) cd) {t o h p : Int} (ht : 0 ≤ t ∧ t < nT) (ho : 0 ≤ o ∧ o < nT) (hh : 0 ≤ h ∧ h ≤ 5600) (hp : 0 ≤ p ∧ p ≤ 2) : ∃ S', am_call X aP (d + 5) 117 [.ref 0, .int (zI t), .int (zI o), .int (zI h), .int (zI p)] (mkS w (hI S) J) = some (.inl (some (.int (zI (pick3 p (wayR rd s (plainZ cd rd) nR h (soonF rd s (plainZ cd rd) nT nR t h) o))))), (mkS w (hI S') J)) ∧ Fr (scD (iW w.2.1)) S S' := by
  obtain ⟨-, -, -, -, a5, a6, a7, -⟩ := id hL
  have hn := scD_n (iW w.2.1) (iW_c _) (iL w.1) (iL_c _)
  obtain ⟨S1, h1, h2⟩ := c_meas (X := X) (d := d) (w := w) (J := J) hL hc
  obtain ⟨S2, h3, h4, h5, -⟩ := c_sear (X := X) (d := d) (w := w) (J := J) hL hE hs hv h2 (t := t) (h := h) ht (by omega)
  have hL2 : CL S2 (iL w.1) nT nR nC rd := CL_fr hL h5.1 (fun i hi => hn.2.1 i (by omega))
  have hs2 : CS nR nC S2 (iS false) s := CS_fr (o := 8) hs h5.1 hn.1
  obtain ⟨S3, h6, h7, h8, h9, h10⟩ := c_trace (X := X) (d := d) (w := w) (J := J) (bs := false) hL2 hE hs2 (fun r r1 r2 => (Sc_w hv).1 r r1 r2) ⟨h5.2, fun t t1 t2 => h4 t t1 t2⟩ (PL_z cd rd nR) (soon_r cd hE a5 a7 ht) (x := o) (h := h) (by omega) (by omega)
  refine ⟨S3, ?_, Fr_tr h5.1 h10 (fun _ z => z) ?_⟩
  · rw [go_X9_way, e_X9_way_0]
    simp (disch := omega) only [hk, hu, hI_n, hI_un, z_nat, em_d, zl, z_add, z_sub, z_mul, z_lt, z_eq, gI_mk, gJ_mk, cI_some, cV_some, cJ_some, cI_x, cV_x, cJ_x, uS_self, uS_ne, if_pos, if_neg, b01, b01n, ite_not, if_true, if_false, c_town1 hL ht]
    rw [show 9999999 = 9999998 + 1 from rfl, e_X9_way_3]
    simp (disch := omega) only [hk, hu, hI_n, hI_un, z_nat, em_d, zl, z_add, z_sub, z_mul, z_lt, z_eq, gI_mk, gJ_mk, cI_some, cV_some, cJ_some, cI_x, cV_x, cJ_x, uS_self, uS_ne, if_pos, if_neg, b01, b01n, ite_not, if_true, if_false, c_town1 hL ho]
    rw [show 9999998 = 9999997 + 1 from rfl, e_X9_way_6]
    simp (disch := omega) only [hk, hu, hI_n, hI_un, z_nat, em_d, zl, z_add, z_sub, z_mul, z_lt, z_eq, gI_mk, gJ_mk, cI_some, cV_some, cJ_some, cI_x, cV_x, cJ_x, uS_self, uS_ne, if_pos, if_neg, b01, b01n, ite_not, if_true, if_false, c_within, c_req1]
    rw [show 9999997 = 9999996 + 1 from rfl, e_X9_way_21, h1]
    simp (disch := omega) only [hk, hu, hI_n, hI_un, z_nat, em_d, zl, z_add, z_sub, z_mul, z_lt, z_eq, gI_mk, gJ_mk, cI_some, cV_some, cJ_some, cI_x, cV_x, cJ_x, uS_self, uS_ne, if_pos, if_neg, b01, b01n, ite_not, if_true, if_false]
    rw [h3]
    simp (disch := omega) only [hk, hu, hI_n, hI_un, z_nat, em_d, zl, z_add, z_sub, z_mul, z_lt, z_eq, gI_mk, gJ_mk, cI_some, cV_some, cJ_some, cI_x, cV_x, cJ_x, uS_self, uS_ne, if_pos, if_neg, b01, b01n, ite_not, if_true, if_false]
    refine (congrArg (fun z => cV z _ _) h6).trans ?_
    unfold pick3
    have : p = 0 ∨ p = 1 ∨ p = 2 := by omega
    rcases this with rfl | rfl | rfl <;> simp (disch := omega) only [hk, hu, hI_n, hI_un, z_nat, em_d, zl, z_add, z_sub, z_mul, z_lt, z_eq, gI_mk, gJ_mk, cI_some, cV_some, cJ_some, cI_x, cV_x, cJ_x, uS_self, uS_ne, if_pos, if_neg, b01, b01n, ite_not, if_true, if_false, h7, h8, h9, rI_d]
  · intro o ho
    simp only [scD, List.mem_cons, List.not_mem_nil, or_false] at ho ⊢
    omega
end CWB
