/-! THE REFERENCE: numbers and words -/
/-- letters packed, five bits each -/
def pk5 (l : List Int) (v : Nat) : Nat := l.foldl (fun v c => v * 32 + (c - 96).toNat) v
theorem pk5_cons (c : Int) (l : List Int) (v : Nat) : pk5 (c :: l) v = pk5 l (v * 32 + (c - 96).toNat) := rfl
theorem pk5_snoc (l : List Int) (c : Int) (v : Nat) : pk5 (l ++ [c]) v = pk5 l v * 32 + (c - 96).toNat := by
  unfold pk5
  rw [List.foldl_append]
  rfl
theorem isL_r {c : Int} (h : isL c = true) : 97 ≤ c ∧ c ≤ 122 := by
  unfold isL at h
  simp only [Bool.and_eq_true, decide_eq_true_eq] at h
  exact h
theorem isD_r {c : Int} (h : isD c = true) : 48 ≤ c ∧ c ≤ 57 := by
  unfold isD at h
  simp only [Bool.and_eq_true, decide_eq_true_eq] at h
  exact h
theorem pk5_inj : ∀ (n : Nat) (a b : List Int), a.length = n → (∀ c ∈ a, isL c = true) → (∀ c ∈ b, isL c = true) → pk5 a 0 = pk5 b 0 → a = b := by
  intro n
  induction n with
  | zero =>
    intro a b h1 ha hb h
    have ea := List.eq_nil_of_length_eq_zero h1
    subst ea
    rcases List.eq_nil_or_concat b with e | ⟨l, c, e⟩
    · exact e.symm
    · rw [List.concat_eq_append] at e
      subst e
      have := isL_r (hb c (List.mem_append_right _ (List.mem_singleton.mpr rfl)))
      rw [pk5_snoc] at h
      have h0 : pk5 [] 0 = 0 := rfl
      omega
  | succ n ih =>
    intro a b h1 ha hb h
    rcases List.eq_nil_or_concat a with e | ⟨l, c, e⟩
    · subst e
      exact absurd h1 (Nat.succ_ne_zero n).symm
    · rw [List.concat_eq_append] at e
      subst e
      have hc := isL_r (ha c (List.mem_append_right _ (List.mem_singleton.mpr rfl)))
      rcases List.eq_nil_or_concat b with e | ⟨l2, c2, e⟩
      · subst e
        rw [pk5_snoc] at h
        have h0 : pk5 [] 0 = 0 := rfl
        omega
      · rw [List.concat_eq_append] at e
        subst e
        have hc2 := isL_r (hb c2 (List.mem_append_right _ (List.mem_singleton.mpr rfl)))
        rw [pk5_snoc, pk5_snoc] at h
        have e1 : c = c2 := by omega
        have e2 : pk5 l 0 = pk5 l2 0 := by omega
        rw [List.length_append] at h1
        have := ih l l2 (by have : [c].length = 1 := rfl; omega) (fun x hx => ha x (List.mem_append_left _ hx)) (fun x hx => hb x (List.mem_append_left _ hx)) e2
        rw [this, e1]
theorem pk5_lt : ∀ (l : List Int) (v n : Nat), (∀ c ∈ l, isL c = true) → v < 32 ^ n → pk5 l v < 32 ^ (n + l.length)
  | [], v, n, _, h => h
  | c :: l, v, n, hl, h => by
    have hc := isL_r (hl c List.mem_cons_self)
    have := pk5_lt l (v * 32 + (c - 96).toNat) (n + 1) (fun x hx => hl x (List.mem_cons_of_mem _ hx)) (by rw [Nat.pow_succ]; omega)
    rw [pk5_cons, List.length_cons, show n + (l.length + 1) = n + 1 + l.length by omega]
    exact this
/-- the word that stands at q, packed -/
def wV (B : Nat → Int) (e q : Nat) : Nat := if (wd B e q).length ≤ 6 then pk5 (wd B e q) 0 else 0
theorem wd_all (B : Nat → Int) (e p : Nat) : ∀ c ∈ wd B e p, isL c = true := fun c hc => by
  unfold wd at hc
  exact List.all_eq_true.mp List.all_takeWhile c hc
theorem sx_ok : ∀ k : Nat, k < 16 → (sx k).all isL = true ∧ (sx k).length ≤ 6 ∧ 1 ≤ (sx k).length := by decide +kernel
theorem wV_lt (B : Nat → Int) (e q : Nat) : wV B e q < 1073741824 := by
  unfold wV
  split
  · next h =>
    have := pk5_lt (wd B e q) 0 0 (wd_all B e q) (by decide)
    have h2 : 32 ^ (0 + (wd B e q).length) ≤ 32 ^ 6 := Nat.pow_le_pow_right (by decide) (by omega)
    have h3 : (32 : Nat) ^ 6 = 1073741824 := rfl
    omega
  · decide
theorem wV_eq {B : Nat → Int} {e q k : Nat} (hk9 : k < 16) : wV B e q = pk5 (sx k) 0 ↔ wd B e q = sx k := by
  obtain ⟨h1, h2, h3⟩ := sx_ok k hk9
  have h1 := List.all_eq_true.mp h1
  unfold wV
  by_cases h : (wd B e q).length ≤ 6
  · rw [if_pos h]
    exact ⟨fun z => pk5_inj _ _ _ rfl (wd_all B e q) h1 z, fun z => by rw [z]⟩
  · rw [if_neg h]
    refine ⟨fun z => ?_, fun z => absurd (by rw [z]; exact h2) h⟩
    have := pk5_inj 0 [] (sx k) rfl (fun c hc => absurd hc List.not_mem_nil) h1 z
    rw [← this] at h3
    exact absurd h3 (by decide)
theorem z_pk {v : Nat} {c : Int} (hv : v < 33554432) (hc : 97 ≤ c ∧ c ≤ 122) : (zI (v : Int) <<< (zI 5 &&& 31)) ||| zI (c - 96) = zI ((v * 32 + (c - 96).toNat : Nat) : Int) := by
  have e1 : zI 5 = nI 5 := (z_nI 5).symm
  have e2 : (c - 96).toNat < 32 := by omega
  obtain ⟨x, hx⟩ : ∃ x : Nat, c - 96 = (x : Int) := ⟨(c - 96).toNat, by omega⟩
  have e3 : x < 2 ^ 5 := by omega
  rw [hx, Int.toNat_natCast]
  rw [e1, zn, zn, zn]
  refine b_ext (fun i hi => ?_)
  rw [b_or, b_shl 5 (by decide) _ hi, b_nat, b_nat, b_nat]
  have ex : v * 32 + x = 2 ^ 5 * v + x := by omega
  rw [ex, Nat.testBit_two_pow_mul_add _ e3]
  by_cases h : i < 5
  · rw [if_pos h, decide_eq_false (show ¬ 5 ≤ i by omega), decide_eq_true hi]
    simp
  · have hx5 : x.testBit i = false := Nat.testBit_lt_two_pow (Nat.lt_of_lt_of_le e3 (Nat.pow_le_pow_right (by decide) (by omega)))
    rw [if_neg h, decide_eq_true (show 5 ≤ i by omega), decide_eq_true hi, decide_eq_true (show i - 5 < 32 by omega), hx5]
    simp
section MNU
variable {X : Nat × (Nat → Int32)} {d : Nat} {w : Bool × Bool × Bool} {S : Hp} {J : Nat → Nat → Int64} {B : Nat → Int} {e p q : Nat}
/-- a row of digits: what stays of it -/
def nmM (v : Int) (ds : List Int) : Int := ds.foldl (fun v c => if 9999 < v then 10000 else 10 * v + c - 48) v
theorem nmM_cons (v c : Int) (ds : List Int) : nmM v (c :: ds) = nmM (if 9999 < v then 10000 else 10 * v + c - 48) ds := rfl
theorem nmM_big : ∀ (ds : List Int) (v u : Int), (∀ c ∈ ds, isD c = true) → 9999 < v → 9999 < u → 9999 < nmM v ds ∧ 9999 < nmS u ds
  | [], v, u, _, h1, h2 => ⟨h1, h2⟩
  | c :: ds, v, u, hd, h1, h2 => by
    have hc := isD_r (hd c List.mem_cons_self)
    rw [nmM_cons, nmS_cons, if_pos h1]
    exact nmM_big ds 10000 _ (fun x hx => hd x (List.mem_cons_of_mem _ hx)) (by decide) (by omega)
theorem nmM_eq : ∀ (ds : List Int) (v : Int), (∀ c ∈ ds, isD c = true) → 0 ≤ v → nmM v ds = nmS v ds ∨ (9999 < nmM v ds ∧ 9999 < nmS v ds)
  | [], v, _, _ => Or.inl rfl
  | c :: ds, v, hd, hv => by
    have hc := isD_r (hd c List.mem_cons_self)
    by_cases h : 9999 < v
    · exact Or.inr (nmM_big _ _ _ hd h h)
    · have := nmM_eq ds (10 * v + c - 48) (fun x hx => hd x (List.mem_cons_of_mem _ hx)) (by omega)
      rw [nmM_cons, nmS_cons, if_neg h, show v * 10 + (c - 48) = 10 * v + c - 48 by omega]
      exact this
theorem nmM_r : ∀ (ds : List Int) (v : Int), (∀ c ∈ ds, isD c = true) → 0 ≤ v → v ≤ 200000 → 0 ≤ nmM v ds ∧ nmM v ds ≤ 200000
  | [], v, _, h1, h2 => ⟨h1, h2⟩
  | c :: ds, v, hd, h1, h2 => by
    have hc := isD_r (hd c List.mem_cons_self)
    rw [nmM_cons]
    refine nmM_r ds _ (fun x hx => hd x (List.mem_cons_of_mem _ hx)) ?_ ?_ <;> split <;> omega
theorem ml_digits (hT : Tx S 134 B) (he : e ≤ 600) (h3 : S 132 3 = (e : Int)) {lo hi t : Int} : ∀ (j q : Nat) (v : Int), q + j = e → 0 ≤ v ∧ v ≤ 200000 → ∀ n, aR X (d + 1) m_X10_readNumber (n + j + 1) 23 [some (.ref 132), some (.int (zI lo)), some (.int (zI hi)), none, some (.int (zI t)), some (.int (zI v))] (0, 0) (mkS w (hI (uS S 132 4 (q : Int))) J) = aR X (d + 1) m_X10_readNumber (n + j + 1 - (numE B e q - q) - 1) 59 [some (.ref 132), some (.int (zI lo)), some (.int (zI hi)), none, some (.int (zI t)), some (.int (zI ((nmM v (dg B e q)))))] (0, 0) (mkS w (hI (uS S 132 4 (numE B e q : Nat))) J)
  | 0, q, v, h, hv, n => by
    have t3 : uS S 132 4 (q : Int) 132 3 = (e : Int) := (uS_ne _ _ (Or.inr (by decide))).trans h3
    have eg : dg B e q = [] := dg_stop B e q (fun z => absurd z (by omega))
    have ee : numE B e q = q := by
      unfold numE
      rw [eg]
      rfl
    rw [ee, eg, e_X10_readNumber_23]
    simp (disch := omega) only [hk, hu, hI_n, hI_un, z_nat, em_d, zl, z_add, z_sub, z_mul, z_lt, z_eq, gI_mk, gJ_mk, cI_some, cV_some, cJ_some, cI_x, cV_x, cJ_x, uS_self, uS_ne, if_pos, if_neg, b01, b01n, ite_not, if_true, if_false, Bool.false_eq_true, t3]
    rw [show n + 0 + 1 - (q - q) - 1 = n + 0 by omega]
    rfl
  | j + 1, q, v, h, hv, n => by
    have hb := hT.2 q (by omega)
    have t3 : uS S 132 4 (q : Int) 132 3 = (e : Int) := (uS_ne _ _ (Or.inr (by decide))).trans h3
    have tb : S 134 (q : Int) = B q := hT.1 q (by omega)
    have hd := fun d => m_isDigit (X := X) (d := d) (w := w) (J := J) hb (hI (uS S 132 4 (q : Int)))
    have eu : uS (uS S 132 4 (q : Int)) 132 4 ((q : Int) + 1) = uS S 132 4 ((q : Int) + 1) := by
      funext o k
      rw [uS_at, uS_at, uS_at]
      by_cases e : o = 132 ∧ k = 4
      · rw [if_pos e, if_pos e]
      · rw [if_neg e, if_neg e, if_neg e]
    rw [e_X10_readNumber_23]
    by_cases hc : isD (B q) = true
    · have hr := isD_r hc
      have ed := dg_cons B e q (by omega) hc
      have ee : numE B e q = numE B e (q + 1) := by
        unfold numE
        rw [ed, List.length_cons]
        omega
      have hge : q + 1 ≤ numE B e (q + 1) := Nat.le_add_right _ _
      rw [ed, nmM_cons, ee]
      simp (disch := omega) only [hk, hu, hI_n, hI_un, z_nat, em_d, zl, z_add, z_sub, z_mul, z_lt, z_eq, gI_mk, gJ_mk, cI_some, cV_some, cJ_some, cI_x, cV_x, cJ_x, uS_self, uS_ne, if_pos, if_neg, b01, b01n, ite_not, if_true, if_false, Bool.false_eq_true, t3, tb]
      rw [hd, if_pos hc]
      by_cases q9 : 9999 < v
      · have ih := ml_digits hT he h3 (lo := lo) (hi := hi) (t := t) j (q + 1) 10000 (by omega) (by decide) n
        rw [show ((q + 1 : Nat) : Int) = (q : Int) + 1 by omega] at ih
        rw [if_pos q9, show n + (j + 1) + 1 - (numE B e (q + 1) - q) - 1 = n + j + 1 - (numE B e (q + 1) - (q + 1)) - 1 by omega]
        simp (disch := omega) only [hk, hu, hI_n, hI_un, z_nat, em_d, zl, z_add, z_sub, z_mul, z_lt, z_eq, gI_mk, gJ_mk, cI_some, cV_some, cJ_some, cI_x, cV_x, cJ_x, uS_self, uS_ne, if_pos, if_neg, b01, b01n, ite_not, if_true, if_false, Bool.false_eq_true, eu]
        exact ih
      · have ih := ml_digits hT he h3 (lo := lo) (hi := hi) (t := t) j (q + 1) (10 * v + B q - 48) (by omega) (by omega) n
        rw [show ((q + 1 : Nat) : Int) = (q : Int) + 1 by omega] at ih
        rw [if_neg q9, show n + (j + 1) + 1 - (numE B e (q + 1) - q) - 1 = n + j + 1 - (numE B e (q + 1) - (q + 1)) - 1 by omega]
        simp (disch := omega) only [hk, hu, hI_n, hI_un, z_nat, em_d, zl, z_add, z_sub, z_mul, z_lt, z_eq, gI_mk, gJ_mk, cI_some, cV_some, cJ_some, cI_x, cV_x, cJ_x, uS_self, uS_ne, if_pos, if_neg, b01, b01n, ite_not, if_true, if_false, Bool.false_eq_true, tb, eu]
        exact ih
    · have eg : dg B e q = [] := dg_stop B e q (fun _ => hc)
      have ee : numE B e q = q := by
        unfold numE
        rw [eg]
        rfl
      rw [ee, eg]
      simp (disch := omega) only [hk, hu, hI_n, hI_un, z_nat, em_d, zl, z_add, z_sub, z_mul, z_lt, z_eq, gI_mk, gJ_mk, cI_some, cV_some, cJ_some, cI_x, cV_x, cJ_x, uS_self, uS_ne, if_pos, if_neg, b01, b01n, ite_not, if_true, if_false, Bool.false_eq_true, t3, tb]
      rw [hd, if_neg hc]
      simp (disch := omega) only [hk, hu, hI_n, hI_un, z_nat, em_d, zl, z_add, z_sub, z_mul, z_lt, z_eq, gI_mk, gJ_mk, cI_some, cV_some, cJ_some, cI_x, cV_x, cJ_x, uS_self, uS_ne, if_pos, if_neg, b01, b01n, ite_not, if_true, if_false, Bool.false_eq_true]
      rw [show n + (j + 1) + 1 - (q - q) - 1 = n + (j + 1) by omega]
      rfl
theorem M_num1 (w : Bool × Bool × Bool) (J : Nat → Nat → Int64) (h : Mp S B e p) (hq : sk B e p = q) {lo hi : Int} (hlo : -1 ≤ lo ∧ lo < 9999) (hhi : -1 ≤ hi ∧ hi < 9999) (hn : numK B e q lo hi = 0) : ∃ S', (∀ d, am_call X aP (d + 2) 165 [.ref 132, .int (zI lo), .int (zI hi)] (mkS w (hI S) J) = some (.inl (some (.int (zI (numV B e q)))), (mkS w (hI S') J))) ∧ Mp S' B e (numE B e q) ∧ FM S S' := by
  obtain ⟨S1, h1, h2, h3⟩ := M_here (X := X) w J h
  rw [hq] at h1 h2
  obtain ⟨a1, a3, a4, a5, a6, a7⟩ := id h2
  obtain ⟨g1, g2, g3⟩ := numK_0 hn
  have hbr := bt0_r (q := q) a1 a4
  have hbd := bt0_d.mpr g1
  have hid := fun d => m_isDigit (X := X) (d := d) (w := w) (J := J) hbr (hI S1)
  have ev : nmM 0 (dg B e q) = numV B e q := by
    rcases nmM_eq (dg B e q) 0 (dg_all B e q) (by decide) with z | z
    · exact z
    · have z2 : 9999 < numV B e q := z.2
      omega
  have hle := dg_len B e q a5
  refine ⟨uS S1 132 4 (numE B e q : Nat), fun d => ?_, Mp_t h2 (FM_u _ _ (by decide)) (uS_self _ _ _ _) ((uS_ne _ _ (Or.inr (by decide))).trans a7) hle, FM_tr h3 (FM_u _ _ (by decide))⟩
  have hl := ml_digits (X := X) (d := d) (w := w) (J := J) a1 a4 a3 (lo := lo) (hi := hi) (t := (q : Int)) (e - q) q 0 (by omega) (by decide) (9999998 - (e - q))
  rw [uS_same S1 a6, ev] at hl
  rw [go_X10_readNumber, e_X10_readNumber_0, M_fine1 h]
  simp (disch := omega) only [hk, hu, hI_n, hI_un, z_nat, em_d, zl, z_add, z_sub, z_mul, z_lt, z_eq, gI_mk, gJ_mk, cI_some, cV_some, cJ_some, cI_x, cV_x, cJ_x, uS_self, uS_ne, if_pos, if_neg, b01, b01n, ite_not, if_true, if_false, Bool.false_eq_true]
  rw [h1]
  simp (disch := omega) only [hk, hu, hI_n, hI_un, z_nat, em_d, zl, z_add, z_sub, z_mul, z_lt, z_eq, gI_mk, gJ_mk, cI_some, cV_some, cJ_some, cI_x, cV_x, cJ_x, uS_self, uS_ne, if_pos, if_neg, b01, b01n, ite_not, if_true, if_false, Bool.false_eq_true]
  rw [hid, if_pos hbd]
  simp (disch := omega) only [hk, hu, hI_n, hI_un, z_nat, em_d, zl, z_add, z_sub, z_mul, z_lt, z_eq, gI_mk, gJ_mk, cI_some, cV_some, cJ_some, cI_x, cV_x, cJ_x, uS_self, uS_ne, if_pos, if_neg, b01, b01n, ite_not, if_true, if_false, Bool.false_eq_true, a6]
  rw [show 9999999 = 9999998 - (e - q) + (e - q) + 1 by omega]
  refine hl.trans ?_
  rw [show 9999998 - (e - q) + (e - q) + 1 - (numE B e q - q) - 1 = (9999997 - (numE B e q - q)) + 1 by unfold numE; omega, e_X10_readNumber_59]
  simp (disch := omega) only [hk, hu, hI_n, hI_un, z_nat, em_d, zl, z_add, z_sub, z_mul, z_lt, z_eq, gI_mk, gJ_mk, cI_some, cV_some, cJ_some, cI_x, cV_x, cJ_x, uS_self, uS_ne, if_pos, if_neg, b01, b01n, ite_not, if_true, if_false, Bool.false_eq_true, rI_d]
theorem M_num0 (w : Bool × Bool × Bool) (J : Nat → Nat → Int64) (h : Mp S B e p) (hq : sk B e p = q) {lo hi : Int} (hlo : -1 ≤ lo ∧ lo < 9999) (hhi : -1 ≤ hi ∧ hi < 9999) (hn : ¬ numK B e q lo hi = 0) : ∃ S', (∀ d, am_call X aP (d + 2) 165 [.ref 132, .int (zI lo), .int (zI hi)] (mkS w (hI S) J) = some (.inl (some (.int (zI 0))), (mkS w (hI S') J))) ∧ Bd S' (numK B e q lo hi) (q : Int) ∧ FM S S' := by
  obtain ⟨S1, h1, h2, h3⟩ := M_here (X := X) w J h
  rw [hq] at h1 h2
  obtain ⟨a1, a3, a4, a5, a6, a7⟩ := id h2
  have hbr := bt0_r (q := q) a1 a4
  have hid := fun d => m_isDigit (X := X) (d := d) (w := w) (J := J) hbr (hI S1)
  by_cases q1 : q < e ∧ isD (B q) = true
  · have q2 : ¬ (lo ≤ numV B e q ∧ numV B e q ≤ hi) := fun z => hn (by unfold numK; rw [if_pos q1, if_pos z])
    have ek : numK B e q lo hi = 2 := by
      unfold numK
      rw [if_pos q1, if_neg q2]
    have hbd := bt0_d.mpr q1
    have q3 : ¬ (lo ≤ nmM 0 (dg B e q) ∧ nmM 0 (dg B e q) ≤ hi) := by
      rcases nmM_eq (dg B e q) 0 (dg_all B e q) (by decide) with z | z
      · rw [z]
        exact q2
      · have := z.1
        omega
    have hvr := nmM_r (dg B e q) 0 (dg_all B e q) (by decide) (by decide)
    have hle := dg_len B e q a5
    have hM3 : Mp (uS S1 132 4 (numE B e q : Nat)) B e (numE B e q) := Mp_t h2 (FM_u _ _ (by decide)) (uS_self _ _ _ _) ((uS_ne _ _ (Or.inr (by decide))).trans a7) hle
    obtain ⟨S2, h4, h5, -, h6⟩ := M_wrong1 (X := X) w J hM3 2 (q : Int) (by omega)
    refine ⟨S2, fun d => ?_, by rw [ek]; exact h5, FM_tr h3 (FM_tr (FM_u _ _ (by decide)) h6)⟩
    have hl := ml_digits (X := X) (d := d) (w := w) (J := J) a1 a4 a3 (lo := lo) (hi := hi) (t := (q : Int)) (e - q) q 0 (by omega) (by decide) (9999998 - (e - q))
    rw [uS_same S1 a6] at hl
    rw [go_X10_readNumber, e_X10_readNumber_0, M_fine1 h]
    simp (disch := omega) only [hk, hu, hI_n, hI_un, z_nat, em_d, zl, z_add, z_sub, z_mul, z_lt, z_eq, gI_mk, gJ_mk, cI_some, cV_some, cJ_some, cI_x, cV_x, cJ_x, uS_self, uS_ne, if_pos, if_neg, b01, b01n, ite_not, if_true, if_false, Bool.false_eq_true]
    rw [h1]
    simp (disch := omega) only [hk, hu, hI_n, hI_un, z_nat, em_d, zl, z_add, z_sub, z_mul, z_lt, z_eq, gI_mk, gJ_mk, cI_some, cV_some, cJ_some, cI_x, cV_x, cJ_x, uS_self, uS_ne, if_pos, if_neg, b01, b01n, ite_not, if_true, if_false, Bool.false_eq_true]
    rw [hid, if_pos hbd]
    simp (disch := omega) only [hk, hu, hI_n, hI_un, z_nat, em_d, zl, z_add, z_sub, z_mul, z_lt, z_eq, gI_mk, gJ_mk, cI_some, cV_some, cJ_some, cI_x, cV_x, cJ_x, uS_self, uS_ne, if_pos, if_neg, b01, b01n, ite_not, if_true, if_false, Bool.false_eq_true, a6]
    rw [show 9999999 = 9999998 - (e - q) + (e - q) + 1 by omega]
    refine hl.trans ?_
    rw [show 9999998 - (e - q) + (e - q) + 1 - (numE B e q - q) - 1 = (9999996 - (numE B e q - q)) + 1 + 1 by unfold numE; omega, e_X10_readNumber_59]
    have fin : ∀ n, aR X (d + 1) m_X10_readNumber (n + 1) 65 [some (.ref 132), none, none, none, some (.int (zI ((q : Int)))), none] (0, 0) (mkS w (hI (uS S1 132 4 (numE B e q : Nat))) J) = some (.inl (some (.int (zI 0))), (mkS w (hI S2) J)) := by
      intro n
      rw [e_X10_readNumber_65]
      simp (disch := omega) only [hk, hu, hI_n, hI_un, z_nat, em_d, zl, z_add, z_sub, z_mul, z_lt, z_eq, gI_mk, gJ_mk, cI_some, cV_some, cJ_some, cI_x, cV_x, cJ_x, uS_self, uS_ne, if_pos, if_neg, b01, b01n, ite_not, if_true, if_false, Bool.false_eq_true]
      rw [h4]
      simp (disch := omega) only [hk, hu, hI_n, hI_un, z_nat, em_d, zl, z_add, z_sub, z_mul, z_lt, z_eq, gI_mk, gJ_mk, cI_some, cV_some, cJ_some, cI_x, cV_x, cJ_x, uS_self, uS_ne, if_pos, if_neg, b01, b01n, ite_not, if_true, if_false, Bool.false_eq_true, rI_d]
    by_cases q4 : nmM 0 (dg B e q) < lo
    · simp (disch := omega) only [hk, hu, hI_n, hI_un, z_nat, em_d, zl, z_add, z_sub, z_mul, z_lt, z_eq, gI_mk, gJ_mk, cI_some, cV_some, cJ_some, cI_x, cV_x, cJ_x, uS_self, uS_ne, if_pos, if_neg, b01, b01n, ite_not, if_true, if_false, Bool.false_eq_true]
      exact fin _
    · simp (disch := omega) only [hk, hu, hI_n, hI_un, z_nat, em_d, zl, z_add, z_sub, z_mul, z_lt, z_eq, gI_mk, gJ_mk, cI_some, cV_some, cJ_some, cI_x, cV_x, cJ_x, uS_self, uS_ne, if_pos, if_neg, b01, b01n, ite_not, if_true, if_false, Bool.false_eq_true]
      exact fin _
  · have ek : numK B e q lo hi = 1 := by
      unfold numK
      rw [if_neg q1]
    obtain ⟨S2, h4, h5, -, h6⟩ := M_wrong1 (X := X) w J h2 1 (q : Int) (by omega)
    refine ⟨S2, fun d => ?_, by rw [ek]; exact h5, FM_tr h3 h6⟩
    rw [go_X10_readNumber, e_X10_readNumber_0, M_fine1 h]
    simp (disch := omega) only [hk, hu, hI_n, hI_un, z_nat, em_d, zl, z_add, z_sub, z_mul, z_lt, z_eq, gI_mk, gJ_mk, cI_some, cV_some, cJ_some, cI_x, cV_x, cJ_x, uS_self, uS_ne, if_pos, if_neg, b01, b01n, ite_not, if_true, if_false, Bool.false_eq_true]
    rw [h1]
    simp (disch := omega) only [hk, hu, hI_n, hI_un, z_nat, em_d, zl, z_add, z_sub, z_mul, z_lt, z_eq, gI_mk, gJ_mk, cI_some, cV_some, cJ_some, cI_x, cV_x, cJ_x, uS_self, uS_ne, if_pos, if_neg, b01, b01n, ite_not, if_true, if_false, Bool.false_eq_true]
    rw [hid, if_neg (fun z => q1 (bt0_d.mp z))]
    simp (disch := omega) only [hk, hu, hI_n, hI_un, z_nat, em_d, zl, z_add, z_sub, z_mul, z_lt, z_eq, gI_mk, gJ_mk, cI_some, cV_some, cJ_some, cI_x, cV_x, cJ_x, uS_self, uS_ne, if_pos, if_neg, b01, b01n, ite_not, if_true, if_false, Bool.false_eq_true, a6]
    rw [h4]
    simp (disch := omega) only [hk, hu, hI_n, hI_un, z_nat, em_d, zl, z_add, z_sub, z_mul, z_lt, z_eq, gI_mk, gJ_mk, cI_some, cV_some, cJ_some, cI_x, cV_x, cJ_x, uS_self, uS_ne, if_pos, if_neg, b01, b01n, ite_not, if_true, if_false, Bool.false_eq_true, rI_d]
theorem M_numB {k pl lo hi : Int} (h : Bd S k pl) : am_call X aP (d + 2) 165 [.ref 132, .int (zI lo), .int (zI hi)] (mkS w (hI S) J) = some (.inl (some (.int (zI 0))), (mkS w (hI S) J)) := by
  rw [go_X10_readNumber, e_X10_readNumber_0, M_fine0 h]
  simp (disch := omega) only [hk, hu, hI_n, hI_un, z_nat, em_d, zl, z_add, z_sub, z_mul, z_lt, z_eq, gI_mk, gJ_mk, cI_some, cV_some, cJ_some, cI_x, cV_x, cJ_x, uS_self, uS_ne, if_pos, if_neg, b01, b01n, ite_not, if_true, if_false, Bool.false_eq_true, rI_d]
end MNU
