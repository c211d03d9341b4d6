/-! THE REFERENCE'S WORDS; both sides' beginnings -/
section WDS
variable {X : Nat × (Nat → Int32)} {d : Nat} {w : Bool × Bool × Bool} {S : Hp} {J : Nat → Nat → Int64} {B : Nat → Int} {e p q : Nat}
theorem ml_word (hT : Tx S 134 B) (he : e ≤ 600) (h3 : S 132 3 = (e : Int)) : ∀ (j k m v f : Nat), k + j = e → m ≤ k → (m ≤ 6 → v < 32 ^ m) → aR X (d + 1) m_X10_word (f + j + 2) 10 [some (.ref 132), some (.int (zI ((v : Int)))), some (.int (zI ((m : Int)))), some (.int (zI ((k : Int))))] (0, 0) (mkS w (hI S) J) = some (.inl (some (.int (zI (((if m + (wd B e k).length ≤ 6 then pk5 (wd B e k) v else 0 : Nat) : Int))))), (mkS w (hI S) J))
  | 0, k, m, v, f, h, hm, hv => by
    rw [wd_stop B e k (fun z => absurd z (by omega)), e_X10_word_10]
    simp (disch := omega) only [hk, hu, hI_n, hI_un, z_nat, em_d, zl, z_add, z_sub, z_mul, z_lt, z_eq, gI_mk, gJ_mk, cI_some, cV_some, cJ_some, cI_x, cV_x, cJ_x, uS_self, uS_ne, if_pos, if_neg, b01, b01n, ite_not, if_true, if_false, Bool.false_eq_true, h3]
    rw [e_X10_word_39]
    by_cases q6 : m ≤ 6
    · rw [if_pos (show m + ([] : List Int).length ≤ 6 from q6)]
      simp (disch := omega) only [hk, hu, hI_n, hI_un, z_nat, em_d, zl, z_add, z_sub, z_mul, z_lt, z_eq, gI_mk, gJ_mk, cI_some, cV_some, cJ_some, cI_x, cV_x, cJ_x, uS_self, uS_ne, if_pos, if_neg, b01, b01n, ite_not, if_true, if_false, Bool.false_eq_true, rI_d]
      rfl
    · rw [if_neg (show ¬ m + ([] : List Int).length ≤ 6 from q6)]
      simp (disch := omega) only [hk, hu, hI_n, hI_un, z_nat, em_d, zl, z_add, z_sub, z_mul, z_lt, z_eq, gI_mk, gJ_mk, cI_some, cV_some, cJ_some, cI_x, cV_x, cJ_x, uS_self, uS_ne, if_pos, if_neg, b01, b01n, ite_not, if_true, if_false, Bool.false_eq_true, rI_d]
      rfl
  | j + 1, k, m, v, f, h, hm, hv => by
    have hb := hT.2 k (by omega)
    have tb : S 134 (k : Int) = B k := hT.1 k (by omega)
    have hd := fun d => m_isSmall (X := X) (d := d) (w := w) (J := J) hb (hI S)
    rw [show f + (j + 1) + 2 = (f + j + 2) + 1 by omega, e_X10_word_10]
    by_cases hc : isL (B k) = true
    · have hr := isL_r hc
      rw [wd_cons B e k (by omega) hc]
      simp (disch := omega) only [hk, hu, hI_n, hI_un, z_nat, em_d, zl, z_add, z_sub, z_mul, z_lt, z_eq, gI_mk, gJ_mk, cI_some, cV_some, cJ_some, cI_x, cV_x, cJ_x, uS_self, uS_ne, if_pos, if_neg, b01, b01n, ite_not, if_true, if_false, Bool.false_eq_true, h3, tb]
      rw [hd, if_pos hc]
      by_cases q6 : m < 6
      · have hv := hv (by omega)
        have hv5 : 32 ^ m ≤ 32 ^ 5 := Nat.pow_le_pow_right (by decide) (by omega)
        have ih := ml_word hT he h3 j (k + 1) (m + 1) (v * 32 + (B k - 96).toNat) f (by omega) (by omega) (fun _ => by rw [Nat.pow_succ]; omega)
        have ep := z_pk (v := v) (c := B k) (by omega) hr
        rw [show ((k + 1 : Nat) : Int) = (k : Int) + 1 by omega, show ((m + 1 : Nat) : Int) = (m : Int) + 1 by omega] at ih
        rw [show (if m + (B k :: wd B e (k + 1)).length ≤ 6 then pk5 (B k :: wd B e (k + 1)) v else 0) = (if m + 1 + (wd B e (k + 1)).length ≤ 6 then pk5 (wd B e (k + 1)) (v * 32 + (B k - 96).toNat) else 0) by rw [List.length_cons, pk5_cons, show m + ((wd B e (k + 1)).length + 1) = m + 1 + (wd B e (k + 1)).length by omega]]
        simp (disch := omega) only [hk, hu, hI_n, hI_un, z_nat, em_d, zl, z_add, z_sub, z_mul, z_lt, z_eq, gI_mk, gJ_mk, cI_some, cV_some, cJ_some, cI_x, cV_x, cJ_x, uS_self, uS_ne, if_pos, if_neg, b01, b01n, ite_not, if_true, if_false, Bool.false_eq_true, tb, ep]
        exact ih
      · have ih := ml_word hT he h3 j (k + 1) (m + 1) 0 f (by omega) (by omega) (fun z => absurd z (by omega))
        rw [show ((k + 1 : Nat) : Int) = (k : Int) + 1 by omega, show ((m + 1 : Nat) : Int) = (m : Int) + 1 by omega, if_neg (by omega), show ((0 : Nat) : Int) = 0 from rfl] at ih
        rw [if_neg (by rw [List.length_cons]; omega)]
        simp (disch := omega) only [hk, hu, hI_n, hI_un, z_nat, em_d, zl, z_add, z_sub, z_mul, z_lt, z_eq, gI_mk, gJ_mk, cI_some, cV_some, cJ_some, cI_x, cV_x, cJ_x, uS_self, uS_ne, if_pos, if_neg, b01, b01n, ite_not, if_true, if_false, Bool.false_eq_true, tb]
        exact ih
    · rw [wd_stop B e k (fun _ => hc)]
      simp (disch := omega) only [hk, hu, hI_n, hI_un, z_nat, em_d, zl, z_add, z_sub, z_mul, z_lt, z_eq, gI_mk, gJ_mk, cI_some, cV_some, cJ_some, cI_x, cV_x, cJ_x, uS_self, uS_ne, if_pos, if_neg, b01, b01n, ite_not, if_true, if_false, Bool.false_eq_true, h3, tb]
      rw [hd, if_neg hc]
      simp (disch := omega) only [hk, hu, hI_n, hI_un, z_nat, em_d, zl, z_add, z_sub, z_mul, z_lt, z_eq, gI_mk, gJ_mk, cI_some, cV_some, cJ_some, cI_x, cV_x, cJ_x, uS_self, uS_ne, if_pos, if_neg, b01, b01n, ite_not, if_true, if_false, Bool.false_eq_true]
      rw [show f + j + 2 = (f + j + 1) + 1 by omega, e_X10_word_39]
      by_cases q6 : m ≤ 6
      · rw [if_pos (show m + ([] : List Int).length ≤ 6 from q6)]
        simp (disch := omega) only [hk, hu, hI_n, hI_un, z_nat, em_d, zl, z_add, z_sub, z_mul, z_lt, z_eq, gI_mk, gJ_mk, cI_some, cV_some, cJ_some, cI_x, cV_x, cJ_x, uS_self, uS_ne, if_pos, if_neg, b01, b01n, ite_not, if_true, if_false, Bool.false_eq_true, rI_d]
        rfl
      · rw [if_neg (show ¬ m + ([] : List Int).length ≤ 6 from q6)]
        simp (disch := omega) only [hk, hu, hI_n, hI_un, z_nat, em_d, zl, z_add, z_sub, z_mul, z_lt, z_eq, gI_mk, gJ_mk, cI_some, cV_some, cJ_some, cI_x, cV_x, cJ_x, uS_self, uS_ne, if_pos, if_neg, b01, b01n, ite_not, if_true, if_false, Bool.false_eq_true, rI_d]
        rfl
theorem M_word (w : Bool × Bool × Bool) (J : Nat → Nat → Int64) (h : Mp S B e p) (hq : sk B e p = q) : ∃ S', (∀ d, am_call X aP (d + 2) 162 [.ref 132] (mkS w (hI S) J) = some (.inl (some (.int (zI ((wV B e q : Nat))))), (mkS w (hI S') J))) ∧ Mp S' B e q ∧ FM S S' := by
  obtain ⟨S1, h1, h2, h3⟩ := M_here (X := X) w J h
  rw [hq] at h1 h2
  obtain ⟨a1, a3, a4, a5, a6, a7⟩ := id h2
  refine ⟨S1, fun d => ?_, h2, h3⟩
  have hl := ml_word (X := X) (d := d) (w := w) (J := J) a1 a4 a3 (e - q) q 0 0 (9999999 - (e - q) - 2) (by omega) (by omega) (fun _ => by decide)
  rw [show 9999999 - (e - q) - 2 + (e - q) + 2 = 9999999 by omega, Nat.zero_add, show ((0 : Nat) : Int) = 0 from rfl] at hl
  rw [go_X10_word, e_X10_word_0, h1]
  simp (disch := omega) only [hk, hu, hI_n, hI_un, z_nat, em_d, zl, z_add, z_sub, z_mul, z_lt, z_eq, gI_mk, gJ_mk, cI_some, cV_some, cJ_some, cI_x, cV_x, cJ_x, uS_self, uS_ne, if_pos, if_neg, b01, b01n, ite_not, if_true, if_false, Bool.false_eq_true, a6]
  exact hl
theorem M_wordN (h : Mp S B e q) (hq : sk B e q = q) : am_call X aP (d + 2) 162 [.ref 132] (mkS w (hI S) J) = some (.inl (some (.int (zI ((wV B e q : Nat))))), (mkS w (hI S) J)) := by
  have h1 := fun d => M_hereN (X := X) (d := d) (w := w) (J := J) h hq
  obtain ⟨a1, a3, a4, a5, a6, a7⟩ := id h
  have hl := ml_word (X := X) (d := d) (w := w) (J := J) a1 a4 a3 (e - q) q 0 0 (9999999 - (e - q) - 2) (by omega) (by omega) (fun _ => by decide)
  rw [show 9999999 - (e - q) - 2 + (e - q) + 2 = 9999999 by omega, Nat.zero_add, show ((0 : Nat) : Int) = 0 from rfl] at hl
  rw [go_X10_word, e_X10_word_0, h1]
  simp (disch := omega) only [hk, hu, hI_n, hI_un, z_nat, em_d, zl, z_add, z_sub, z_mul, z_lt, z_eq, gI_mk, gJ_mk, cI_some, cV_some, cJ_some, cI_x, cV_x, cJ_x, uS_self, uS_ne, if_pos, if_neg, b01, b01n, ite_not, if_true, if_false, Bool.false_eq_true, a6]
  exact hl
theorem M_of {k : Nat} (hk9 : k < 16) : am_call X aP (d + 2) 163 [.ref ((2000000 + k))] (mkS w (hI S) J) = some (.inl (some (.int (zI ((pk5 (sx k) 0 : Nat))))), (mkS w (hI S) J)) := by
  obtain ⟨g1, g2, g3⟩ := sx_ok k hk9
  have g1 := List.all_eq_true.mp g1
  have hlen : (sx k).length = (aStr k).length := by
    unfold sx
    rw [List.length_map]
  have hKK := KK_str (k := k) (by omega)
  have key : ∀ (j i v f : Nat), i + j = (aStr k).length → v < 32 ^ i → pk5 ((sx k).drop i) v = pk5 (sx k) 0 → aR X (d + 1) m_X10_of (f + j + 1) 4 [some (.ref ((2000000 + k))), some (.int (zI ((v : Int)))), some (.int (zI ((i : Int))))] (0, 0) (mkS w (hI S) J) = some (.inl (some (.int (zI ((pk5 (sx k) 0 : Nat))))), (mkS w (hI S) J)) := by
    intro j
    induction j with
    | zero =>
      intro i v f h1 h2 h3
      have hs := fun d => t_slen (X := X) (d := d) (k := k) (by omega) (mkS w (hI S) J)
      have hle : (aStr k).length ≤ 6 := by omega
      rw [List.drop_eq_nil_of_le (by omega)] at h3
      have h3 : v = pk5 (sx k) 0 := h3
      rw [e_X10_of_4, if_pos hKK, hs]
      simp (disch := omega) only [hk, hu, hI_n, hI_un, z_nat, em_d, zl, z_add, z_sub, z_mul, z_lt, z_eq, gI_mk, gJ_mk, cI_some, cV_some, cJ_some, cI_x, cV_x, cJ_x, uS_self, uS_ne, if_pos, if_neg, b01, b01n, ite_not, if_true, if_false, Bool.false_eq_true, rI_d]
      rw [h3]
    | succ j ih =>
      intro i v f h1 h2 h3
      have hs := fun d => t_slen (X := X) (d := d) (k := k) (by omega) (mkS w (hI S) J)
      have hch := fun d => t_schar (X := X) (d := d) (k := k) (j := i) (by omega) (by omega) (mkS w (hI S) J)
      have hi : i < (sx k).length := by omega
      have hi2 : i < (aStr k).length := by omega
      rw [List.drop_eq_getElem_cons hi, pk5_cons] at h3
      have eg : (sx k)[i] = ((aStr k).getD i 0 : Nat) := by
        have eq : (sx k)[i]? = some ((((aStr k).getD i 0 : Nat)) : Int) := by
          unfold sx
          rw [List.getElem?_map, List.getD_eq_getElem?_getD, List.getElem?_eq_getElem hi2]
          rfl
        rw [List.getElem?_eq_getElem hi] at eq
        exact Option.some.inj eq
      have hL : isL (sx k)[i] = true := g1 _ (List.getElem_mem hi)
      rw [eg] at h3 hL
      have hr := isL_r hL
      have h5 : 32 ^ i ≤ 32 ^ 5 := Nat.pow_le_pow_right (by decide) (by omega)
      have ep := z_pk (v := v) (c := ((aStr k).getD i 0 : Nat)) (by omega) hr
      have ih := ih (i + 1) (v * 32 + (((aStr k).getD i 0 : Nat) - 96 : Int).toNat) f (by omega) (by rw [Nat.pow_succ]; omega) h3
      rw [show ((i + 1 : Nat) : Int) = (i : Int) + 1 by omega] at ih
      have hle : (aStr k).length ≤ 6 := by omega
      rw [show f + (j + 1) + 1 = (f + j + 1) + 1 by omega, e_X10_of_4, if_pos hKK, hs]
      generalize (aStr k).getD i 0 = c at *
      simp (disch := omega) only [hk, hu, hI_n, hI_un, z_nat, em_d, zl, z_add, z_sub, z_mul, z_lt, z_eq, gI_mk, gJ_mk, cI_some, cV_some, cJ_some, cI_x, cV_x, cJ_x, uS_self, uS_ne, if_pos, if_neg, b01, b01n, ite_not, if_true, if_false, Bool.false_eq_true]
      rw [hch]
      simp (disch := omega) only [hk, hu, hI_n, hI_un, z_nat, em_d, zl, z_add, z_sub, z_mul, z_lt, z_eq, gI_mk, gJ_mk, cI_some, cV_some, cJ_some, cI_x, cV_x, cJ_x, uS_self, uS_ne, if_pos, if_neg, b01, b01n, ite_not, if_true, if_false, Bool.false_eq_true, ep]
      exact ih
  rw [go_X10_of, e_X10_of_0]
  have := key (aStr k).length 0 0 (9999999 - (aStr k).length - 1) (by omega) (by decide) (by rw [List.drop_zero])
  rw [show 9999999 - (aStr k).length - 1 + (aStr k).length + 1 = 9999999 by omega] at this
  exact this
theorem M_pass (w : Bool × Bool × Bool) (J : Nat → Nat → Int64) (h : Mp S B e q) : ∃ S', (∀ d, am_call X aP (d + 2) 164 [.ref 132] (mkS w (hI S) J) = some (.inl none, (mkS w (hI S') J))) ∧ Mp S' B e (q + (wd B e q).length) ∧ FM S S' := by
  obtain ⟨a1, a3, a4, a5, a6, a7⟩ := id h
  have key : ∀ (d j k f : Nat), k + j = e → aR X (d + 1) m_X10_pass (f + j + 1) 0 [some (.ref 132)] (0, 0) (mkS w (hI (uS S 132 4 (k : Int))) J) = some (.inl none, (mkS w (hI (uS S 132 4 (k + (wd B e k).length : Nat))) J)) := by
    intro d j
    induction j with
    | zero =>
      intro k f h1
      have t3 : uS S 132 4 (k : Int) 132 3 = (e : Int) := (uS_ne _ _ (Or.inr (by decide))).trans a3
      rw [wd_stop B e k (fun z => absurd z (by omega)), e_X10_pass_0]
      simp (disch := omega) only [hk, hu, hI_n, hI_un, z_nat, em_d, zl, z_add, z_sub, z_mul, z_lt, z_eq, gI_mk, gJ_mk, cI_some, cV_some, cJ_some, cI_x, cV_x, cJ_x, uS_self, uS_ne, if_pos, if_neg, b01, b01n, ite_not, if_true, if_false, Bool.false_eq_true, t3, a3, rV_d]
      rfl
    | succ j ih =>
      intro k f h1
      have hb := a1.2 k (by omega)
      have tb : S 134 (k : Int) = B k := a1.1 k (by omega)
      have t3 : uS S 132 4 (k : Int) 132 3 = (e : Int) := (uS_ne _ _ (Or.inr (by decide))).trans a3
      have hd := fun d => m_isSmall (X := X) (d := d) (w := w) (J := J) hb (hI (uS S 132 4 (k : Int)))
      have eu : uS (uS S 132 4 (k : Int)) 132 4 ((k : Int) + 1) = uS S 132 4 ((k : Int) + 1) := by
        funext o x
        rw [uS_at, uS_at, uS_at]
        by_cases e : o = 132 ∧ x = 4
        · rw [if_pos e, if_pos e]
        · rw [if_neg e, if_neg e, if_neg e]
      rw [show f + (j + 1) + 1 = (f + j + 1) + 1 by omega, e_X10_pass_0]
      by_cases hc : isL (B k) = true
      · have ih := ih (k + 1) f (by omega)
        rw [show ((k + 1 : Nat) : Int) = (k : Int) + 1 by omega] at ih
        rw [wd_cons B e k (by omega) hc, List.length_cons, show k + ((wd B e (k + 1)).length + 1) = k + 1 + (wd B e (k + 1)).length by omega]
        simp (disch := omega) only [hk, hu, hI_n, hI_un, z_nat, em_d, zl, z_add, z_sub, z_mul, z_lt, z_eq, gI_mk, gJ_mk, cI_some, cV_some, cJ_some, cI_x, cV_x, cJ_x, uS_self, uS_ne, if_pos, if_neg, b01, b01n, ite_not, if_true, if_false, Bool.false_eq_true, t3, a3, tb]
        rw [hd, if_pos hc]
        simp (disch := omega) only [hk, hu, hI_n, hI_un, z_nat, em_d, zl, z_add, z_sub, z_mul, z_lt, z_eq, gI_mk, gJ_mk, cI_some, cV_some, cJ_some, cI_x, cV_x, cJ_x, uS_self, uS_ne, if_pos, if_neg, b01, b01n, ite_not, if_true, if_false, Bool.false_eq_true, eu]
        exact ih
      · rw [wd_stop B e k (fun _ => hc)]
        simp (disch := omega) only [hk, hu, hI_n, hI_un, z_nat, em_d, zl, z_add, z_sub, z_mul, z_lt, z_eq, gI_mk, gJ_mk, cI_some, cV_some, cJ_some, cI_x, cV_x, cJ_x, uS_self, uS_ne, if_pos, if_neg, b01, b01n, ite_not, if_true, if_false, Bool.false_eq_true, t3, a3, tb]
        rw [hd, if_neg hc]
        simp (disch := omega) only [hk, hu, hI_n, hI_un, z_nat, em_d, zl, z_add, z_sub, z_mul, z_lt, z_eq, gI_mk, gJ_mk, cI_some, cV_some, cJ_some, cI_x, cV_x, cJ_x, uS_self, uS_ne, if_pos, if_neg, b01, b01n, ite_not, if_true, if_false, Bool.false_eq_true, rV_d]
        rfl
  have hle := wd_len B e q a5
  refine ⟨uS S 132 4 (q + (wd B e q).length : Nat), fun d => ?_, Mp_t h (FM_u _ _ (by decide)) (uS_self _ _ _ _) ((uS_ne _ _ (Or.inr (by decide))).trans a7) hle, FM_u _ _ (by decide)⟩
  have := key d (e - q) q (10000000 - (e - q) - 1) (by omega)
  rw [uS_same S a6, show 10000000 - (e - q) - 1 + (e - q) + 1 = 9999999 + 1 by omega] at this
  rw [go_X10_pass]
  exact this
/-- the class's tape is opened -/
theorem T_open (w : Bool × Bool × Bool) (J : Nat → Nat → Int64) (hT : Tx S 2 B) (he : e ≤ 600) : ∃ S', (∀ d, am_call X aP (d + 2) 80 [.ref 1, .int (zI ((e : Int)))] (mkS w (hI S) J) = some (.inl none, (mkS w (hI S') J))) ∧ Tp S' B e (sk B e 0) ∧ Fr [1] S S' ∧ S' 1 1 = 0 := by
  have hx : Txt (hI (uS (uS (uS (uS (uS S 1 1 0) 1 2 (e : Int)) 1 4 0) 1 6 0) 1 7 (-1))) B e := by
    refine ⟨fun k hk9 => ?_, hT.2, ?_, he⟩
    · rw [hI_at, uS_row _ _ _ (by decide), uS_row _ _ _ (by decide), uS_row _ _ _ (by decide), uS_row _ _ _ (by decide), uS_row _ _ _ (by decide), hT.1 k hk9]
    · rw [hI_at]
      congr 1
  refine ⟨tS (uS (uS (uS (uS (uS S 1 1 0) 1 2 (e : Int)) 1 4 0) 1 6 0) 1 7 (-1)) (sk B e 0) 0 (S 1 5) 0 (-1), fun d => ?_, ⟨⟨fun k hk9 => ?_, hT.2⟩, ?_, he, sk_le (Nat.zero_le _), tS_3 _ _ _ _ _ _⟩, fun o ho => ?_, ?_⟩
  · have hm := t_moveTo (X := X) (d := d) (w := w) (J := J) (p := S 1 3) (tok := 0) (val := S 1 5) (fk := 0) (fa := -1) hx (q := 0) (Nat.zero_le _)
    have e1 : tI (hI (uS (uS (uS (uS (uS S 1 1 0) 1 2 (e : Int)) 1 4 0) 1 6 0) 1 7 (-1))) (S 1 3) 0 (S 1 5) 0 (-1) = hI (uS (uS (uS (uS (uS S 1 1 0) 1 2 (e : Int)) 1 4 0) 1 6 0) 1 7 (-1)) := by
      rw [hI_tS]
      congr 1
      unfold tS
      rw [uS_same _ (show uS (uS (uS (uS (uS S 1 1 0) 1 2 (e : Int)) 1 4 0) 1 6 0) 1 7 (-1) 1 3 = S 1 3 by simp (disch := decide) only [uS_ne]), uS_same _ (show uS (uS (uS (uS (uS S 1 1 0) 1 2 (e : Int)) 1 4 0) 1 6 0) 1 7 (-1) 1 4 = 0 by simp (disch := decide) only [uS_ne, uS_self]), uS_same _ (show uS (uS (uS (uS (uS S 1 1 0) 1 2 (e : Int)) 1 4 0) 1 6 0) 1 7 (-1) 1 5 = S 1 5 by simp (disch := decide) only [uS_ne]), uS_same _ (show uS (uS (uS (uS (uS S 1 1 0) 1 2 (e : Int)) 1 4 0) 1 6 0) 1 7 (-1) 1 6 = 0 by simp (disch := decide) only [uS_ne, uS_self]), uS_same _ (show uS (uS (uS (uS (uS S 1 1 0) 1 2 (e : Int)) 1 4 0) 1 6 0) 1 7 (-1) 1 7 = -1 by simp (disch := decide) only [uS_self])]
    rw [e1, hI_tS] at hm
    rw [go_X7_open, e_X7_open_0]
    simp (disch := omega) only [hk, hu, hI_n, hI_un, z_nat, em_d, zl, z_add, z_sub, z_mul, z_lt, z_eq, gI_mk, gJ_mk, cI_some, cV_some, cJ_some, cI_x, cV_x, cJ_x, uS_self, uS_ne, if_pos, if_neg, b01, b01n, ite_not, if_true, if_false, Bool.false_eq_true]
    refine (congrArg (fun z => cV z _ _) hm).trans ?_
    simp (disch := omega) only [hk, hu, hI_n, hI_un, z_nat, em_d, zl, z_add, z_sub, z_mul, z_lt, z_eq, gI_mk, gJ_mk, cI_some, cV_some, cJ_some, cI_x, cV_x, cJ_x, uS_self, uS_ne, if_pos, if_neg, b01, b01n, ite_not, if_true, if_false, Bool.false_eq_true, rV_d]
  · rw [tS_r _ _ _ _ _ _ (by decide), uS_row _ _ _ (by decide), uS_row _ _ _ (by decide), uS_row _ _ _ (by decide), uS_row _ _ _ (by decide), uS_row _ _ _ (by decide), hT.1 k hk9]
  · rw [tS_k _ _ _ _ _ _ (by decide)]
    simp (disch := decide) only [uS_ne, uS_self]
  · have h1 : o ≠ 1 := fun z => ho (List.mem_singleton.mpr z)
    rw [tS_r _ _ _ _ _ _ h1, uS_row _ _ _ h1, uS_row _ _ _ h1, uS_row _ _ _ h1, uS_row _ _ _ h1, uS_row _ _ _ h1]
  · rw [tS_k _ _ _ _ _ _ (by decide)]
    simp (disch := decide) only [uS_ne, uS_self]
theorem c_openText1 (w : Bool × Bool × Bool) (J : Nat → Nat → Int64) (hT : Tx S 2 B) {sz n most : Int} (h1 : S 1 1 = sz) (hsz : 0 ≤ sz ∧ sz ≤ 600) (hm : 0 ≤ most ∧ most ≤ 600) (hn : 0 ≤ n ∧ n ≤ min sz most) : ∃ S', (∀ d, am_call X aP (d + 3) 150 [.ref 0, .int (zI n), .int (zI most)] (mkS w (hI S) J) = some (.inl none, (mkS w (hI S') J))) ∧ Tp S' B n.toNat (sk B n.toNat 0) ∧ Fr [0, 1] S S' ∧ S' 1 1 = 0 ∧ S' 0 12 = -1 ∧ ∀ k, k ≠ 12 → S' 0 k = S 0 k := by
  obtain ⟨n, rfl⟩ : ∃ m : Nat, n = (m : Int) := ⟨n.toNat, by omega⟩
  rw [Int.toNat_natCast]
  obtain ⟨S1, g1, g2, g3, g4⟩ := T_open (X := X) w J hT (e := n) (by omega)
  refine ⟨uS S1 0 12 (-1), fun d => ?_, Tp_o g2 (uS_row _ _ _ (by decide)) (uS_row _ _ _ (by decide)), Fr_tr g3 (Fr_u S1 (L := [0]) _ _ (by decide)) (by decide) (by decide), (uS_ne _ _ (Or.inl (by decide))).trans g4, uS_self _ _ _ _, fun k q => by rw [uS_ne _ _ (Or.inr q), g3 0 (by decide)]⟩
  rw [go_X9_openText, e_X9_openText_0]
  simp (disch := omega) only [hk, hu, hI_n, hI_un, z_nat, em_d, zl, z_add, z_sub, z_mul, z_lt, z_eq, gI_mk, gJ_mk, cI_some, cV_some, cJ_some, cI_x, cV_x, cJ_x, uS_self, uS_ne, if_pos, if_neg, b01, b01n, ite_not, if_true, if_false, Bool.false_eq_true, h1, c_min, c_within, c_req1]
  rw [show 9999999 = 9999998 + 1 from rfl, e_X9_openText_10, g1]
  simp (disch := omega) only [hk, hu, hI_n, hI_un, z_nat, em_d, zl, z_add, z_sub, z_mul, z_lt, z_eq, gI_mk, gJ_mk, cI_some, cV_some, cJ_some, cI_x, cV_x, cJ_x, uS_self, uS_ne, if_pos, if_neg, b01, b01n, ite_not, if_true, if_false, Bool.false_eq_true, rV_d]
theorem c_openText0 {sz n most : Int} (h1 : S 1 1 = sz) (hsz : 0 ≤ sz ∧ sz ≤ 600) (hm : 0 ≤ most ∧ most ≤ 600) (hb : -2147483648 ≤ n ∧ n < 2147483648) (hn : ¬ (0 ≤ n ∧ n ≤ min sz most)) : am_call X aP (d + 3) 150 [.ref 0, .int (zI n), .int (zI most)] (mkS w (hI S) J) = some (.inr 2, (mkS w (hI (xbS S)) J)) := by
  rw [go_X9_openText, e_X9_openText_0]
  simp (disch := omega) only [hk, hu, hI_n, hI_un, z_nat, em_d, zl, z_add, z_sub, z_mul, z_lt, z_eq, gI_mk, gJ_mk, cI_some, cV_some, cJ_some, cI_x, cV_x, cJ_x, uS_self, uS_ne, if_pos, if_neg, b01, b01n, ite_not, if_true, if_false, Bool.false_eq_true, h1, c_min, c_within, c_req0, rX_d]
theorem c_faulty {k pl : Int} (h6 : S 1 6 = k) (h7 : S 1 7 = pl) : am_call X aP (d + 1) 151 [.ref 0] (mkS w (hI S) J) = some (.inl (some (.int (zI (k - 10)))), (mkS w (hI (uS S 0 12 pl)) J)) := by
  rw [go_X9_faulty, e_X9_faulty_0]
  simp (disch := omega) only [hk, hu, hI_n, hI_un, z_nat, em_d, zl, z_add, z_sub, z_mul, z_lt, z_eq, gI_mk, gJ_mk, cI_some, cV_some, cJ_some, cI_x, cV_x, cJ_x, uS_self, uS_ne, if_pos, if_neg, b01, b01n, ite_not, if_true, if_false, Bool.false_eq_true, h6, h7, rI_d]
/-- the reference begins to read -/
theorem M_begins (w : Bool × Bool × Bool) (J : Nat → Nat → Int64) (hT : Tx S 134 B) (he : e ≤ 600) : ∃ S', (∀ d, am_call X aP (d + 1) 168 [.ref 132, .int (zI ((e : Int)))] (mkS w (hI S) J) = some (.inl none, (mkS w (hI S') J))) ∧ Mp S' B e 0 ∧ Fr [132] S S' ∧ S' 132 2 = 0 ∧ S' 132 7 = 0 ∧ ∀ k, k < 2 ∨ 8 < k ∨ k = 6 → S' 132 k = S 132 k := by
  refine ⟨uS (uS (uS (uS (uS (uS S 132 2 0) 132 8 (-1)) 132 3 (e : Int)) 132 4 0) 132 5 (-1)) 132 7 0, fun d => ?_, ⟨⟨fun k hk9 => ?_, hT.2⟩, ?_, he, Nat.zero_le _, ?_, ?_⟩, fun o ho => ?_, ?_, uS_self _ _ _ _, fun k q => ?_⟩
  · rw [go_X10_begins, e_X10_begins_0]
    simp (disch := omega) only [hk, hu, hI_n, hI_un, z_nat, em_d, zl, z_add, z_sub, z_mul, z_lt, z_eq, gI_mk, gJ_mk, cI_some, cV_some, cJ_some, cI_x, cV_x, cJ_x, uS_self, uS_ne, if_pos, if_neg, b01, b01n, ite_not, if_true, if_false, Bool.false_eq_true, rV_d]
  · rw [uS_row _ _ _ (by decide), uS_row _ _ _ (by decide), uS_row _ _ _ (by decide), uS_row _ _ _ (by decide), uS_row _ _ _ (by decide), uS_row _ _ _ (by decide)]
    exact hT.1 k hk9
  · simp (disch := decide) only [uS_ne, uS_self]
  · simp (disch := decide) only [uS_ne, uS_self]
    rfl
  · simp (disch := decide) only [uS_ne, uS_self]
  · have h1 : o ≠ 132 := fun z => ho (List.mem_singleton.mpr z)
    rw [uS_row _ _ _ h1, uS_row _ _ _ h1, uS_row _ _ _ h1, uS_row _ _ _ h1, uS_row _ _ _ h1, uS_row _ _ _ h1]
  · simp (disch := decide) only [uS_ne, uS_self]
  · rw [uS_ne _ _ (Or.inr (by omega)), uS_ne _ _ (Or.inr (by omega)), uS_ne _ _ (Or.inr (by omega)), uS_ne _ _ (Or.inr (by omega)), uS_ne _ _ (Or.inr (by omega)), uS_ne _ _ (Or.inr (by omega))]
theorem M_result1 (h : Mp S B e p) {x : Int} : am_call X aP (d + 2) 169 [.ref 132, .int (zI x)] (mkS w (hI S) J) = some (.inl (some (.int (zI x))), (mkS w (hI (uS S 132 8 (-1))) J)) := by
  have h5 := h.2.2.2.2.2
  have hf := fun d => M_fine1 (X := X) (d := d) (w := w) (J := J) (Mp_o (S' := uS S 132 8 (-1)) h (fun k k1 k2 => uS_ne _ _ (Or.inr (by omega))) (uS_row _ _ _ (by decide)))
  rw [go_X10_result, e_X10_result_0]
  simp (disch := omega) only [hk, hu, hI_n, hI_un, z_nat, em_d, zl, z_add, z_sub, z_mul, z_lt, z_eq, gI_mk, gJ_mk, cI_some, cV_some, cJ_some, cI_x, cV_x, cJ_x, uS_self, uS_ne, if_pos, if_neg, b01, b01n, ite_not, if_true, if_false, Bool.false_eq_true, h5]
  rw [hf]
  simp (disch := omega) only [hk, hu, hI_n, hI_un, z_nat, em_d, zl, z_add, z_sub, z_mul, z_lt, z_eq, gI_mk, gJ_mk, cI_some, cV_some, cJ_some, cI_x, cV_x, cJ_x, uS_self, uS_ne, if_pos, if_neg, b01, b01n, ite_not, if_true, if_false, Bool.false_eq_true, rI_d]
theorem M_result0 {k pl : Int} (h : Bd S k pl) {x : Int} : am_call X aP (d + 2) 169 [.ref 132, .int (zI x)] (mkS w (hI S) J) = some (.inl (some (.int (zI (k - 10)))), (mkS w (hI (uS S 132 8 pl)) J)) := by
  have hf := fun d => M_fine0 (X := X) (d := d) (w := w) (J := J) (Bd_o (S' := uS S 132 8 pl) h (uS_ne _ _ (Or.inr (by decide))) (uS_ne _ _ (Or.inr (by decide))))
  obtain ⟨h1, h5, h6⟩ := id h
  rw [go_X10_result, e_X10_result_0]
  simp (disch := omega) only [hk, hu, hI_n, hI_un, z_nat, em_d, zl, z_add, z_sub, z_mul, z_lt, z_eq, gI_mk, gJ_mk, cI_some, cV_some, cJ_some, cI_x, cV_x, cJ_x, uS_self, uS_ne, if_pos, if_neg, b01, b01n, ite_not, if_true, if_false, Bool.false_eq_true, h5]
  rw [hf]
  simp (disch := omega) only [hk, hu, hI_n, hI_un, z_nat, em_d, zl, z_add, z_sub, z_mul, z_lt, z_eq, gI_mk, gJ_mk, cI_some, cV_some, cJ_some, cI_x, cV_x, cJ_x, uS_self, uS_ne, if_pos, if_neg, b01, b01n, ite_not, if_true, if_false, Bool.false_eq_true, h6, rI_d]
end WDS
