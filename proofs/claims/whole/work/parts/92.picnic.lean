/-! PICNIC: the most roads that rest and share no town -/
def mapF (rd : Int → Int) (roads : Nat) : Nat → Int → Nat → Int
  | 0, _, _ => 0
  | j + 1, r, u => if roads.testBit r.toNat = true ∧ u &&& endB rd r = 0 then max (mapF rd roads j (r + 1) u) (1 + mapF rd roads j (r + 1) (u ||| endB rd r)) else mapF rd roads j (r + 1) u
def apaB (rd : Int → Int) (set : Nat) : Nat → Int → Nat → Bool
  | 0, _, _ => true
  | j + 1, r, u => if set.testBit r.toNat = true then decide (u &&& endB rd r = 0) && apaB rd set j (r + 1) (u ||| endB rd r) else apaB rd set j (r + 1) u
abbrev apaP (rd : Int → Int) (set j : Nat) (r : Int) (u : Nat) : Prop := apaB rd set j r u = true
theorem apaP_0 (rd : Int → Int) (set : Nat) (r : Int) (u : Nat) : apaP rd set 0 r u := rfl
theorem apaP_s (rd : Int → Int) (set j : Nat) (r : Int) (u : Nat) : apaP rd set (j + 1) r u = (if set.testBit r.toNat = true then u &&& endB rd r = 0 ∧ apaP rd set j (r + 1) (u ||| endB rd r) else apaP rd set j (r + 1) u) := by
  show ((if set.testBit r.toNat = true then decide (u &&& endB rd r = 0) && apaB rd set j (r + 1) (u ||| endB rd r) else apaB rd set j (r + 1) u) = true) = _
  by_cases q : set.testBit r.toNat = true
  · rw [if_pos q, if_pos q, Bool.and_eq_true, decide_eq_true_eq]
  · rw [if_neg q, if_neg q]
def cntF (set : Nat) : Nat → Int → Int
  | 0, _ => 0
  | j + 1, r => (if set.testBit r.toNat = true then 1 else 0) + cntF set j (r + 1)
theorem mapF_s (rd : Int → Int) (roads j : Nat) (r : Int) (u : Nat) : mapF rd roads (j + 1) r u = if roads.testBit r.toNat = true ∧ u &&& endB rd r = 0 then max (mapF rd roads j (r + 1) u) (1 + mapF rd roads j (r + 1) (u ||| endB rd r)) else mapF rd roads j (r + 1) u := rfl
theorem cntF_s (set j : Nat) (r : Int) : cntF set (j + 1) r = (if set.testBit r.toNat = true then 1 else 0) + cntF set j (r + 1) := rfl
theorem mapF_r (rd : Int → Int) (roads : Nat) : ∀ (j : Nat) (r : Int) (u : Nat), 0 ≤ mapF rd roads j r u ∧ mapF rd roads j r u ≤ j
  | 0, _, _ => ⟨Int.le_refl _, Int.le_refl _⟩
  | j + 1, r, u => by
    have h1 := mapF_r rd roads j (r + 1) u
    have h2 := mapF_r rd roads j (r + 1) (u ||| endB rd r)
    rw [mapF_s]
    split <;> omega
theorem cntF_sum (set : Nat) : ∀ (j k : Nat), sumZ (fun k => if set.testBit k.toNat = true then 1 else 0) (k + j) = sumZ (fun k => if set.testBit k.toNat = true then 1 else 0) k + cntF set j (k : Int)
  | 0, k => (Int.add_zero _).symm
  | j + 1, k => by
    have ih := cntF_sum set j (k + 1)
    rw [show k + (j + 1) = k + 1 + j by omega, ih]
    show sumZ (fun k => if set.testBit k.toNat = true then 1 else 0) k + (if set.testBit (k : Int).toNat = true then 1 else 0) + cntF set j ((k + 1 : Nat) : Int) = _ + ((if set.testBit (k : Int).toNat = true then 1 else 0) + cntF set j ((k : Int) + 1))
    rw [show ((k + 1 : Nat) : Int) = (k : Int) + 1 by omega]
    omega
theorem popc_cnt {set n : Nat} (h : set < 2 ^ n) (hn : n ≤ 12) : popc set = cntF set n 0 := by
  have e : set = bits (fun k => set.testBit k.toNat) n := Nat.eq_of_testBit_eq (fun i => by
    rw [bits_test]
    by_cases hi : i < n
    · rw [decide_eq_true hi, Int.toNat_natCast]
      rfl
    · rw [decide_eq_false hi, Nat.testBit_lt_two_pow (Nat.lt_of_lt_of_le h (Nat.pow_le_pow_right (by decide) (by omega)))]
      rfl)
  have h1 : popc set = popc (bits (fun k => set.testBit k.toNat) n) := congrArg popc e
  have h2 := cntF_sum set n 0
  rw [Nat.zero_add] at h2
  rw [h1, popc_bits _ n hn]
  refine h2.trans ?_
  show 0 + cntF set n 0 = _
  omega
theorem map_ge (rd : Int → Int) {roads set : Nat} (h : sub set roads) : ∀ (j : Nat) (r : Int) (u : Nat), apaP rd set j r u → cntF set j r ≤ mapF rd roads j r u
  | 0, _, _, _ => Int.le_refl _
  | j + 1, r, u, h1 => by
    rw [apaP_s] at h1
    rw [cntF_s, mapF_s]
    by_cases q : set.testBit r.toNat = true
    · rw [if_pos q] at h1 ⊢
      rw [if_pos ⟨h _ q, h1.1⟩]
      have := map_ge rd h j (r + 1) (u ||| endB rd r) h1.2
      omega
    · rw [if_neg q] at h1 ⊢
      have := map_ge rd h j (r + 1) u h1
      split <;> omega
theorem apa_congr (rd : Int → Int) {a b : Nat} : ∀ (j : Nat) (r : Int) (u : Nat), (∀ k : Int, r ≤ k → k < r + j → a.testBit k.toNat = b.testBit k.toNat) → apaP rd a j r u → apaP rd b j r u
  | 0, _, _, _, _ => rfl
  | j + 1, r, u, h, h1 => by
    rw [apaP_s] at h1 ⊢
    rw [h r (by omega) (by omega)] at h1
    by_cases q : b.testBit r.toNat = true
    · rw [if_pos q] at h1 ⊢
      exact ⟨h1.1, apa_congr rd j (r + 1) _ (fun k k1 k2 => h k (by omega) (by omega)) h1.2⟩
    · rw [if_neg q] at h1 ⊢
      exact apa_congr rd j (r + 1) u (fun k k1 k2 => h k (by omega) (by omega)) h1
theorem cnt_congr {a b : Nat} : ∀ (j : Nat) (r : Int), (∀ k : Int, r ≤ k → k < r + j → a.testBit k.toNat = b.testBit k.toNat) → cntF a j r = cntF b j r
  | 0, _, _ => rfl
  | j + 1, r, h => by
    rw [cntF_s, cntF_s, h r (by omega) (by omega), cnt_congr j (r + 1) (fun k k1 k2 => h k (by omega) (by omega))]
theorem map_ex (rd : Int → Int) (roads : Nat) : ∀ (j : Nat) (r : Int) (u : Nat), 0 ≤ r → ∃ set, sub set roads ∧ (∀ i, set.testBit i = true → r ≤ (i : Int) ∧ (i : Int) < r + j) ∧ apaP rd set j r u ∧ cntF set j r = mapF rd roads j r u
  | 0, r, u, _ => ⟨0, fun i h => absurd (Nat.zero_testBit i ▸ h) (by decide), fun i h => absurd (Nat.zero_testBit i ▸ h) (by decide), rfl, rfl⟩
  | j + 1, r, u, hr => by
    obtain ⟨s1, a1, a2, a3, a4⟩ := map_ex rd roads j (r + 1) u (by omega)
    have n1 : ¬ s1.testBit r.toNat = true := fun z => by
      have := a2 _ z
      omega
    have lo : ∃ set, sub set roads ∧ (∀ i, set.testBit i = true → r ≤ (i : Int) ∧ (i : Int) < r + ((j + 1 : Nat) : Int)) ∧ apaP rd set (j + 1) r u ∧ cntF set (j + 1) r = mapF rd roads j (r + 1) u := by
      refine ⟨s1, a1, fun i q => ?_, ?_, ?_⟩
      · have := a2 i q
        omega
      · rw [apaP_s]
        rw [if_neg n1]
        exact a3
      · rw [cntF_s]
        rw [if_neg n1, Int.zero_add]
        exact a4
    by_cases q : roads.testBit r.toNat = true ∧ u &&& endB rd r = 0
    · obtain ⟨s2, b1, b2, b3, b4⟩ := map_ex rd roads j (r + 1) (u ||| endB rd r) (by omega)
      have e : mapF rd roads (j + 1) r u = max (mapF rd roads j (r + 1) u) (1 + mapF rd roads j (r + 1) (u ||| endB rd r)) := if_pos q
      rw [e]
      by_cases z : mapF rd roads j (r + 1) u ≤ 1 + mapF rd roads j (r + 1) (u ||| endB rd r)
      · have bb : ∀ k : Int, r + 1 ≤ k → k < r + 1 + j → s2.testBit k.toNat = (s2 ||| 2 ^ r.toNat).testBit k.toNat := fun k k1 k2 => by
          rw [Nat.testBit_or, Nat.testBit_two_pow, decide_eq_false (show ¬ r.toNat = k.toNat by omega), Bool.or_false]
        have b0 : (s2 ||| 2 ^ r.toNat).testBit r.toNat = true := (tb_or _ _ _).mpr (Or.inr (by rw [Nat.testBit_two_pow, decide_eq_true_eq]))
        refine ⟨s2 ||| 2 ^ r.toNat, fun i h => ?_, fun i h => ?_, ?_, ?_⟩
        · rcases (tb_or _ _ _).mp h with h | h
          · exact b1 i h
          · rw [Nat.testBit_two_pow, decide_eq_true_eq] at h
            rw [← h]
            exact q.1
        · rcases (tb_or _ _ _).mp h with h | h
          · have := b2 i h
            omega
          · rw [Nat.testBit_two_pow, decide_eq_true_eq] at h
            omega
        · rw [apaP_s]
          rw [if_pos b0]
          exact ⟨q.2, apa_congr rd j (r + 1) _ bb b3⟩
        · rw [cntF_s]
          rw [if_pos b0, ← cnt_congr j (r + 1) bb, b4]
          omega
      · rw [show max (mapF rd roads j (r + 1) u) (1 + mapF rd roads j (r + 1) (u ||| endB rd r)) = mapF rd roads j (r + 1) u by omega]
        exact lo
    · have e : mapF rd roads (j + 1) r u = mapF rd roads j (r + 1) u := if_neg q
      rw [e]
      exact lo
/-! the most of those that do -/
def mosF (P : Nat → Prop) [DecidablePred P] (f : Nat → Int) : Nat → Nat → Int → Int
  | 0, _, a => a
  | j + 1, k, a => mosF P f j (k + 1) (if P k ∧ a < f k then f k else a)
theorem mosF_ge (P : Nat → Prop) [DecidablePred P] (f : Nat → Int) : ∀ (j k : Nat) (a : Int), a ≤ mosF P f j k a ∧ ∀ x, k ≤ x → x < k + j → P x → f x ≤ mosF P f j k a
  | 0, k, a => ⟨Int.le_refl _, fun x h1 h2 => absurd h2 (by omega)⟩
  | j + 1, k, a => by
    obtain ⟨h1, h2⟩ := mosF_ge P f j (k + 1) (if P k ∧ a < f k then f k else a)
    refine ⟨?_, fun x q1 q2 q3 => ?_⟩
    · show a ≤ mosF P f j (k + 1) (if P k ∧ a < f k then f k else a)
      revert h1
      split <;> omega
    · show f x ≤ mosF P f j (k + 1) (if P k ∧ a < f k then f k else a)
      by_cases e : x = k
      · subst e
        revert h1
        by_cases z : a < f x
        · rw [if_pos ⟨q3, z⟩]
          omega
        · rw [if_neg (fun y => z y.2)]
          omega
      · exact h2 x (by omega) (by omega) q3
theorem mosF_le (P : Nat → Prop) [DecidablePred P] (f : Nat → Int) (b : Int) : ∀ (j k : Nat) (a : Int), a ≤ b → (∀ x, k ≤ x → x < k + j → P x → f x ≤ b) → mosF P f j k a ≤ b
  | 0, k, a, h, _ => h
  | j + 1, k, a, h, h2 => mosF_le P f b j (k + 1) _ (by
    split
    · next q => exact h2 k (by omega) (by omega) q.1
    · exact h) (fun x q1 q2 q3 => h2 x (by omega) (by omega) q3)
abbrev picP (rd : Int → Int) (nR : Int) (R set : Nat) : Prop := set ^^^ (set &&& R) = 0 ∧ apaP rd set nR.toNat 0 0
theorem sub_le {a b : Nat} (h : sub a b) : a ≤ b := by
  have e : a &&& b = a := Nat.eq_of_testBit_eq (fun i => by
    rw [Nat.testBit_and]
    cases q : a.testBit i
    · rfl
    · rw [h i q]
      rfl)
  rw [← e]
  exact Nat.and_le_right
theorem pic_eq {rd : Int → Int} {nR : Int} (hR : 0 ≤ nR ∧ nR ≤ 12) {R : Nat} (hRR : R < 2 ^ nR.toNat) : mapF rd R nR.toNat 0 0 = mosF (picP rd nR R) popc (R + 1) 0 0 := by
  obtain ⟨g1, g2⟩ := mosF_ge (picP rd nR R) popc (R + 1) 0 0
  have h1 := mosF_le (picP rd nR R) popc (mapF rd R nR.toNat 0 0) (R + 1) 0 0 (mapF_r rd R _ _ _).1 (fun x _ x2 x3 => by
    have := map_ge rd (mi_0.mp x3.1) nR.toNat 0 0 x3.2
    rw [popc_cnt (Nat.lt_of_le_of_lt (by omega : x ≤ R) hRR) (by omega)]
    exact this)
  obtain ⟨set, a1, a2, a3, a4⟩ := map_ex rd R nR.toNat 0 0 (by decide)
  have hle := sub_le a1
  have := g2 set (by omega) (by omega) ⟨mi_0.mpr a1, a3⟩
  rw [popc_cnt (Nat.lt_of_le_of_lt hle hRR) (by omega), a4] at this
  omega
theorem ite_iff {P Q : Prop} [Decidable P] [Decidable Q] (h : P ↔ Q) (a b : Int) : (if P then a else b) = (if Q then a else b) := by
  by_cases p : P
  · rw [if_pos p, if_pos (h.mp p)]
  · rw [if_neg p, if_neg (fun z => p (h.mpr z))]
section PIC
variable {X : Nat × (Nat → Int32)} {d : Nat} {w : Bool × Bool × Bool} {S : Hp} {J : Nat → Nat → Int64} {nT nR nC : Int} {rd s : Int → Int} {bl bs : Bool}
theorem c_apart (hL : CL S (iL bl) nT nR nC rd) (hE : Ends nT nR rd) {R : Nat} (hRR : R < 2147483648) : ∀ (j : Nat) (r : Int) (u : Nat), 0 ≤ r → r + j = nR → u < 2 ^ nT.toNat → am_call X aP (d + 3 + j) 16 [.ref ((iL bl)), .int (zI ((R : Int))), .int (zI r), .int (zI ((u : Int)))] (mkS w (hI S) J) = some (.inl (some (.int (zI (mapF rd R j r u)))), (mkS w (hI S) J))
  | 0, r, u, h1, h2, h3 => by
    obtain ⟨-, a2, -, -, -, a6, a7, a8, -⟩ := id hL
    have h3 : u < 2147483648 := nat_lt_two h3 (by omega)
    rw [show d + 3 + 0 = (d + 2) + 1 from rfl, go_X1_mostApartFrom, e_X1_mostApartFrom_0]
    simp (disch := omega) only [hk, hu, hI_n, hI_un, z_nat, em_d, zl, z_add, z_sub, z_mul, z_lt, z_eq, gI_mk, gJ_mk, cI_some, cV_some, cJ_some, cI_x, cV_x, cJ_x, uS_self, uS_ne, if_pos, if_neg, b01, b01n, ite_not, if_true, if_false, hLL, a2, rI_d]
    rfl
  | j + 1, r, u, h1, h2, h3 => by
    obtain ⟨-, a2, -, -, -, a6, a7, a8, -⟩ := id hL
    have hu2 : u < 2147483648 := nat_lt_two h3 (by omega)
    have hb := endB_lt hE (r := r) ⟨h1, by omega⟩
    have ih1 := c_apart hL hE hRR j (r + 1) u (by omega) (by omega) h3
    have ih2 := c_apart hL hE hRR j (r + 1) (u ||| endB rd r) (by omega) (by omega) (Nat.or_lt_two_pow h3 hb)
    have he := fun d => c_ends (X := X) (d := d) (w := w) (J := J) hL (r := r) ⟨h1, by omega⟩
    have m1 := mapF_r rd R j (r + 1) u
    have m2 := mapF_r rd R j (r + 1) (u ||| endB rd r)
    have hx : u &&& endB rd r < 2147483648 := Nat.lt_of_le_of_lt Nat.and_le_left hu2
    rw [show d + 3 + (j + 1) = (d + 3 + j) + 1 from rfl, go_X1_mostApartFrom, e_X1_mostApartFrom_0]
    simp (disch := omega) only [hk, hu, hI_n, hI_un, z_nat, em_d, zl, z_add, z_sub, z_mul, z_lt, z_eq, gI_mk, gJ_mk, cI_some, cV_some, cJ_some, cI_x, cV_x, cJ_x, uS_self, uS_ne, if_pos, if_neg, b01, b01n, ite_not, if_true, if_false, hLL, a2]
    refine (congrArg (fun z => cI z _ _) ih1).trans ?_
    rw [cI_some]
    have he := he (d + 2 + j)
    rw [show d + 2 + j + 1 = d + 3 + j by omega] at he
    refine (congrArg (fun z => cI z _ _) he).trans ?_
    rw [mapF_s]
    by_cases p1 : R.testBit r.toNat = true
    · by_cases p2 : u &&& endB rd r = 0
      · rw [if_pos ⟨p1, p2⟩]
        simp (disch := omega) only [hk, hu, hI_n, hI_un, z_nat, em_d, zl, z_add, z_sub, z_mul, z_lt, z_eq, gI_mk, gJ_mk, cI_some, cV_some, cJ_some, cI_x, cV_x, cJ_x, uS_self, uS_ne, if_pos, if_neg, b01, b01n, ite_not, if_true, if_false, hLL, z_bit hRR, p1, z_and, z_zero hx, p2, z_or]
        refine (congrArg (fun z => cI z _ _) ih2).trans ?_
        simp (disch := omega) only [hk, hu, hI_n, hI_un, z_nat, em_d, zl, z_add, z_sub, z_mul, z_lt, z_eq, gI_mk, gJ_mk, cI_some, cV_some, cJ_some, cI_x, cV_x, cJ_x, uS_self, uS_ne, if_pos, if_neg, b01, b01n, ite_not, if_true, if_false, hLL]
        rw [show d + 3 + j = (d + 2 + j) + 1 by omega]
        simp (disch := omega) only [c_max, hk, hu, hI_n, hI_un, z_nat, em_d, zl, z_add, z_sub, z_mul, z_lt, z_eq, gI_mk, gJ_mk, cI_some, cV_some, cJ_some, cI_x, cV_x, cJ_x, uS_self, uS_ne, if_pos, if_neg, b01, b01n, ite_not, if_true, if_false, hLL, rI_d]
      · rw [if_neg (fun z => p2 z.2)]
        simp (disch := omega) only [hk, hu, hI_n, hI_un, z_nat, em_d, zl, z_add, z_sub, z_mul, z_lt, z_eq, gI_mk, gJ_mk, cI_some, cV_some, cJ_some, cI_x, cV_x, cJ_x, uS_self, uS_ne, if_pos, if_neg, b01, b01n, ite_not, if_true, if_false, hLL, z_bit hRR, p1, z_and, z_zero hx, p2, rI_d]
    · rw [if_neg (fun z => p1 z.1)]
      simp (disch := omega) only [hk, hu, hI_n, hI_un, z_nat, em_d, zl, z_add, z_sub, z_mul, z_lt, z_eq, gI_mk, gJ_mk, cI_some, cV_some, cJ_some, cI_x, cV_x, cJ_x, uS_self, uS_ne, if_pos, if_neg, b01, b01n, ite_not, if_true, if_false, hLL, z_bit hRR, p1, Bool.false_eq_true, rI_d]
theorem c_picnic (hL : CL S (iL w.1) nT nR nC rd) (hE : Ends nT nR rd) (hs : CS nR nC S 8 s) (hv : Sc nR nC s) {t : Int} (ht : 0 ≤ t ∧ t < 7) : am_call X aP (d + 20) 124 [.ref 0, .int (zI t)] (mkS w (hI S) J) = some (.inl (some (.int (zI (mapF rd (restB nR s t) nR.toNat 0 0)))), (mkS w (hI S) J)) := by
  obtain ⟨-, -, -, -, a5, a6, a7, a8, -⟩ := id hL
  have hp : restB nR s t < 2147483648 := nat_lt_two (bits_lt _ _) (by omega)
  have hr := fun d => c_restingJ (X := X) (d := d) (w := w) (J := J) (bs := false) hL hs (fun r r1 r2 => (Sc_w hv).1 r r1 r2) ht
  have ha := c_apart (X := X) (d := d + 3 + (12 - nR.toNat)) (w := w) (J := J) hL hE hp nR.toNat 0 0 (by decide) (by omega) (Nat.two_pow_pos _)
  rw [show d + 3 + (12 - nR.toNat) + 3 + nR.toNat = d + 18 by omega] at ha
  rw [show d + 20 = (d + 19) + 1 from rfl, go_X9_picnic, e_X9_picnic_0, show d + 19 = (d + 17) + 2 from rfl]
  simp (disch := omega) only [hk, hu, hI_n, hI_un, z_nat, em_d, zl, z_add, z_sub, z_mul, z_lt, z_eq, gI_mk, gJ_mk, cI_some, cV_some, cJ_some, cI_x, cV_x, cJ_x, uS_self, uS_ne, if_pos, if_neg, b01, b01n, ite_not, if_true, if_false, c_wd1]
  rw [show 9999999 = 9999998 + 1 from rfl, e_X9_picnic_3]
  have hr := hr (d + 18)
  refine (congrArg (fun z => cI z _ _) hr).trans ?_
  rw [cI_some, show d + 17 + 2 = (d + 18) + 1 from rfl, go_X1_mostApart, e_X1_mostApart_0]
  simp (disch := omega) only [hk, hu, hI_n, hI_un, z_nat, em_d, zl, z_add, z_sub, z_mul, z_lt, z_eq, gI_mk, gJ_mk, cI_some, cV_some, cJ_some, cI_x, cV_x, cJ_x, uS_self, uS_ne, if_pos, if_neg, b01, b01n, ite_not, if_true, if_false]
  have ha2 : am_call X aP (d + 18) 16 [.ref ((iL w.1)), .int (zI ((restB nR s t : Nat))), .int (zI 0), .int (zI 0)] (mkS w (hI S) J) = some (.inl (some (.int (zI (mapF rd (restB nR s t) nR.toNat 0 0)))), (mkS w (hI S) J)) := ha
  rw [ha2]
  simp (disch := omega) only [hk, hu, hI_n, hI_un, z_nat, em_d, zl, z_add, z_sub, z_mul, z_lt, z_eq, gI_mk, gJ_mk, cI_some, cV_some, cJ_some, cI_x, cV_x, cJ_x, uS_self, uS_ne, if_pos, if_neg, b01, b01n, ite_not, if_true, if_false, rI_d]
theorem c_picnicB {t : Int} (hr : -2147483648 ≤ t ∧ t < 2147483648) (ht : ¬ (0 ≤ t ∧ t < 7)) : am_call X aP (d + 4) 124 [.ref 0, .int (zI t)] (mkS w (hI S) J) = some (.inr 2, (mkS w (hI (xbS S)) J)) := by
  rw [go_X9_picnic, e_X9_picnic_0]
  simp (disch := omega) only [hk, hu, hI_n, hI_un, z_nat, em_d, zl, z_add, z_sub, z_mul, z_lt, z_eq, gI_mk, gJ_mk, cI_some, cV_some, cJ_some, cI_x, cV_x, cJ_x, uS_self, uS_ne, if_pos, if_neg, b01, b01n, ite_not, if_true, if_false, c_wd0 hr ht, rX_d]
theorem restB_eq (nR : Int) (s : Int → Int) (t : Int) : (2 ^ nR.toNat - 1) ^^^ ((2 ^ nR.toNat - 1) &&& goB nR s t) = restB nR s t := by
  apply Nat.eq_of_testBit_eq
  intro i
  unfold restB goB
  rw [Nat.testBit_xor, Nat.testBit_and, Nat.testBit_two_pow_sub_one, bits_test, bits_test]
  by_cases hi : i < nR.toNat
  · by_cases h : s (i : Int) = t
    · simp [hi, h]
    · simp [hi, h]
  · simp [hi]
theorem ml_apart (hL : LdP S nT nR nC rd) (hE : Ends nT nR rd) {R set : Nat} (hset : set < 2147483648) {most : Int} : ∀ (j k u : Nat) (b : Bool) (n : Nat), (k : Int) + j = nR → u < 2 ^ nT.toNat → 2 * j + 1 ≤ n → ∃ n', n ≤ n' + 2 * j + 1 ∧ aR X (d + 2) m_X10_picnic n 53 [some (.ref 132), none, some (.int (zI ((R : Int)))), some (.int (zI most)), some (.int (zI ((set : Int)))), some (.int (zI ((u : Int)))), some (.int (zI ((if b = true then 1 else 0)))), some (.int (zI ((k : Int)))), none] (0, 0) (mkS w (hI S) J) = aR X (d + 2) m_X10_picnic n' 33 [some (.ref 132), none, some (.int (zI ((R : Int)))), some (.int (zI ((if b = true ∧ apaP rd set j (k : Int) u then popc set else most)))), some (.int (zI (((set : Int) + 1)))), none, none, none, none] (0, 0) (mkS w (hI S) J)
  | 0, k, u, b, n, h1, h2, h3 => by
    obtain ⟨n, rfl⟩ : ∃ m, n = m + 1 := ⟨n - 1, by omega⟩
    obtain ⟨-, a2, -, -, a5, a6, a7, a8, -⟩ := id hL
    have hon := fun d => m_ones (X := X) (d := d) (w := w) (S := S) (J := J) hset
    refine ⟨n, by omega, ?_⟩
    rw [e_X10_picnic_53]
    cases b with
    | true =>
      rw [if_pos (show true = true ∧ apaP rd set 0 (k : Int) u from ⟨rfl, rfl⟩)]
      simp (disch := omega) only [hk, hu, hI_n, hI_un, z_nat, em_d, zl, z_add, z_sub, z_mul, z_lt, z_eq, gI_mk, gJ_mk, cI_some, cV_some, cJ_some, cI_x, cV_x, cJ_x, uS_self, uS_ne, if_pos, if_neg, b01, b01n, ite_not, if_true, if_false, a2]
      rw [hon]
      simp (disch := omega) only [hk, hu, hI_n, hI_un, z_nat, em_d, zl, z_add, z_sub, z_mul, z_lt, z_eq, gI_mk, gJ_mk, cI_some, cV_some, cJ_some, cI_x, cV_x, cJ_x, uS_self, uS_ne, if_pos, if_neg, b01, b01n, ite_not, if_true, if_false]
    | false =>
      rw [if_neg (show ¬ (false = true ∧ apaP rd set 0 (k : Int) u) from fun z => absurd z.1 (by decide))]
      simp (disch := omega) only [hk, hu, hI_n, hI_un, z_nat, em_d, zl, z_add, z_sub, z_mul, z_lt, z_eq, gI_mk, gJ_mk, cI_some, cV_some, cJ_some, cI_x, cV_x, cJ_x, uS_self, uS_ne, if_pos, if_neg, b01, b01n, ite_not, if_true, if_false, a2, Bool.false_eq_true]
  | j + 1, k, u, b, n, h1, h2, h3 => by
    obtain ⟨n, rfl⟩ : ∃ m, n = m + 2 := ⟨n - 2, by omega⟩
    obtain ⟨-, a2, -, a4, a5, a6, a7, a8, -, -, a11⟩ := id hL
    have hu2 : u < 2147483648 := nat_lt_two h2 (by omega)
    have e1 := a4 (4 * (k : Int)) (by omega) (by omega)
    have e2 := a4 (4 * (k : Int) + 1) (by omega) (by omega)
    obtain ⟨b1, b2, b3, b4, -⟩ := a11 (k : Int) (by omega) (by omega)
    have hb := endB_lt hE (r := (k : Int)) ⟨by omega, by omega⟩
    have hb2 := Nat.or_lt_two_pow h2 hb
    have he : endB rd (k : Int) = 2 ^ (rd (4 * (k : Int))).toNat ||| 2 ^ (rd (4 * (k : Int) + 1)).toNat := rfl
    have hx : u &&& endB rd (k : Int) < 2147483648 := Nat.lt_of_le_of_lt Nat.and_le_left hu2
    have ek : ((k + 1 : Nat) : Int) = (k : Int) + 1 := by omega
    have ea := Iff.of_eq (apaP_s rd set j (k : Int) u)
    have bad : b = false ∨ ¬ u &&& endB rd (k : Int) = 0 → set.testBit (k : Int).toNat = true → ∃ n', n + 2 ≤ n' + 2 * (j + 1) + 1 ∧ aR X (d + 2) m_X10_picnic (n + 2) 53 [some (.ref 132), none, some (.int (zI ((R : Int)))), some (.int (zI most)), some (.int (zI ((set : Int)))), some (.int (zI ((u : Int)))), some (.int (zI ((if b = true then 1 else 0)))), some (.int (zI ((k : Int)))), none] (0, 0) (mkS w (hI S) J) = aR X (d + 2) m_X10_picnic n' 33 [some (.ref 132), none, some (.int (zI ((R : Int)))), some (.int (zI most)), some (.int (zI (((set : Int) + 1)))), none, none, none, none] (0, 0) (mkS w (hI S) J) := by
      intro q p1
      obtain ⟨n', g1, g2⟩ := ml_apart hL hE hset (R := R) (most := most) j (k + 1) (u ||| endB rd (k : Int)) false n (by omega) hb2 (by omega)
      refine ⟨n', by omega, ?_⟩
      rw [if_neg (show ¬ (false = true ∧ apaP rd set j ((k + 1 : Nat) : Int) (u ||| endB rd (k : Int))) from fun z => absurd z.1 (by decide)), if_neg (show ¬ false = true by decide), ek, he] at g2
      rw [he] at q hx
      have fin : aR X (d + 2) m_X10_picnic (n + 1) 92 [some (.ref 132), none, some (.int (zI ((R : Int)))), some (.int (zI most)), some (.int (zI ((set : Int)))), some (.int (zI ((u : Int)))), none, some (.int (zI ((k : Int)))), some (.int (zI (((2 ^ (rd (4 * (k : Int))).toNat ||| 2 ^ (rd (4 * (k : Int) + 1)).toNat : Nat) : Int))))] (0, 0) (mkS w (hI S) J) = aR X (d + 2) m_X10_picnic n' 33 [some (.ref 132), none, some (.int (zI ((R : Int)))), some (.int (zI most)), some (.int (zI (((set : Int) + 1)))), none, none, none, none] (0, 0) (mkS w (hI S) J) := by
        rw [e_X10_picnic_92]
        simp (disch := omega) only [hk, hu, hI_n, hI_un, z_nat, em_d, zl, z_add, z_sub, z_mul, z_lt, z_eq, gI_mk, gJ_mk, cI_some, cV_some, cJ_some, cI_x, cV_x, cJ_x, uS_self, uS_ne, if_pos, if_neg, b01, b01n, ite_not, if_true, if_false, z_or]
        exact g2
      rw [e_X10_picnic_53]
      cases b with
      | false =>
        simp (disch := omega) only [hk, hu, hI_n, hI_un, z_nat, em_d, zl, z_add, z_sub, z_mul, z_lt, z_eq, gI_mk, gJ_mk, cI_some, cV_some, cJ_some, cI_x, cV_x, cJ_x, uS_self, uS_ne, if_pos, if_neg, b01, b01n, ite_not, if_true, if_false, a2, e1, e2, z_bit hset, p1, z_shl1, z_or, Bool.false_eq_true]
        exact fin
      | true =>
        have q : ¬ u &&& (2 ^ (rd (4 * (k : Int))).toNat ||| 2 ^ (rd (4 * (k : Int) + 1)).toNat) = 0 := by
          rcases q with q | q
          · exact absurd q (by decide)
          · exact q
        simp (disch := omega) only [hk, hu, hI_n, hI_un, z_nat, em_d, zl, z_add, z_sub, z_mul, z_lt, z_eq, gI_mk, gJ_mk, cI_some, cV_some, cJ_some, cI_x, cV_x, cJ_x, uS_self, uS_ne, if_pos, if_neg, b01, b01n, ite_not, if_true, if_false, a2, e1, e2, z_bit hset, p1, z_shl1, z_or, z_and, z_zero hx, q]
        exact fin
    by_cases p1 : set.testBit (k : Int).toNat = true
    · rw [if_pos p1] at ea
      by_cases p2 : b = true ∧ u &&& endB rd (k : Int) = 0
      · obtain ⟨rfl, p2⟩ := p2
        obtain ⟨n', g1, g2⟩ := ml_apart hL hE hset (R := R) (most := most) j (k + 1) (u ||| endB rd (k : Int)) true (n + 1) (by omega) hb2 (by omega)
        refine ⟨n', by omega, ?_⟩
        have ei : (if true = true ∧ apaP rd set (j + 1) (k : Int) u then popc set else most) = (if true = true ∧ apaP rd set j ((k + 1 : Nat) : Int) (u ||| endB rd (k : Int)) then popc set else most) := ite_iff ⟨fun z => ⟨rfl, by rw [ek]; exact (ea.mp z.2).2⟩, fun z => ⟨rfl, ea.mpr ⟨p2, by rw [← ek]; exact z.2⟩⟩⟩ _ _
        rw [ei]
        refine Eq.trans ?_ g2
        rw [he] at p2 hx
        rw [e_X10_picnic_53, ek, he]
        simp (disch := omega) only [hk, hu, hI_n, hI_un, z_nat, em_d, zl, z_add, z_sub, z_mul, z_lt, z_eq, gI_mk, gJ_mk, cI_some, cV_some, cJ_some, cI_x, cV_x, cJ_x, uS_self, uS_ne, if_pos, if_neg, b01, b01n, ite_not, if_true, if_false, a2, e1, e2, z_bit hset, p1, z_shl1, z_or, z_and, z_zero hx, p2]
      · obtain ⟨n', g1, g2⟩ := bad (by
          cases b
          · exact Or.inl rfl
          · exact Or.inr (fun z => p2 ⟨rfl, z⟩)) p1
        refine ⟨n', g1, ?_⟩
        rw [if_neg (fun z : b = true ∧ apaP rd set (j + 1) (k : Int) u => p2 ⟨z.1, (ea.mp z.2).1⟩)]
        exact g2
    · rw [if_neg p1] at ea
      rw [show (if b = true ∧ apaP rd set (j + 1) (k : Int) u then popc set else most) = (if b = true ∧ apaP rd set j ((k : Int) + 1) u then popc set else most) from ite_iff ⟨fun z => ⟨z.1, ea.mp z.2⟩, fun z => ⟨z.1, ea.mpr z.2⟩⟩ _ _]
      obtain ⟨n', g1, g2⟩ := ml_apart hL hE hset (R := R) (most := most) j (k + 1) u b (n + 1) (by omega) h2 (by omega)
      refine ⟨n', by omega, ?_⟩
      rw [ek] at g2
      rw [e_X10_picnic_53]
      simp (disch := omega) only [hk, hu, hI_n, hI_un, z_nat, em_d, zl, z_add, z_sub, z_mul, z_lt, z_eq, gI_mk, gJ_mk, cI_some, cV_some, cJ_some, cI_x, cV_x, cJ_x, uS_self, uS_ne, if_pos, if_neg, b01, b01n, ite_not, if_true, if_false, a2, z_bit hset, p1]
      exact g2
theorem ml_pic (hL : LdP S nT nR nC rd) (hE : Ends nT nR rd) {R : Nat} (hRR : R < 2 ^ nR.toNat) : ∀ (j k n : Nat) (most : Int), k + j = R + 1 → 0 ≤ most ∧ most ≤ 12 → 30 * j + 1 ≤ n → aR X (d + 2) m_X10_picnic n 33 [some (.ref 132), none, some (.int (zI ((R : Int)))), some (.int (zI most)), some (.int (zI ((k : Int)))), none, none, none, none] (0, 0) (mkS w (hI S) J) = some (.inl (some (.int (zI (mosF (picP rd nR R) popc j k most)))), (mkS w (hI S) J))
  | 0, k, n, most, h1, h2, h3 => by
    obtain ⟨n, rfl⟩ : ∃ m, n = m + 1 := ⟨n - 1, by omega⟩
    obtain ⟨-, a2, -, -, a5, a6, a7, a8, -⟩ := id hL
    have hR2 : R < 2 ^ 12 := Nat.lt_of_lt_of_le hRR (Nat.pow_le_pow_right (by decide) (by omega))
    rw [e_X10_picnic_33]
    simp (disch := omega) only [hk, hu, hI_n, hI_un, z_nat, em_d, zl, z_add, z_sub, z_mul, z_lt, z_eq, gI_mk, gJ_mk, cI_some, cV_some, cJ_some, cI_x, cV_x, cJ_x, uS_self, uS_ne, if_pos, if_neg, b01, b01n, ite_not, if_true, if_false, rI_d]
    rfl
  | j + 1, k, n, most, h1, h2, h3 => by
    obtain ⟨n, rfl⟩ : ∃ m, n = m + 1 := ⟨n - 1, by omega⟩
    obtain ⟨-, a2, -, -, a5, a6, a7, a8, -⟩ := id hL
    have hR2 : R < 2 ^ 12 := Nat.lt_of_lt_of_le hRR (Nat.pow_le_pow_right (by decide) (by omega))
    have hkb : k < 2147483648 := by omega
    have hx1 : k ^^^ (k &&& R) < 2147483648 := xand_31 hkb
    have hp := popc_nn k
    have hon := fun d => m_ones (X := X) (d := d) (w := w) (S := S) (J := J) hkb
    have ek : ((k + 1 : Nat) : Int) = (k : Int) + 1 := by omega
    have ef : mosF (picP rd nR R) popc (j + 1) k most = mosF (picP rd nR R) popc j (k + 1) (if picP rd nR R k ∧ most < popc k then popc k else most) := rfl
    rw [ef, e_X10_picnic_33]
    have skip := fun n q => ml_pic hL hE hRR j (k + 1) n most (by omega) h2 q
    rw [ek] at skip
    by_cases p1 : k ^^^ (k &&& R) = 0
    · by_cases p2 : most < popc k
      · obtain ⟨n', g1, g2⟩ := ml_apart (X := X) (d := d) (w := w) (J := J) hL hE hkb (R := R) (most := most) nR.toNat 0 0 true n (by omega) (Nat.two_pow_pos _) (by omega)
        simp (disch := omega) only [hk, hu, hI_n, hI_un, z_nat, em_d, zl, z_add, z_sub, z_mul, z_lt, z_eq, gI_mk, gJ_mk, cI_some, cV_some, cJ_some, cI_x, cV_x, cJ_x, uS_self, uS_ne, if_pos, if_neg, b01, b01n, ite_not, if_true, if_false, z_andn, z_zero hx1, p1]
        rw [hon]
        simp (disch := omega) only [hk, hu, hI_n, hI_un, z_nat, em_d, zl, z_add, z_sub, z_mul, z_lt, z_eq, gI_mk, gJ_mk, cI_some, cV_some, cJ_some, cI_x, cV_x, cJ_x, uS_self, uS_ne, if_pos, if_neg, b01, b01n, ite_not, if_true, if_false]
        refine g2.trans ?_
        have ih := ml_pic hL hE hRR j (k + 1) n' (if picP rd nR R k ∧ most < popc k then popc k else most) (by omega) (by split <;> omega) (by omega)
        rw [ek] at ih
        have ei : (if true = true ∧ apaP rd k nR.toNat ((0 : Nat) : Int) 0 then popc k else most) = (if picP rd nR R k ∧ most < popc k then popc k else most) := ite_iff ⟨fun z => ⟨⟨p1, z.2⟩, p2⟩, fun z => ⟨rfl, z.1.2⟩⟩ _ _
        rw [ei]
        exact ih
      · rw [if_neg (fun z : picP rd nR R k ∧ most < popc k => p2 z.2)]
        simp (disch := omega) only [hk, hu, hI_n, hI_un, z_nat, em_d, zl, z_add, z_sub, z_mul, z_lt, z_eq, gI_mk, gJ_mk, cI_some, cV_some, cJ_some, cI_x, cV_x, cJ_x, uS_self, uS_ne, if_pos, if_neg, b01, b01n, ite_not, if_true, if_false, z_andn, z_zero hx1, p1]
        rw [hon]
        simp (disch := omega) only [hk, hu, hI_n, hI_un, z_nat, em_d, zl, z_add, z_sub, z_mul, z_lt, z_eq, gI_mk, gJ_mk, cI_some, cV_some, cJ_some, cI_x, cV_x, cJ_x, uS_self, uS_ne, if_pos, if_neg, b01, b01n, ite_not, if_true, if_false]
        exact skip n (by omega)
    · rw [if_neg (fun z : picP rd nR R k ∧ most < popc k => p1 z.1.1)]
      simp (disch := omega) only [hk, hu, hI_n, hI_un, z_nat, em_d, zl, z_add, z_sub, z_mul, z_lt, z_eq, gI_mk, gJ_mk, cI_some, cV_some, cJ_some, cI_x, cV_x, cJ_x, uS_self, uS_ne, if_pos, if_neg, b01, b01n, ite_not, if_true, if_false, z_andn, z_zero hx1, p1]
      exact skip n (by omega)
theorem m_picnic (hL : LdP S nT nR nC rd) (hE : Ends nT nR rd) (hn : NwP nR nC S s) (hv : Sc nR nC s) {t : Int} (ht : 0 ≤ t ∧ t < 7) : ∃ S', am_call X aP (d + 3) 242 [.ref 132, .int (zI t)] (mkS w (hI S) J) = some (.inl (some (.int (zI (mapF rd (restB nR s t) nR.toNat 0 0)))), (mkS w (hI S') J)) ∧ QuM S S' := by
  have hq0 := QuM_0 S
  obtain ⟨-, -, -, -, a5, a6, a7, a8, a9, a10, a11⟩ := id hL
  have hoff := fun r r1 r2 => (Sc_w hv).1 r r1 r2
  obtain ⟨S1, h1, h2, h3⟩ := m_takeP (X := X) (d := d) (w := w) (J := J) (NwP_q hn hq0) a8 a10
  have hq1 := QuM_fr hq0 h3 (by decide) (by decide)
  have hL1 := LdP_q hL hq1
  have hg := fun d => m_goingOn (X := X) (d := d) (w := w) (J := J) hL1 h2 hoff ht
  have hRR : restB nR s t < 2 ^ nR.toNat := bits_lt _ _
  have hR2 : restB nR s t < 2 ^ 12 := Nat.lt_of_lt_of_le hRR (Nat.pow_le_pow_right (by decide) (by omega))
  have hl := ml_pic (X := X) (d := d) (w := w) (J := J) hL1 hE hRR (restB nR s t + 1) 0 9999999 0 (by omega) (by decide) (by omega)
  rw [← pic_eq ⟨a7, a8⟩ hRR] at hl
  have eall : zI ((2 ^ nR.toNat : Nat) : Int) - zI 1 = zI ((2 ^ nR.toNat - 1 : Nat) : Int) := z_all a7 (by omega)
  rw [z_sub] at eall
  refine ⟨S1, ?_, hq1⟩
  rw [go_X10_picnic, e_X10_picnic_0]
  simp (disch := omega) only [hk, hu, hI_n, hI_un, z_nat, em_d, zl, z_add, z_sub, z_mul, z_lt, z_eq, gI_mk, gJ_mk, cI_some, cV_some, cJ_some, cI_x, cV_x, cJ_x, uS_self, uS_ne, if_pos, if_neg, b01, b01n, ite_not, if_true, if_false, m_within]
  rw [m_may1 (uS_self _ _ _ _)]
  simp (disch := omega) only [hk, hu, hI_n, hI_un, z_nat, em_d, zl, z_add, z_sub, z_mul, z_lt, z_eq, gI_mk, gJ_mk, cI_some, cV_some, cJ_some, cI_x, cV_x, cJ_x, uS_self, uS_ne, if_pos, if_neg, b01, b01n, ite_not, if_true, if_false]
  rw [h1]
  simp (disch := omega) only [hk, hu, hI_n, hI_un, z_nat, em_d, zl, z_add, z_sub, z_mul, z_lt, z_eq, gI_mk, gJ_mk, cI_some, cV_some, cJ_some, cI_x, cV_x, cJ_x, uS_self, uS_ne, if_pos, if_neg, b01, b01n, ite_not, if_true, if_false]
  rw [hg]
  simp (disch := omega) only [hk, hu, hI_n, hI_un, z_nat, em_d, zl, z_add, z_sub, z_mul, z_lt, z_eq, gI_mk, gJ_mk, cI_some, cV_some, cJ_some, cI_x, cV_x, cJ_x, uS_self, uS_ne, if_pos, if_neg, b01, b01n, ite_not, if_true, if_false, hL1.2.1, z_shl1]
  rw [eall, z_andn, restB_eq]
  exact hl
theorem m_picnicB {t : Int} (hb : -2147483648 ≤ t ∧ t < 2147483648) (ht : ¬ (0 ≤ t ∧ t < 7)) : am_call X aP (d + 3) 242 [.ref 132, .int (zI t)] (mkS w (hI S) J) = some (.inl (some (.int (zI 0))), (mkS w (hI (mxB S 1)) J)) := by
  rw [go_X10_picnic, e_X10_picnic_0]
  simp (disch := omega) only [hk, hu, hI_n, hI_un, z_nat, em_d, zl, z_add, z_sub, z_mul, z_lt, z_eq, gI_mk, gJ_mk, cI_some, cV_some, cJ_some, cI_x, cV_x, cJ_x, uS_self, uS_ne, if_pos, if_neg, b01, b01n, ite_not, if_true, if_false, m_within]
  rw [m_may0 (uS_self _ _ _ _) (by decide) (by decide)]
  simp (disch := omega) only [hk, hu, hI_n, hI_un, z_nat, em_d, zl, z_add, z_sub, z_mul, z_lt, z_eq, gI_mk, gJ_mk, cI_some, cV_some, cJ_some, cI_x, cV_x, cJ_x, uS_self, uS_ne, if_pos, if_neg, b01, b01n, ite_not, if_true, if_false, rI_d]
  rfl
end PIC
