/-! THE LAND'S TEXT: the class -/
abbrev LSt : Type := Int × Int × Int × (Int → Int) × (Int → Int)
def rdU (rd : Int → Int) (n a b l o : Int) : Int → Int := fun k => if k = 4 * n then a else if k = 4 * n + 1 then b else if k = 4 * n + 2 then l else if k = 4 * n + 3 then o else rd k
def crU (cr : Int → Int) (n t l : Int) : Int → Int := fun k => if k = 2 * n then t else if k = 2 * n + 1 then l else cr k
def okL (x : LSt) : Prop := (0 ≤ x.1 ∧ x.1 ≤ 7) ∧ (0 ≤ x.2.1 ∧ x.2.1 ≤ 12) ∧ (0 ≤ x.2.2.1 ∧ x.2.2.1 ≤ 5) ∧ (∀ r, 0 ≤ r → r < x.2.1 → 0 ≤ x.2.2.2.1 (4 * r) ∧ x.2.2.2.1 (4 * r) < x.1 ∧ 0 ≤ x.2.2.2.1 (4 * r + 1) ∧ x.2.2.2.1 (4 * r + 1) < x.1 ∧ ¬ x.2.2.2.1 (4 * r) = x.2.2.2.1 (4 * r + 1) ∧ 1 ≤ x.2.2.2.1 (4 * r + 2) ∧ x.2.2.2.1 (4 * r + 2) ≤ 40 ∧ 0 ≤ x.2.2.2.1 (4 * r + 3) ∧ x.2.2.2.1 (4 * r + 3) < 7) ∧ ∀ c, 0 ≤ c → c < x.2.2.1 → 0 ≤ x.2.2.2.2 (2 * c) ∧ x.2.2.2.2 (2 * c) < x.1 ∧ 0 ≤ x.2.2.2.2 (2 * c + 1) ∧ x.2.2.2.2 (2 * c + 1) ≤ 99
/-- a town, a road, a carter: from behind the word at q; t is where the word stands -/
def ldTown (t q : Nat) (x : LSt) : Flt ⊕ (LSt × Nat) := if x.1 = 7 then .inl (3, (t : Int)) else .inr ((x.1 + 1, x.2), q)
def ldRoad (B : Nat → Int) (e t q : Nat) (x : LSt) : Flt ⊕ (LSt × Nat) :=
  if x.2.1 = 12 then .inl (3, (t : Int))
  else if ¬ numK B e q 0 (x.1 - 1) = 0 then .inl (numK B e q 0 (x.1 - 1), (q : Int))
  else if ¬ numK B e (sk B e (numE B e q)) 0 (x.1 - 1) = 0 then .inl (numK B e (sk B e (numE B e q)) 0 (x.1 - 1), ((sk B e (numE B e q) : Nat) : Int))
  else if numV B e q = numV B e (sk B e (numE B e q)) then .inl (2, ((sk B e (numE B e q) : Nat) : Int))
  else if ¬ numK B e (sk B e (numE B e (sk B e (numE B e q)))) 1 40 = 0 then .inl (numK B e (sk B e (numE B e (sk B e (numE B e q)))) 1 40, ((sk B e (numE B e (sk B e (numE B e q))) : Nat) : Int))
  else if ¬ numK B e (sk B e (numE B e (sk B e (numE B e (sk B e (numE B e q)))))) 0 6 = 0 then .inl (numK B e (sk B e (numE B e (sk B e (numE B e (sk B e (numE B e q)))))) 0 6, ((sk B e (numE B e (sk B e (numE B e (sk B e (numE B e q))))) : Nat) : Int))
  else .inr ((x.1, x.2.1 + 1, x.2.2.1, rdU x.2.2.2.1 x.2.1 (numV B e q) (numV B e (sk B e (numE B e q))) (numV B e (sk B e (numE B e (sk B e (numE B e q))))) (numV B e (sk B e (numE B e (sk B e (numE B e (sk B e (numE B e q))))))), x.2.2.2.2), sk B e (numE B e (sk B e (numE B e (sk B e (numE B e (sk B e (numE B e q))))))))
def ldCart (B : Nat → Int) (e t q : Nat) (x : LSt) : Flt ⊕ (LSt × Nat) :=
  if x.2.2.1 = 5 then .inl (3, (t : Int))
  else if ¬ numK B e q 0 (x.1 - 1) = 0 then .inl (numK B e q 0 (x.1 - 1), (q : Int))
  else if ¬ numK B e (sk B e (numE B e q)) 0 99 = 0 then .inl (numK B e (sk B e (numE B e q)) 0 99, ((sk B e (numE B e q) : Nat) : Int))
  else .inr ((x.1, x.2.1, x.2.2.1 + 1, x.2.2.2.1, crU x.2.2.2.2 x.2.2.1 (numV B e q) (numV B e (sk B e (numE B e q)))), sk B e (numE B e (sk B e (numE B e q))))
def ldCl (B : Nat → Int) (e q : Nat) (x : LSt) : Flt ⊕ (LSt × Nat) :=
  if wd B e q = sx 0 then ldTown q (sk B e (q + (wd B e q).length)) x
  else if wd B e q = sx 1 then ldRoad B e q (sk B e (q + (wd B e q).length)) x
  else if wd B e q = sx 2 then ldCart B e q (sk B e (q + (wd B e q).length)) x
  else .inl (1, (q : Int))
def ldRun (B : Nat → Int) (e : Nat) : Nat → Nat → LSt → Flt ⊕ LSt
  | 0, _, x => .inr x
  | j + 1, q, x => if q < e then (match ldCl B e q x with
    | .inl f => .inl f
    | .inr y => if y.2 < e ∧ B y.2 = 59 then ldRun B e j (sk B e (y.2 + 1)) y.1 else .inl (1, (y.2 : Int))) else .inr x
theorem ldRun_l {B : Nat → Int} {e j q : Nat} {x : LSt} {f : Flt} (q1 : q < e) (h : ldCl B e q x = .inl f) : ldRun B e (j + 1) q x = .inl f := by
  unfold ldRun
  rw [if_pos q1, h]
theorem ldRun_r {B : Nat → Int} {e j q : Nat} {x : LSt} {y : LSt × Nat} (q1 : q < e) (h : ldCl B e q x = .inr y) : ldRun B e (j + 1) q x = if y.2 < e ∧ B y.2 = 59 then ldRun B e j (sk B e (y.2 + 1)) y.1 else .inl (1, (y.2 : Int)) := by
  show (if q < e then _ else _) = _
  rw [if_pos q1, h]
theorem sx_len : (sx 0).length = 4 ∧ (sx 1).length = 4 ∧ (sx 2).length = 6 := by decide
/-- a clause that is read takes some bytes -/
theorem ldCl_q {B : Nat → Int} {e q : Nat} {x : LSt} {y : LSt × Nat} (h : ldCl B e q x = .inr y) : q < y.2 := by
  have g0 := sk_ge (B := B) (e := e) (p := q + (wd B e q).length)
  unfold ldCl at h
  by_cases k0 : wd B e q = sx 0
  · have hl : (wd B e q).length = 4 := by rw [k0]; exact sx_len.1
    rw [if_pos k0] at h
    unfold ldTown at h
    by_cases k : x.1 = 7
    · rw [if_pos k] at h
      cases h
    · rw [if_neg k] at h
      injection h with h
      rw [← h]
      show q < sk B e (q + (wd B e q).length)
      omega
  · rw [if_neg k0] at h
    by_cases k1 : wd B e q = sx 1
    · have hl : (wd B e q).length = 4 := by rw [k1]; exact sx_len.2.1
      rw [if_pos k1] at h
      generalize sk B e (q + (wd B e q).length) = p at h g0
      unfold ldRoad at h
      split at h
      · cases h
      · split at h
        · cases h
        · split at h
          · cases h
          · split at h
            · cases h
            · split at h
              · cases h
              · split at h
                · cases h
                · injection h with h
                  rw [← h]
                  have y1 := sk_ge (B := B) (e := e) (p := numE B e p)
                  have y2 := sk_ge (B := B) (e := e) (p := numE B e (sk B e (numE B e p)))
                  have y3 := sk_ge (B := B) (e := e) (p := numE B e (sk B e (numE B e (sk B e (numE B e p)))))
                  have y4 := sk_ge (B := B) (e := e) (p := numE B e (sk B e (numE B e (sk B e (numE B e (sk B e (numE B e p)))))))
                  have z1 : p ≤ numE B e p := Nat.le_add_right _ _
                  have z2 : sk B e (numE B e p) ≤ numE B e (sk B e (numE B e p)) := Nat.le_add_right _ _
                  have z3 : sk B e (numE B e (sk B e (numE B e p))) ≤ numE B e (sk B e (numE B e (sk B e (numE B e p)))) := Nat.le_add_right _ _
                  have z4 : sk B e (numE B e (sk B e (numE B e (sk B e (numE B e p))))) ≤ numE B e (sk B e (numE B e (sk B e (numE B e (sk B e (numE B e p)))))) := Nat.le_add_right _ _
                  show q < sk B e (numE B e (sk B e (numE B e (sk B e (numE B e (sk B e (numE B e p)))))))
                  omega
    · rw [if_neg k1] at h
      by_cases k2 : wd B e q = sx 2
      · have hl : (wd B e q).length = 6 := by rw [k2]; exact sx_len.2.2
        rw [if_pos k2] at h
        generalize sk B e (q + (wd B e q).length) = p at h g0
        unfold ldCart at h
        split at h
        · cases h
        · split at h
          · cases h
          · split at h
            · cases h
            · injection h with h
              rw [← h]
              have y1 := sk_ge (B := B) (e := e) (p := numE B e p)
              have y2 := sk_ge (B := B) (e := e) (p := numE B e (sk B e (numE B e p)))
              have z1 : p ≤ numE B e p := Nat.le_add_right _ _
              have z2 : sk B e (numE B e p) ≤ numE B e (sk B e (numE B e p)) := Nat.le_add_right _ _
              show q < sk B e (numE B e (sk B e (numE B e p)))
              omega
      · rw [if_neg k2] at h
        cases h
theorem rdU_o (rd : Int → Int) (n a b l o : Int) {r i : Int} (h : r ≠ n) (hi : 0 ≤ i ∧ i < 4) : rdU rd n a b l o (4 * r + i) = rd (4 * r + i) := by
  unfold rdU
  rw [if_neg (by omega), if_neg (by omega), if_neg (by omega), if_neg (by omega)]
theorem rdU_o0 (rd : Int → Int) (n a b l o : Int) {r : Int} (h : r ≠ n) : rdU rd n a b l o (4 * r) = rd (4 * r) := by
  have := rdU_o rd n a b l o (i := 0) h (by decide)
  rw [Int.add_zero] at this
  exact this
theorem rdU_0 (rd : Int → Int) (n a b l o : Int) : rdU rd n a b l o (4 * n) = a := if_pos rfl
theorem rdU_1 (rd : Int → Int) (n a b l o : Int) : rdU rd n a b l o (4 * n + 1) = b := by
  unfold rdU
  rw [if_neg (by omega), if_pos rfl]
theorem rdU_2 (rd : Int → Int) (n a b l o : Int) : rdU rd n a b l o (4 * n + 2) = l := by
  unfold rdU
  rw [if_neg (by omega), if_neg (by omega), if_pos rfl]
theorem rdU_3 (rd : Int → Int) (n a b l o : Int) : rdU rd n a b l o (4 * n + 3) = o := by
  unfold rdU
  rw [if_neg (by omega), if_neg (by omega), if_neg (by omega), if_pos rfl]
theorem crU_0 (cr : Int → Int) (n t l : Int) : crU cr n t l (2 * n) = t := if_pos rfl
theorem crU_1 (cr : Int → Int) (n t l : Int) : crU cr n t l (2 * n + 1) = l := by
  unfold crU
  rw [if_neg (by omega), if_pos rfl]
theorem crU_o (cr : Int → Int) (n t l : Int) {c : Int} (h : c ≠ n) : crU cr n t l (2 * c) = cr (2 * c) ∧ crU cr n t l (2 * c + 1) = cr (2 * c + 1) := by
  unfold crU
  rw [if_neg (by omega), if_neg (by omega), if_neg (by omega), if_neg (by omega)]
  exact ⟨rfl, rfl⟩
theorem okL_t {x : LSt} (h : okL x) (h7 : ¬ x.1 = 7) : okL (x.1 + 1, x.2) := by
  obtain ⟨h1, h2, h3, h4, h5⟩ := h
  refine ⟨⟨?_, ?_⟩, h2, h3, fun r r1 r2 => ?_, fun c c1 c2 => ?_⟩
  · show 0 ≤ x.1 + 1
    omega
  · show x.1 + 1 ≤ 7
    omega
  · obtain ⟨a1, a2, a3, a4, a5⟩ := h4 r r1 r2
    exact ⟨a1, Int.lt_trans a2 (Int.lt_succ x.1), a3, Int.lt_trans a4 (Int.lt_succ x.1), a5⟩
  · obtain ⟨a1, a2, a3⟩ := h5 c c1 c2
    exact ⟨a1, Int.lt_trans a2 (Int.lt_succ x.1), a3⟩
theorem okL_r {x : LSt} (h : okL x) (h12 : ¬ x.2.1 = 12) {a b l o : Int} (ha : 0 ≤ a ∧ a ≤ x.1 - 1) (hb : 0 ≤ b ∧ b ≤ x.1 - 1) (hab : ¬ a = b) (hl : 1 ≤ l ∧ l ≤ 40) (ho : 0 ≤ o ∧ o ≤ 6) : okL (x.1, x.2.1 + 1, x.2.2.1, rdU x.2.2.2.1 x.2.1 a b l o, x.2.2.2.2) := by
  obtain ⟨h1, h2, h3, h4, h5⟩ := h
  refine ⟨h1, ⟨?_, ?_⟩, h3, fun r r1 r2 => ?_, h5⟩
  · show 0 ≤ x.2.1 + 1
    omega
  · show x.2.1 + 1 ≤ 12
    omega
  · show 0 ≤ rdU x.2.2.2.1 x.2.1 a b l o (4 * r) ∧ rdU x.2.2.2.1 x.2.1 a b l o (4 * r) < x.1 ∧ 0 ≤ rdU x.2.2.2.1 x.2.1 a b l o (4 * r + 1) ∧ rdU x.2.2.2.1 x.2.1 a b l o (4 * r + 1) < x.1 ∧ ¬ rdU x.2.2.2.1 x.2.1 a b l o (4 * r) = rdU x.2.2.2.1 x.2.1 a b l o (4 * r + 1) ∧ 1 ≤ rdU x.2.2.2.1 x.2.1 a b l o (4 * r + 2) ∧ rdU x.2.2.2.1 x.2.1 a b l o (4 * r + 2) ≤ 40 ∧ 0 ≤ rdU x.2.2.2.1 x.2.1 a b l o (4 * r + 3) ∧ rdU x.2.2.2.1 x.2.1 a b l o (4 * r + 3) < 7
    have r2 : r < x.2.1 + 1 := r2
    by_cases e : r = x.2.1
    · rw [e, rdU_0, rdU_1, rdU_2, rdU_3]
      exact ⟨ha.1, by omega, hb.1, by omega, hab, hl.1, hl.2, ho.1, by omega⟩
    · rw [rdU_o0 _ _ _ _ _ _ e, rdU_o _ _ _ _ _ _ e (by decide), rdU_o _ _ _ _ _ _ e (by decide), rdU_o _ _ _ _ _ _ e (by decide)]
      exact h4 r r1 (by omega)
theorem okL_c {x : LSt} (h : okL x) (h5' : ¬ x.2.2.1 = 5) {t l : Int} (ht : 0 ≤ t ∧ t ≤ x.1 - 1) (hl : 0 ≤ l ∧ l ≤ 99) : okL (x.1, x.2.1, x.2.2.1 + 1, x.2.2.2.1, crU x.2.2.2.2 x.2.2.1 t l) := by
  obtain ⟨h1, h2, h3, h4, h5⟩ := h
  refine ⟨h1, h2, ⟨?_, ?_⟩, h4, fun c c1 c2 => ?_⟩
  · show 0 ≤ x.2.2.1 + 1
    omega
  · show x.2.2.1 + 1 ≤ 5
    omega
  · show 0 ≤ crU x.2.2.2.2 x.2.2.1 t l (2 * c) ∧ crU x.2.2.2.2 x.2.2.1 t l (2 * c) < x.1 ∧ 0 ≤ crU x.2.2.2.2 x.2.2.1 t l (2 * c + 1) ∧ crU x.2.2.2.2 x.2.2.1 t l (2 * c + 1) ≤ 99
    have c2 : c < x.2.2.1 + 1 := c2
    by_cases e : c = x.2.2.1
    · rw [e, crU_0, crU_1]
      exact ⟨ht.1, by omega, hl⟩
    · obtain ⟨e1, e2⟩ := crU_o x.2.2.2.2 x.2.2.1 t l e
      rw [e1, e2]
      exact h5 c c1 (by omega)
/-- what is told so far, the class -/
def CLd (S : Hp) (l : Nat) (x : LSt) : Prop := S l 6 = x.1 ∧ S l 7 = x.2.1 ∧ S l 8 = x.2.2.1 ∧ (∀ r, 0 ≤ r → r < x.2.1 → S (l + 1) r = x.2.2.2.1 (4 * r) ∧ S (l + 2) r = x.2.2.2.1 (4 * r + 1) ∧ S (l + 3) r = x.2.2.2.1 (4 * r + 2) ∧ S (l + 4) r = x.2.2.2.1 (4 * r + 3)) ∧ (∀ c, 0 ≤ c → c < x.2.2.1 → S (l + 5) c = x.2.2.2.2 (2 * c) ∧ S (l + 6) c = x.2.2.2.2 (2 * c + 1)) ∧ okL x
abbrev FlL (l : Nat) (S S' : Hp) : Prop := Fr [1, l, l + 1, l + 2, l + 3, l + 4, l + 5, l + 6] S S' ∧ ∀ k, k < 3 → S' 1 k = S 1 k
theorem FlL_t {l : Nat} {S S' : Hp} (h : FT S S') : FlL l S S' := ⟨fun o ho => h.1 o (fun z => ho (by rw [List.mem_singleton.mp z]; exact List.mem_cons_self ..)), fun k hk1 => h.2 k (Or.inl hk1)⟩
theorem FlL_tr {l : Nat} {S S1 S2 : Hp} (h : FlL l S S1) (h2 : FlL l S1 S2) : FlL l S S2 := ⟨fun o ho => (h2.1 o ho).trans (h.1 o ho), fun k hk1 => (h2.2 k hk1).trans (h.2 k hk1)⟩
theorem FlL_u {l : Nat} (S : Hp) (i : Nat) (a v : Int) (h : i ≤ 6) (hl : 2 < l) : FlL l S (uS S (l + i) a v) := ⟨fun x hx => uS_row _ _ _ (fun z => hx (by rw [z]; simp only [List.mem_cons, List.not_mem_nil, or_false]; omega)), fun k _ => by rw [uS_row _ _ _ (by omega)]⟩
theorem CLd_ft {l : Nat} (hl : 2 < l) {S S' : Hp} {x : LSt} (h : CLd S l x) (hF : FT S S') : CLd S' l x := by
  have e : ∀ i, S' (l + i) = S (l + i) := fun i => hF.1 _ (fun z => by have := List.mem_singleton.mp z; omega)
  have e0 : S' l = S l := e 0
  unfold CLd
  rw [e0, e 1, e 2, e 3, e 4, e 5, e 6]
  exact h
theorem ft_l {l i : Nat} {S S' : Hp} (hF : FT S S') (hl : 2 < l) : S' (l + i) = S (l + i) := hF.1 _ (fun z => by have := List.mem_singleton.mp z; omega)
/-- what reading comes to -/
def ldFin (S' : Hp) (l : Nat) (B : Nat → Int) (e : Nat) (r : Flt ⊕ (LSt × Nat)) : Prop := match r with
  | .inl f => S' 1 6 = f.1 ∧ S' 1 7 = f.2
  | .inr y => Tp S' B e y.2 ∧ CLd S' l y.1
theorem cI_go {c : aRes} {f : Int32 → aSt → aRes} {h : Nat → aSt → aRes} {r : Int32} {st : aSt} {R : aRes} (hc : c = some (.inl (some (.int r)), st)) (hf : f r st = R) : cI c f h = R := by
  rw [hc, cI_some]
  exact hf
theorem cV_go {c : aRes} {f : aSt → aRes} {h : Nat → aSt → aRes} {st : aSt} {R : aRes} (hc : c = some (.inl none, st)) (hf : f st = R) : cV c f h = R := by
  rw [hc, cV_some]
  exact hf
section LTX
variable {X : Nat × (Nat → Int32)} {d : Nat} {w : Bool × Bool × Bool} {S : Hp} {J : Nat → Nat → Int64} {B : Nat → Int} {e q t : Nat} {x : LSt} {bl : Bool}
theorem c_ldTown (w : Bool × Bool × Bool) (J : Nat → Nat → Int64) (h : Tp S B e q) (h4 : S 1 4 = (t : Int)) (hL : CLd S (iL bl) x) : ∃ S', (∀ d, am_call X aP (d + 2) 20 [.ref ((iL bl)), .ref 1] (mkS w (hI S) J) = some (.inl (some (.int (zI (sg (ldTown t q x))))), (mkS w (hI S') J))) ∧ ldFin S' (iL bl) B e (ldTown t q x) ∧ FlL (iL bl) S S' := by
  have hb := iL_c bl
  obtain ⟨t6, t7, t8, hr, hc, hok⟩ := id hL
  obtain ⟨o1, -⟩ := id hok
  unfold ldTown
  by_cases k : x.1 = 7
  · rw [if_pos k]
    obtain ⟨S1, g1, g2, g3⟩ := T_failTok (X := X) w J h 3 h4
    refine ⟨S1, fun d => ?_, g2, FlL_t g3⟩
    rw [go_X2_addTown, e_X2_addTown_0]
    simp (disch := omega) only [hk, hu, hI_n, hI_un, z_nat, em_d, zl, z_add, z_sub, z_mul, z_lt, z_eq, gI_mk, gJ_mk, cI_some, cV_some, cJ_some, cI_x, cV_x, cJ_x, uS_self, uS_ne, if_pos, if_neg, b01, b01n, ite_not, if_true, if_false, Bool.false_eq_true, hLL, t6]
    rw [g1]
    simp (disch := omega) only [hk, hu, hI_n, hI_un, z_nat, em_d, zl, z_add, z_sub, z_mul, z_lt, z_eq, gI_mk, gJ_mk, cI_some, cV_some, cJ_some, cI_x, cV_x, cJ_x, uS_self, uS_ne, if_pos, if_neg, b01, b01n, ite_not, if_true, if_false, Bool.false_eq_true, hLL, z_bok0, sg_l, rI_d]
  · rw [if_neg k]
    refine ⟨uS S (iL bl + 0) 6 (x.1 + 1), fun d => ?_, ⟨Tp_o h (uS_row _ _ _ (by omega)) (uS_row _ _ _ (by omega)), uS_self _ _ _ _, ?_, ?_, fun r r1 r2 => ?_, fun c c1 c2 => ?_, okL_t hok k⟩, FlL_u S 0 _ _ (by decide) (by omega)⟩
    · rw [go_X2_addTown, e_X2_addTown_0]
      simp (disch := omega) only [hk, hu, hI_n, hI_un, z_nat, em_d, zl, z_add, z_sub, z_mul, z_lt, z_eq, gI_mk, gJ_mk, cI_some, cV_some, cJ_some, cI_x, cV_x, cJ_x, uS_self, uS_ne, if_pos, if_neg, b01, b01n, ite_not, if_true, if_false, Bool.false_eq_true, hLL, t6, sg_r, rI_d]
      rfl
    · rw [uS_ne _ _ (Or.inr (by decide))]
      exact t7
    · rw [uS_ne _ _ (Or.inr (by decide))]
      exact t8
    · rw [uS_row _ _ _ (by omega), uS_row _ _ _ (by omega), uS_row _ _ _ (by omega), uS_row _ _ _ (by omega)]
      exact hr r r1 r2
    · rw [uS_row _ _ _ (by omega), uS_row _ _ _ (by omega)]
      exact hc c c1 c2

theorem c_ldRoad_f (w : Bool × Bool × Bool) (J : Nat → Nat → Int64) (h : Tp S B e q) (h4 : S 1 4 = (t : Int)) (hL : CLd S (iL bl) x) (k : x.2.1 = 12) : ∃ S', (∀ d, am_call X aP (d + 4) 21 [.ref ((iL bl)), .ref 1] (mkS w (hI S) J) = some (.inl (some (.int (zI 0))), (mkS w (hI S') J))) ∧ (S' 1 6 = 3 ∧ S' 1 7 = (t : Int)) ∧ FlL (iL bl) S S' := by
  have hb := iL_c bl
  obtain ⟨t6, t7, t8, hr, hc, hok⟩ := id hL
  obtain ⟨⟨o1, o2⟩, ⟨o3, o4⟩, ⟨o5, o6⟩, -⟩ := id hok
  obtain ⟨S1, g1, g2, g3⟩ := T_failTok (X := X) w J h 3 h4
  refine ⟨S1, fun d => ?_, g2, FlL_t g3⟩
  rw [go_X2_addRoad, e_X2_addRoad_0]
  refine (if_neg ?_).trans ?_
  · simp (disch := omega) only [hk, hu, hI_n, hI_un, z_nat, em_d, zl, z_add, z_sub, z_mul, z_lt, z_eq, gI_mk, gJ_mk, cI_some, cV_some, cJ_some, cI_x, cV_x, cJ_x, uS_self, uS_ne, if_pos, if_neg, b01, b01n, ite_not, if_true, if_false, Bool.false_eq_true, hLL, t7, t6]
    omega
  refine cI_go (r := zI 0) (st := mkS w (hI S1) J) ?_ ?_
  · simp (disch := omega) only [hk, hu, hI_n, hI_un, z_nat, em_d, zl, z_add, z_sub, z_mul, z_lt, z_eq, gI_mk, gJ_mk, cI_some, cV_some, cJ_some, cI_x, cV_x, cJ_x, uS_self, uS_ne, if_pos, if_neg, b01, b01n, ite_not, if_true, if_false, Bool.false_eq_true, hLL, t7, t6]
    exact g1 _
  simp (disch := omega) only [hk, hu, hI_n, hI_un, z_nat, em_d, zl, z_add, z_sub, z_mul, z_lt, z_eq, gI_mk, gJ_mk, cI_some, cV_some, cJ_some, cI_x, cV_x, cJ_x, uS_self, uS_ne, if_pos, if_neg, b01, b01n, ite_not, if_true, if_false, Bool.false_eq_true, hLL, z_bok0, rI_d]
theorem c_ldRoad_0 (w : Bool × Bool × Bool) (J : Nat → Nat → Int64) (h : Tp S B e q) (hL : CLd S (iL bl) x) (kn : ¬ x.2.1 = 12)  (kk : ¬ numK B e q 0 (x.1 - 1) = 0) : ∃ S', (∀ d, am_call X aP (d + 4) 21 [.ref ((iL bl)), .ref 1] (mkS w (hI S) J) = some (.inl (some (.int (zI 0))), (mkS w (hI S') J))) ∧ (S' 1 6 = numK B e q 0 (x.1 - 1) ∧ S' 1 7 = ((q : Nat) : Int)) ∧ FlL (iL bl) S S' := by
  have hb := iL_c bl
  obtain ⟨t6, t7, t8, hr, hc, hok⟩ := id hL
  obtain ⟨⟨o1, o2⟩, ⟨o3, o4⟩, ⟨o5, o6⟩, -⟩ := id hok
  obtain ⟨S9, g1, g2, g3⟩ := T_num0 (X := X) w J h (lo := 0) (hi := (x.1 - 1)) (by omega) (by omega) kk
  refine ⟨S9, fun d => ?_, g2, FlL_t g3⟩
  rw [go_X2_addRoad, e_X2_addRoad_0]
  refine (if_pos ?_).trans ?_
  · simp (disch := omega) only [hk, hu, hI_n, hI_un, z_nat, em_d, zl, z_add, z_sub, z_mul, z_lt, z_eq, gI_mk, gJ_mk, cI_some, cV_some, cJ_some, cI_x, cV_x, cJ_x, uS_self, uS_ne, if_pos, if_neg, b01, b01n, ite_not, if_true, if_false, Bool.false_eq_true, hLL, t7, t6]
    omega
  refine cI_go (r := zI 0) (st := mkS w (hI S9) J) ?_ ?_
  · simp (disch := omega) only [hk, hu, hI_n, hI_un, z_nat, em_d, zl, z_add, z_sub, z_mul, z_lt, z_eq, gI_mk, gJ_mk, cI_some, cV_some, cJ_some, cI_x, cV_x, cJ_x, uS_self, uS_ne, if_pos, if_neg, b01, b01n, ite_not, if_true, if_false, Bool.false_eq_true, hLL, t7, t6]
    exact g1 _
  refine (if_pos ?_).trans ?_
  · decide
  simp (disch := omega) only [hk, hu, hI_n, hI_un, z_nat, em_d, zl, z_add, z_sub, z_mul, z_lt, z_eq, gI_mk, gJ_mk, cI_some, cV_some, cJ_some, cI_x, cV_x, cJ_x, uS_self, uS_ne, if_pos, if_neg, b01, b01n, ite_not, if_true, if_false, Bool.false_eq_true, hLL, rI_d]
theorem c_ldRoad_1 (w : Bool × Bool × Bool) (J : Nat → Nat → Int64) (h : Tp S B e q) (hL : CLd S (iL bl) x) (kn : ¬ x.2.1 = 12) (k0 : numK B e q 0 (x.1 - 1) = 0) (kk : ¬ numK B e (sk B e (numE B e q)) 0 (x.1 - 1) = 0) : ∃ S', (∀ d, am_call X aP (d + 4) 21 [.ref ((iL bl)), .ref 1] (mkS w (hI S) J) = some (.inl (some (.int (zI 0))), (mkS w (hI S') J))) ∧ (S' 1 6 = numK B e (sk B e (numE B e q)) 0 (x.1 - 1) ∧ S' 1 7 = ((sk B e (numE B e q) : Nat) : Int)) ∧ FlL (iL bl) S S' := by
  have hb := iL_c bl
  obtain ⟨t6, t7, t8, hr, hc, hok⟩ := id hL
  obtain ⟨⟨o1, o2⟩, ⟨o3, o4⟩, ⟨o5, o6⟩, -⟩ := id hok
  obtain ⟨n0a, n0b, n0c⟩ := numK_0 k0
  obtain ⟨S0, f01, f02, f03, f04, f05⟩ := T_num1 (X := X) w J h (lo := 0) (hi := (x.1 - 1)) (by omega) (by omega) k0
  obtain ⟨v0, hv0⟩ : ∃ v, v = numV B e q := ⟨_, rfl⟩
  rw [← hv0] at n0b n0c f04
  have e0 : ∀ j, S0 (iL bl + j) = S (iL bl + j) := fun j => ft_l f05 (by omega)
  have z07 : S0 (iL bl) 7 = x.2.1 := by
    rw [show iL bl = iL bl + 0 from rfl, e0 0]
    exact t7
  have z06 : S0 (iL bl) 6 = x.1 := by
    rw [show iL bl = iL bl + 0 from rfl, e0 0]
    exact t6
  obtain ⟨S9, g1, g2, g3⟩ := T_num0 (X := X) w J (Tp_o f02 (uS_row _ _ _ (by omega)) (uS_row _ _ _ (by omega)) : Tp (uS S0 (iL bl + 1) x.2.1 v0) B e _) (lo := 0) (hi := (x.1 - 1)) (by omega) (by omega) kk
  refine ⟨S9, fun d => ?_, g2, FlL_tr (FlL_t f05) (FlL_tr (FlL_u S0 1 _ _ (by decide) (by omega)) (FlL_t g3))⟩
  rw [go_X2_addRoad, e_X2_addRoad_0]
  refine (if_pos ?_).trans ?_
  · simp (disch := omega) only [hk, hu, hI_n, hI_un, z_nat, em_d, zl, z_add, z_sub, z_mul, z_lt, z_eq, gI_mk, gJ_mk, cI_some, cV_some, cJ_some, cI_x, cV_x, cJ_x, uS_self, uS_ne, if_pos, if_neg, b01, b01n, ite_not, if_true, if_false, Bool.false_eq_true, hLL, t7, t6]
    omega
  refine cI_go (r := zI 1) (st := mkS w (hI S0) J) ?_ ?_
  · simp (disch := omega) only [hk, hu, hI_n, hI_un, z_nat, em_d, zl, z_add, z_sub, z_mul, z_lt, z_eq, gI_mk, gJ_mk, cI_some, cV_some, cJ_some, cI_x, cV_x, cJ_x, uS_self, uS_ne, if_pos, if_neg, b01, b01n, ite_not, if_true, if_false, Bool.false_eq_true, hLL, t7, t6]
    exact f01 _
  refine (if_neg ?_).trans ?_
  · decide
  refine (if_neg ?_).trans ?_
  · simp (disch := omega) only [hk, hu, hI_n, hI_un, z_nat, em_d, zl, z_add, z_sub, z_mul, z_lt, z_eq, gI_mk, gJ_mk, cI_some, cV_some, cJ_some, cI_x, cV_x, cJ_x, uS_self, uS_ne, if_pos, if_neg, b01, b01n, ite_not, if_true, if_false, Bool.false_eq_true, hLL, t7, t6, z07, z06, f04]
    omega
  refine cI_go (r := zI 0) (st := mkS w (hI S9) J) ?_ ?_
  · simp (disch := omega) only [hk, hu, hI_n, hI_un, z_nat, em_d, zl, z_add, z_sub, z_mul, z_lt, z_eq, gI_mk, gJ_mk, cI_some, cV_some, cJ_some, cI_x, cV_x, cJ_x, uS_self, uS_ne, if_pos, if_neg, b01, b01n, ite_not, if_true, if_false, Bool.false_eq_true, hLL, t7, t6, z07, z06, f04]
    exact g1 _
  refine (if_pos ?_).trans ?_
  · decide
  simp (disch := omega) only [hk, hu, hI_n, hI_un, z_nat, em_d, zl, z_add, z_sub, z_mul, z_lt, z_eq, gI_mk, gJ_mk, cI_some, cV_some, cJ_some, cI_x, cV_x, cJ_x, uS_self, uS_ne, if_pos, if_neg, b01, b01n, ite_not, if_true, if_false, Bool.false_eq_true, hLL, rI_d]
theorem c_ldRoad_2 (w : Bool × Bool × Bool) (J : Nat → Nat → Int64) (h : Tp S B e q) (hL : CLd S (iL bl) x) (kn : ¬ x.2.1 = 12) (k0 : numK B e q 0 (x.1 - 1) = 0) (k1 : numK B e (sk B e (numE B e q)) 0 (x.1 - 1) = 0) (hab : ¬ numV B e q = numV B e (sk B e (numE B e q))) (kk : ¬ numK B e (sk B e (numE B e (sk B e (numE B e q)))) 1 40 = 0) : ∃ S', (∀ d, am_call X aP (d + 4) 21 [.ref ((iL bl)), .ref 1] (mkS w (hI S) J) = some (.inl (some (.int (zI 0))), (mkS w (hI S') J))) ∧ (S' 1 6 = numK B e (sk B e (numE B e (sk B e (numE B e q)))) 1 40 ∧ S' 1 7 = ((sk B e (numE B e (sk B e (numE B e q))) : Nat) : Int)) ∧ FlL (iL bl) S S' := by
  have hb := iL_c bl
  obtain ⟨t6, t7, t8, hr, hc, hok⟩ := id hL
  obtain ⟨⟨o1, o2⟩, ⟨o3, o4⟩, ⟨o5, o6⟩, -⟩ := id hok
  obtain ⟨n0a, n0b, n0c⟩ := numK_0 k0
  obtain ⟨S0, f01, f02, f03, f04, f05⟩ := T_num1 (X := X) w J h (lo := 0) (hi := (x.1 - 1)) (by omega) (by omega) k0
  obtain ⟨v0, hv0⟩ : ∃ v, v = numV B e q := ⟨_, rfl⟩
  rw [← hv0] at n0b n0c f04
  have e0 : ∀ j, S0 (iL bl + j) = S (iL bl + j) := fun j => ft_l f05 (by omega)
  have z07 : S0 (iL bl) 7 = x.2.1 := by
    rw [show iL bl = iL bl + 0 from rfl, e0 0]
    exact t7
  have z06 : S0 (iL bl) 6 = x.1 := by
    rw [show iL bl = iL bl + 0 from rfl, e0 0]
    exact t6
  obtain ⟨n1a, n1b, n1c⟩ := numK_0 k1
  obtain ⟨S1, f11, f12, f13, f14, f15⟩ := T_num1 (X := X) w J (Tp_o f02 (uS_row _ _ _ (by omega)) (uS_row _ _ _ (by omega)) : Tp (uS S0 (iL bl + 1) x.2.1 v0) B e _) (lo := 0) (hi := (x.1 - 1)) (by omega) (by omega) k1
  obtain ⟨v1, hv1⟩ : ∃ v, v = numV B e (sk B e (numE B e q)) := ⟨_, rfl⟩
  rw [← hv1] at n1b n1c f14
  have e1 : ∀ j, S1 (iL bl + j) = (uS S0 (iL bl + 1) x.2.1 v0) (iL bl + j) := fun j => ft_l f15 (by omega)
  have z17 : S1 (iL bl) 7 = x.2.1 := by
    rw [show iL bl = iL bl + 0 from rfl, e1 0, uS_row _ _ _ (by omega)]
    exact z07
  have z16 : S1 (iL bl) 6 = x.1 := by
    rw [show iL bl = iL bl + 0 from rfl, e1 0, uS_row _ _ _ (by omega)]
    exact z06
  rw [← hv0, ← hv1] at hab
  have c10 : S1 (iL bl + 1) x.2.1 = v0 := by rw [e1 1, uS_self]
  obtain ⟨S9, g1, g2, g3⟩ := T_num0 (X := X) w J (Tp_o f12 (uS_row _ _ _ (by omega)) (uS_row _ _ _ (by omega)) : Tp (uS S1 (iL bl + 2) x.2.1 v1) B e _) (lo := 1) (hi := 40) (by omega) (by omega) kk
  refine ⟨S9, fun d => ?_, g2, FlL_tr (FlL_t f05) (FlL_tr (FlL_u S0 1 _ _ (by decide) (by omega)) (FlL_tr (FlL_t f15) (FlL_tr (FlL_u S1 2 _ _ (by decide) (by omega)) (FlL_t g3))))⟩
  rw [go_X2_addRoad, e_X2_addRoad_0]
  refine (if_pos ?_).trans ?_
  · simp (disch := omega) only [hk, hu, hI_n, hI_un, z_nat, em_d, zl, z_add, z_sub, z_mul, z_lt, z_eq, gI_mk, gJ_mk, cI_some, cV_some, cJ_some, cI_x, cV_x, cJ_x, uS_self, uS_ne, if_pos, if_neg, b01, b01n, ite_not, if_true, if_false, Bool.false_eq_true, hLL, t7, t6]
    omega
  refine cI_go (r := zI 1) (st := mkS w (hI S0) J) ?_ ?_
  · simp (disch := omega) only [hk, hu, hI_n, hI_un, z_nat, em_d, zl, z_add, z_sub, z_mul, z_lt, z_eq, gI_mk, gJ_mk, cI_some, cV_some, cJ_some, cI_x, cV_x, cJ_x, uS_self, uS_ne, if_pos, if_neg, b01, b01n, ite_not, if_true, if_false, Bool.false_eq_true, hLL, t7, t6]
    exact f01 _
  refine (if_neg ?_).trans ?_
  · decide
  refine (if_neg ?_).trans ?_
  · simp (disch := omega) only [hk, hu, hI_n, hI_un, z_nat, em_d, zl, z_add, z_sub, z_mul, z_lt, z_eq, gI_mk, gJ_mk, cI_some, cV_some, cJ_some, cI_x, cV_x, cJ_x, uS_self, uS_ne, if_pos, if_neg, b01, b01n, ite_not, if_true, if_false, Bool.false_eq_true, hLL, t7, t6, z07, z06, f04]
    omega
  refine cI_go (r := zI 1) (st := mkS w (hI S1) J) ?_ ?_
  · simp (disch := omega) only [hk, hu, hI_n, hI_un, z_nat, em_d, zl, z_add, z_sub, z_mul, z_lt, z_eq, gI_mk, gJ_mk, cI_some, cV_some, cJ_some, cI_x, cV_x, cJ_x, uS_self, uS_ne, if_pos, if_neg, b01, b01n, ite_not, if_true, if_false, Bool.false_eq_true, hLL, t7, t6, z07, z06, f04]
    exact f11 _
  refine (if_neg ?_).trans ?_
  · decide
  refine (if_neg ?_).trans ?_
  · simp (disch := omega) only [hk, hu, hI_n, hI_un, z_nat, em_d, zl, z_add, z_sub, z_mul, z_lt, z_eq, gI_mk, gJ_mk, cI_some, cV_some, cJ_some, cI_x, cV_x, cJ_x, uS_self, uS_ne, if_pos, if_neg, b01, b01n, ite_not, if_true, if_false, Bool.false_eq_true, hLL, t7, t6, z07, z06, f04, z17, z16, f14]
    omega
  refine (if_neg ?_).trans ?_
  · simp (disch := omega) only [hk, hu, hI_n, hI_un, z_nat, em_d, zl, z_add, z_sub, z_mul, z_lt, z_eq, gI_mk, gJ_mk, cI_some, cV_some, cJ_some, cI_x, cV_x, cJ_x, uS_self, uS_ne, if_pos, if_neg, b01, b01n, ite_not, if_true, if_false, Bool.false_eq_true, hLL, t7, t6, z07, z06, f04, z17, z16, f14, c10]
    omega
  refine (if_neg ?_).trans ?_
  · simp (disch := omega) only [hk, hu, hI_n, hI_un, z_nat, em_d, zl, z_add, z_sub, z_mul, z_lt, z_eq, gI_mk, gJ_mk, cI_some, cV_some, cJ_some, cI_x, cV_x, cJ_x, uS_self, uS_ne, if_pos, if_neg, b01, b01n, ite_not, if_true, if_false, Bool.false_eq_true, hLL, t7, t6, z07, z06, f04, z17, z16, f14, c10]
    omega
  refine (if_neg ?_).trans ?_
  · simp (disch := omega) only [hk, hu, hI_n, hI_un, z_nat, em_d, zl, z_add, z_sub, z_mul, z_lt, z_eq, gI_mk, gJ_mk, cI_some, cV_some, cJ_some, cI_x, cV_x, cJ_x, uS_self, uS_ne, if_pos, if_neg, b01, b01n, ite_not, if_true, if_false, Bool.false_eq_true, hLL, t7, t6, z07, z06, f04, z17, z16, f14, c10]
    exact hab
  refine cI_go (r := zI 0) (st := mkS w (hI S9) J) ?_ ?_
  · simp (disch := omega) only [hk, hu, hI_n, hI_un, z_nat, em_d, zl, z_add, z_sub, z_mul, z_lt, z_eq, gI_mk, gJ_mk, cI_some, cV_some, cJ_some, cI_x, cV_x, cJ_x, uS_self, uS_ne, if_pos, if_neg, b01, b01n, ite_not, if_true, if_false, Bool.false_eq_true, hLL, t7, t6, z07, z06, f04, z17, z16, f14, c10]
    exact g1 _
  refine (if_pos ?_).trans ?_
  · decide
  simp (disch := omega) only [hk, hu, hI_n, hI_un, z_nat, em_d, zl, z_add, z_sub, z_mul, z_lt, z_eq, gI_mk, gJ_mk, cI_some, cV_some, cJ_some, cI_x, cV_x, cJ_x, uS_self, uS_ne, if_pos, if_neg, b01, b01n, ite_not, if_true, if_false, Bool.false_eq_true, hLL, rI_d]
theorem c_ldRoad_3 (w : Bool × Bool × Bool) (J : Nat → Nat → Int64) (h : Tp S B e q) (hL : CLd S (iL bl) x) (kn : ¬ x.2.1 = 12) (k0 : numK B e q 0 (x.1 - 1) = 0) (k1 : numK B e (sk B e (numE B e q)) 0 (x.1 - 1) = 0) (k2 : numK B e (sk B e (numE B e (sk B e (numE B e q)))) 1 40 = 0) (hab : ¬ numV B e q = numV B e (sk B e (numE B e q))) (kk : ¬ numK B e (sk B e (numE B e (sk B e (numE B e (sk B e (numE B e q)))))) 0 6 = 0) : ∃ S', (∀ d, am_call X aP (d + 4) 21 [.ref ((iL bl)), .ref 1] (mkS w (hI S) J) = some (.inl (some (.int (zI 0))), (mkS w (hI S') J))) ∧ (S' 1 6 = numK B e (sk B e (numE B e (sk B e (numE B e (sk B e (numE B e q)))))) 0 6 ∧ S' 1 7 = ((sk B e (numE B e (sk B e (numE B e (sk B e (numE B e q))))) : Nat) : Int)) ∧ FlL (iL bl) S S' := by
  have hb := iL_c bl
  obtain ⟨t6, t7, t8, hr, hc, hok⟩ := id hL
  obtain ⟨⟨o1, o2⟩, ⟨o3, o4⟩, ⟨o5, o6⟩, -⟩ := id hok
  obtain ⟨n0a, n0b, n0c⟩ := numK_0 k0
  obtain ⟨S0, f01, f02, f03, f04, f05⟩ := T_num1 (X := X) w J h (lo := 0) (hi := (x.1 - 1)) (by omega) (by omega) k0
  obtain ⟨v0, hv0⟩ : ∃ v, v = numV B e q := ⟨_, rfl⟩
  rw [← hv0] at n0b n0c f04
  have e0 : ∀ j, S0 (iL bl + j) = S (iL bl + j) := fun j => ft_l f05 (by omega)
  have z07 : S0 (iL bl) 7 = x.2.1 := by
    rw [show iL bl = iL bl + 0 from rfl, e0 0]
    exact t7
  have z06 : S0 (iL bl) 6 = x.1 := by
    rw [show iL bl = iL bl + 0 from rfl, e0 0]
    exact t6
  obtain ⟨n1a, n1b, n1c⟩ := numK_0 k1
  obtain ⟨S1, f11, f12, f13, f14, f15⟩ := T_num1 (X := X) w J (Tp_o f02 (uS_row _ _ _ (by omega)) (uS_row _ _ _ (by omega)) : Tp (uS S0 (iL bl + 1) x.2.1 v0) B e _) (lo := 0) (hi := (x.1 - 1)) (by omega) (by omega) k1
  obtain ⟨v1, hv1⟩ : ∃ v, v = numV B e (sk B e (numE B e q)) := ⟨_, rfl⟩
  rw [← hv1] at n1b n1c f14
  have e1 : ∀ j, S1 (iL bl + j) = (uS S0 (iL bl + 1) x.2.1 v0) (iL bl + j) := fun j => ft_l f15 (by omega)
  have z17 : S1 (iL bl) 7 = x.2.1 := by
    rw [show iL bl = iL bl + 0 from rfl, e1 0, uS_row _ _ _ (by omega)]
    exact z07
  have z16 : S1 (iL bl) 6 = x.1 := by
    rw [show iL bl = iL bl + 0 from rfl, e1 0, uS_row _ _ _ (by omega)]
    exact z06
  obtain ⟨n2a, n2b, n2c⟩ := numK_0 k2
  obtain ⟨S2, f21, f22, f23, f24, f25⟩ := T_num1 (X := X) w J (Tp_o f12 (uS_row _ _ _ (by omega)) (uS_row _ _ _ (by omega)) : Tp (uS S1 (iL bl + 2) x.2.1 v1) B e _) (lo := 1) (hi := 40) (by omega) (by omega) k2
  obtain ⟨v2, hv2⟩ : ∃ v, v = numV B e (sk B e (numE B e (sk B e (numE B e q)))) := ⟨_, rfl⟩
  rw [← hv2] at n2b n2c f24
  have e2 : ∀ j, S2 (iL bl + j) = (uS S1 (iL bl + 2) x.2.1 v1) (iL bl + j) := fun j => ft_l f25 (by omega)
  have z27 : S2 (iL bl) 7 = x.2.1 := by
    rw [show iL bl = iL bl + 0 from rfl, e2 0, uS_row _ _ _ (by omega)]
    exact z17
  have z26 : S2 (iL bl) 6 = x.1 := by
    rw [show iL bl = iL bl + 0 from rfl, e2 0, uS_row _ _ _ (by omega)]
    exact z16
  rw [← hv0, ← hv1] at hab
  have c10 : S1 (iL bl + 1) x.2.1 = v0 := by rw [e1 1, uS_self]
  obtain ⟨S9, g1, g2, g3⟩ := T_num0 (X := X) w J (Tp_o f22 (uS_row _ _ _ (by omega)) (uS_row _ _ _ (by omega)) : Tp (uS S2 (iL bl + 3) x.2.1 v2) B e _) (lo := 0) (hi := 6) (by omega) (by omega) kk
  refine ⟨S9, fun d => ?_, g2, FlL_tr (FlL_t f05) (FlL_tr (FlL_u S0 1 _ _ (by decide) (by omega)) (FlL_tr (FlL_t f15) (FlL_tr (FlL_u S1 2 _ _ (by decide) (by omega)) (FlL_tr (FlL_t f25) (FlL_tr (FlL_u S2 3 _ _ (by decide) (by omega)) (FlL_t g3))))))⟩
  rw [go_X2_addRoad, e_X2_addRoad_0]
  refine (if_pos ?_).trans ?_
  · simp (disch := omega) only [hk, hu, hI_n, hI_un, z_nat, em_d, zl, z_add, z_sub, z_mul, z_lt, z_eq, gI_mk, gJ_mk, cI_some, cV_some, cJ_some, cI_x, cV_x, cJ_x, uS_self, uS_ne, if_pos, if_neg, b01, b01n, ite_not, if_true, if_false, Bool.false_eq_true, hLL, t7, t6]
    omega
  refine cI_go (r := zI 1) (st := mkS w (hI S0) J) ?_ ?_
  · simp (disch := omega) only [hk, hu, hI_n, hI_un, z_nat, em_d, zl, z_add, z_sub, z_mul, z_lt, z_eq, gI_mk, gJ_mk, cI_some, cV_some, cJ_some, cI_x, cV_x, cJ_x, uS_self, uS_ne, if_pos, if_neg, b01, b01n, ite_not, if_true, if_false, Bool.false_eq_true, hLL, t7, t6]
    exact f01 _
  refine (if_neg ?_).trans ?_
  · decide
  refine (if_neg ?_).trans ?_
  · simp (disch := omega) only [hk, hu, hI_n, hI_un, z_nat, em_d, zl, z_add, z_sub, z_mul, z_lt, z_eq, gI_mk, gJ_mk, cI_some, cV_some, cJ_some, cI_x, cV_x, cJ_x, uS_self, uS_ne, if_pos, if_neg, b01, b01n, ite_not, if_true, if_false, Bool.false_eq_true, hLL, t7, t6, z07, z06, f04]
    omega
  refine cI_go (r := zI 1) (st := mkS w (hI S1) J) ?_ ?_
  · simp (disch := omega) only [hk, hu, hI_n, hI_un, z_nat, em_d, zl, z_add, z_sub, z_mul, z_lt, z_eq, gI_mk, gJ_mk, cI_some, cV_some, cJ_some, cI_x, cV_x, cJ_x, uS_self, uS_ne, if_pos, if_neg, b01, b01n, ite_not, if_true, if_false, Bool.false_eq_true, hLL, t7, t6, z07, z06, f04]
    exact f11 _
  refine (if_neg ?_).trans ?_
  · decide
  refine (if_neg ?_).trans ?_
  · simp (disch := omega) only [hk, hu, hI_n, hI_un, z_nat, em_d, zl, z_add, z_sub, z_mul, z_lt, z_eq, gI_mk, gJ_mk, cI_some, cV_some, cJ_some, cI_x, cV_x, cJ_x, uS_self, uS_ne, if_pos, if_neg, b01, b01n, ite_not, if_true, if_false, Bool.false_eq_true, hLL, t7, t6, z07, z06, f04, z17, z16, f14]
    omega
  refine (if_neg ?_).trans ?_
  · simp (disch := omega) only [hk, hu, hI_n, hI_un, z_nat, em_d, zl, z_add, z_sub, z_mul, z_lt, z_eq, gI_mk, gJ_mk, cI_some, cV_some, cJ_some, cI_x, cV_x, cJ_x, uS_self, uS_ne, if_pos, if_neg, b01, b01n, ite_not, if_true, if_false, Bool.false_eq_true, hLL, t7, t6, z07, z06, f04, z17, z16, f14, c10]
    omega
  refine (if_neg ?_).trans ?_
  · simp (disch := omega) only [hk, hu, hI_n, hI_un, z_nat, em_d, zl, z_add, z_sub, z_mul, z_lt, z_eq, gI_mk, gJ_mk, cI_some, cV_some, cJ_some, cI_x, cV_x, cJ_x, uS_self, uS_ne, if_pos, if_neg, b01, b01n, ite_not, if_true, if_false, Bool.false_eq_true, hLL, t7, t6, z07, z06, f04, z17, z16, f14, c10]
    omega
  refine (if_neg ?_).trans ?_
  · simp (disch := omega) only [hk, hu, hI_n, hI_un, z_nat, em_d, zl, z_add, z_sub, z_mul, z_lt, z_eq, gI_mk, gJ_mk, cI_some, cV_some, cJ_some, cI_x, cV_x, cJ_x, uS_self, uS_ne, if_pos, if_neg, b01, b01n, ite_not, if_true, if_false, Bool.false_eq_true, hLL, t7, t6, z07, z06, f04, z17, z16, f14, c10]
    exact hab
  refine cI_go (r := zI 1) (st := mkS w (hI S2) J) ?_ ?_
  · simp (disch := omega) only [hk, hu, hI_n, hI_un, z_nat, em_d, zl, z_add, z_sub, z_mul, z_lt, z_eq, gI_mk, gJ_mk, cI_some, cV_some, cJ_some, cI_x, cV_x, cJ_x, uS_self, uS_ne, if_pos, if_neg, b01, b01n, ite_not, if_true, if_false, Bool.false_eq_true, hLL, t7, t6, z07, z06, f04, z17, z16, f14, c10]
    exact f21 _
  refine (if_neg ?_).trans ?_
  · decide
  refine (if_neg ?_).trans ?_
  · simp (disch := omega) only [hk, hu, hI_n, hI_un, z_nat, em_d, zl, z_add, z_sub, z_mul, z_lt, z_eq, gI_mk, gJ_mk, cI_some, cV_some, cJ_some, cI_x, cV_x, cJ_x, uS_self, uS_ne, if_pos, if_neg, b01, b01n, ite_not, if_true, if_false, Bool.false_eq_true, hLL, t7, t6, z07, z06, f04, z17, z16, f14, c10, z27, z26, f24]
    omega
  refine cI_go (r := zI 0) (st := mkS w (hI S9) J) ?_ ?_
  · simp (disch := omega) only [hk, hu, hI_n, hI_un, z_nat, em_d, zl, z_add, z_sub, z_mul, z_lt, z_eq, gI_mk, gJ_mk, cI_some, cV_some, cJ_some, cI_x, cV_x, cJ_x, uS_self, uS_ne, if_pos, if_neg, b01, b01n, ite_not, if_true, if_false, Bool.false_eq_true, hLL, t7, t6, z07, z06, f04, z17, z16, f14, c10, z27, z26, f24]
    exact g1 _
  refine (if_pos ?_).trans ?_
  · decide
  simp (disch := omega) only [hk, hu, hI_n, hI_un, z_nat, em_d, zl, z_add, z_sub, z_mul, z_lt, z_eq, gI_mk, gJ_mk, cI_some, cV_some, cJ_some, cI_x, cV_x, cJ_x, uS_self, uS_ne, if_pos, if_neg, b01, b01n, ite_not, if_true, if_false, Bool.false_eq_true, hLL, rI_d]
theorem c_ldRoad_e (w : Bool × Bool × Bool) (J : Nat → Nat → Int64) (h : Tp S B e q) (hL : CLd S (iL bl) x) (kn : ¬ x.2.1 = 12) (k0 : numK B e q 0 (x.1 - 1) = 0) (k1 : numK B e (sk B e (numE B e q)) 0 (x.1 - 1) = 0) (hab : numV B e q = numV B e (sk B e (numE B e q))) : ∃ S', (∀ d, am_call X aP (d + 4) 21 [.ref ((iL bl)), .ref 1] (mkS w (hI S) J) = some (.inl (some (.int (zI 0))), (mkS w (hI S') J))) ∧ (S' 1 6 = 2 ∧ S' 1 7 = ((sk B e (numE B e q) : Nat) : Int)) ∧ FlL (iL bl) S S' := by
  have hb := iL_c bl
  obtain ⟨t6, t7, t8, hr, hc, hok⟩ := id hL
  obtain ⟨⟨o1, o2⟩, ⟨o3, o4⟩, ⟨o5, o6⟩, -⟩ := id hok
  obtain ⟨n0a, n0b, n0c⟩ := numK_0 k0
  obtain ⟨S0, f01, f02, f03, f04, f05⟩ := T_num1 (X := X) w J h (lo := 0) (hi := (x.1 - 1)) (by omega) (by omega) k0
  obtain ⟨v0, hv0⟩ : ∃ v, v = numV B e q := ⟨_, rfl⟩
  rw [← hv0] at n0b n0c f04
  have e0 : ∀ j, S0 (iL bl + j) = S (iL bl + j) := fun j => ft_l f05 (by omega)
  have z07 : S0 (iL bl) 7 = x.2.1 := by
    rw [show iL bl = iL bl + 0 from rfl, e0 0]
    exact t7
  have z06 : S0 (iL bl) 6 = x.1 := by
    rw [show iL bl = iL bl + 0 from rfl, e0 0]
    exact t6
  obtain ⟨n1a, n1b, n1c⟩ := numK_0 k1
  obtain ⟨S1, f11, f12, f13, f14, f15⟩ := T_num1 (X := X) w J (Tp_o f02 (uS_row _ _ _ (by omega)) (uS_row _ _ _ (by omega)) : Tp (uS S0 (iL bl + 1) x.2.1 v0) B e _) (lo := 0) (hi := (x.1 - 1)) (by omega) (by omega) k1
  obtain ⟨v1, hv1⟩ : ∃ v, v = numV B e (sk B e (numE B e q)) := ⟨_, rfl⟩
  rw [← hv1] at n1b n1c f14
  have e1 : ∀ j, S1 (iL bl + j) = (uS S0 (iL bl + 1) x.2.1 v0) (iL bl + j) := fun j => ft_l f15 (by omega)
  have z17 : S1 (iL bl) 7 = x.2.1 := by
    rw [show iL bl = iL bl + 0 from rfl, e1 0, uS_row _ _ _ (by omega)]
    exact z07
  have z16 : S1 (iL bl) 6 = x.1 := by
    rw [show iL bl = iL bl + 0 from rfl, e1 0, uS_row _ _ _ (by omega)]
    exact z06
  rw [← hv0, ← hv1] at hab
  have c10 : S1 (iL bl + 1) x.2.1 = v0 := by rw [e1 1, uS_self]
  obtain ⟨S9, g1, g2, g3⟩ := T_failTok (X := X) w J (Tp_o f12 (uS_row _ _ _ (by omega)) (uS_row _ _ _ (by omega)) : Tp (uS S1 (iL bl + 2) x.2.1 v1) B e _) 2 (t := ((sk B e (numE B e q) : Nat) : Int)) (by rw [uS_row _ _ _ (by omega)]; exact f13)
  refine ⟨S9, fun d => ?_, g2, FlL_tr (FlL_t f05) (FlL_tr (FlL_u S0 1 _ _ (by decide) (by omega)) (FlL_tr (FlL_t f15) (FlL_tr (FlL_u S1 2 _ _ (by decide) (by omega)) (FlL_t g3))))⟩
  rw [go_X2_addRoad, e_X2_addRoad_0]
  refine (if_pos ?_).trans ?_
  · simp (disch := omega) only [hk, hu, hI_n, hI_un, z_nat, em_d, zl, z_add, z_sub, z_mul, z_lt, z_eq, gI_mk, gJ_mk, cI_some, cV_some, cJ_some, cI_x, cV_x, cJ_x, uS_self, uS_ne, if_pos, if_neg, b01, b01n, ite_not, if_true, if_false, Bool.false_eq_true, hLL, t7, t6]
    omega
  refine cI_go (r := zI 1) (st := mkS w (hI S0) J) ?_ ?_
  · simp (disch := omega) only [hk, hu, hI_n, hI_un, z_nat, em_d, zl, z_add, z_sub, z_mul, z_lt, z_eq, gI_mk, gJ_mk, cI_some, cV_some, cJ_some, cI_x, cV_x, cJ_x, uS_self, uS_ne, if_pos, if_neg, b01, b01n, ite_not, if_true, if_false, Bool.false_eq_true, hLL, t7, t6]
    exact f01 _
  refine (if_neg ?_).trans ?_
  · decide
  refine (if_neg ?_).trans ?_
  · simp (disch := omega) only [hk, hu, hI_n, hI_un, z_nat, em_d, zl, z_add, z_sub, z_mul, z_lt, z_eq, gI_mk, gJ_mk, cI_some, cV_some, cJ_some, cI_x, cV_x, cJ_x, uS_self, uS_ne, if_pos, if_neg, b01, b01n, ite_not, if_true, if_false, Bool.false_eq_true, hLL, t7, t6, z07, z06, f04]
    omega
  refine cI_go (r := zI 1) (st := mkS w (hI S1) J) ?_ ?_
  · simp (disch := omega) only [hk, hu, hI_n, hI_un, z_nat, em_d, zl, z_add, z_sub, z_mul, z_lt, z_eq, gI_mk, gJ_mk, cI_some, cV_some, cJ_some, cI_x, cV_x, cJ_x, uS_self, uS_ne, if_pos, if_neg, b01, b01n, ite_not, if_true, if_false, Bool.false_eq_true, hLL, t7, t6, z07, z06, f04]
    exact f11 _
  refine (if_neg ?_).trans ?_
  · decide
  refine (if_neg ?_).trans ?_
  · simp (disch := omega) only [hk, hu, hI_n, hI_un, z_nat, em_d, zl, z_add, z_sub, z_mul, z_lt, z_eq, gI_mk, gJ_mk, cI_some, cV_some, cJ_some, cI_x, cV_x, cJ_x, uS_self, uS_ne, if_pos, if_neg, b01, b01n, ite_not, if_true, if_false, Bool.false_eq_true, hLL, t7, t6, z07, z06, f04, z17, z16, f14]
    omega
  refine (if_neg ?_).trans ?_
  · simp (disch := omega) only [hk, hu, hI_n, hI_un, z_nat, em_d, zl, z_add, z_sub, z_mul, z_lt, z_eq, gI_mk, gJ_mk, cI_some, cV_some, cJ_some, cI_x, cV_x, cJ_x, uS_self, uS_ne, if_pos, if_neg, b01, b01n, ite_not, if_true, if_false, Bool.false_eq_true, hLL, t7, t6, z07, z06, f04, z17, z16, f14, c10]
    omega
  refine (if_neg ?_).trans ?_
  · simp (disch := omega) only [hk, hu, hI_n, hI_un, z_nat, em_d, zl, z_add, z_sub, z_mul, z_lt, z_eq, gI_mk, gJ_mk, cI_some, cV_some, cJ_some, cI_x, cV_x, cJ_x, uS_self, uS_ne, if_pos, if_neg, b01, b01n, ite_not, if_true, if_false, Bool.false_eq_true, hLL, t7, t6, z07, z06, f04, z17, z16, f14, c10]
    omega
  refine (if_pos ?_).trans ?_
  · simp (disch := omega) only [hk, hu, hI_n, hI_un, z_nat, em_d, zl, z_add, z_sub, z_mul, z_lt, z_eq, gI_mk, gJ_mk, cI_some, cV_some, cJ_some, cI_x, cV_x, cJ_x, uS_self, uS_ne, if_pos, if_neg, b01, b01n, ite_not, if_true, if_false, Bool.false_eq_true, hLL, t7, t6, z07, z06, f04, z17, z16, f14, c10]
    exact hab
  refine cI_go (r := zI 0) (st := mkS w (hI S9) J) ?_ ?_
  · simp (disch := omega) only [hk, hu, hI_n, hI_un, z_nat, em_d, zl, z_add, z_sub, z_mul, z_lt, z_eq, gI_mk, gJ_mk, cI_some, cV_some, cJ_some, cI_x, cV_x, cJ_x, uS_self, uS_ne, if_pos, if_neg, b01, b01n, ite_not, if_true, if_false, Bool.false_eq_true, hLL, t7, t6, z07, z06, f04, z17, z16, f14, c10]
    exact g1 _
  simp (disch := omega) only [hk, hu, hI_n, hI_un, z_nat, em_d, zl, z_add, z_sub, z_mul, z_lt, z_eq, gI_mk, gJ_mk, cI_some, cV_some, cJ_some, cI_x, cV_x, cJ_x, uS_self, uS_ne, if_pos, if_neg, b01, b01n, ite_not, if_true, if_false, Bool.false_eq_true, hLL, z_bok0, rI_d]
theorem c_ldRoad_o (w : Bool × Bool × Bool) (J : Nat → Nat → Int64) (h : Tp S B e q) (hL : CLd S (iL bl) x) (kn : ¬ x.2.1 = 12) (k0 : numK B e q 0 (x.1 - 1) = 0) (k1 : numK B e (sk B e (numE B e q)) 0 (x.1 - 1) = 0) (k2 : numK B e (sk B e (numE B e (sk B e (numE B e q)))) 1 40 = 0) (k3 : numK B e (sk B e (numE B e (sk B e (numE B e (sk B e (numE B e q)))))) 0 6 = 0) (hab : ¬ numV B e q = numV B e (sk B e (numE B e q))) : ∃ S', (∀ d, am_call X aP (d + 4) 21 [.ref ((iL bl)), .ref 1] (mkS w (hI S) J) = some (.inl (some (.int (zI 1))), (mkS w (hI S') J))) ∧ (Tp S' B e (sk B e (numE B e (sk B e (numE B e (sk B e (numE B e (sk B e (numE B e q)))))))) ∧ CLd S' (iL bl) (x.1, x.2.1 + 1, x.2.2.1, rdU x.2.2.2.1 x.2.1 (numV B e q) (numV B e (sk B e (numE B e q))) (numV B e (sk B e (numE B e (sk B e (numE B e q))))) (numV B e (sk B e (numE B e (sk B e (numE B e (sk B e (numE B e q))))))), x.2.2.2.2)) ∧ FlL (iL bl) S S' := by
  have hb := iL_c bl
  obtain ⟨t6, t7, t8, hr, hc, hok⟩ := id hL
  obtain ⟨⟨o1, o2⟩, ⟨o3, o4⟩, ⟨o5, o6⟩, -⟩ := id hok
  obtain ⟨n0a, n0b, n0c⟩ := numK_0 k0
  obtain ⟨S0, f01, f02, f03, f04, f05⟩ := T_num1 (X := X) w J h (lo := 0) (hi := (x.1 - 1)) (by omega) (by omega) k0
  obtain ⟨v0, hv0⟩ : ∃ v, v = numV B e q := ⟨_, rfl⟩
  rw [← hv0] at n0b n0c f04
  have e0 : ∀ j, S0 (iL bl + j) = S (iL bl + j) := fun j => ft_l f05 (by omega)
  have z07 : S0 (iL bl) 7 = x.2.1 := by
    rw [show iL bl = iL bl + 0 from rfl, e0 0]
    exact t7
  have z06 : S0 (iL bl) 6 = x.1 := by
    rw [show iL bl = iL bl + 0 from rfl, e0 0]
    exact t6
  obtain ⟨n1a, n1b, n1c⟩ := numK_0 k1
  obtain ⟨S1, f11, f12, f13, f14, f15⟩ := T_num1 (X := X) w J (Tp_o f02 (uS_row _ _ _ (by omega)) (uS_row _ _ _ (by omega)) : Tp (uS S0 (iL bl + 1) x.2.1 v0) B e _) (lo := 0) (hi := (x.1 - 1)) (by omega) (by omega) k1
  obtain ⟨v1, hv1⟩ : ∃ v, v = numV B e (sk B e (numE B e q)) := ⟨_, rfl⟩
  rw [← hv1] at n1b n1c f14
  have e1 : ∀ j, S1 (iL bl + j) = (uS S0 (iL bl + 1) x.2.1 v0) (iL bl + j) := fun j => ft_l f15 (by omega)
  have z17 : S1 (iL bl) 7 = x.2.1 := by
    rw [show iL bl = iL bl + 0 from rfl, e1 0, uS_row _ _ _ (by omega)]
    exact z07
  have z16 : S1 (iL bl) 6 = x.1 := by
    rw [show iL bl = iL bl + 0 from rfl, e1 0, uS_row _ _ _ (by omega)]
    exact z06
  obtain ⟨n2a, n2b, n2c⟩ := numK_0 k2
  obtain ⟨S2, f21, f22, f23, f24, f25⟩ := T_num1 (X := X) w J (Tp_o f12 (uS_row _ _ _ (by omega)) (uS_row _ _ _ (by omega)) : Tp (uS S1 (iL bl + 2) x.2.1 v1) B e _) (lo := 1) (hi := 40) (by omega) (by omega) k2
  obtain ⟨v2, hv2⟩ : ∃ v, v = numV B e (sk B e (numE B e (sk B e (numE B e q)))) := ⟨_, rfl⟩
  rw [← hv2] at n2b n2c f24
  have e2 : ∀ j, S2 (iL bl + j) = (uS S1 (iL bl + 2) x.2.1 v1) (iL bl + j) := fun j => ft_l f25 (by omega)
  have z27 : S2 (iL bl) 7 = x.2.1 := by
    rw [show iL bl = iL bl + 0 from rfl, e2 0, uS_row _ _ _ (by omega)]
    exact z17
  have z26 : S2 (iL bl) 6 = x.1 := by
    rw [show iL bl = iL bl + 0 from rfl, e2 0, uS_row _ _ _ (by omega)]
    exact z16
  obtain ⟨n3a, n3b, n3c⟩ := numK_0 k3
  obtain ⟨S3, f31, f32, f33, f34, f35⟩ := T_num1 (X := X) w J (Tp_o f22 (uS_row _ _ _ (by omega)) (uS_row _ _ _ (by omega)) : Tp (uS S2 (iL bl + 3) x.2.1 v2) B e _) (lo := 0) (hi := 6) (by omega) (by omega) k3
  obtain ⟨v3, hv3⟩ : ∃ v, v = numV B e (sk B e (numE B e (sk B e (numE B e (sk B e (numE B e q)))))) := ⟨_, rfl⟩
  rw [← hv3] at n3b n3c f34
  have e3 : ∀ j, S3 (iL bl + j) = (uS S2 (iL bl + 3) x.2.1 v2) (iL bl + j) := fun j => ft_l f35 (by omega)
  have z37 : S3 (iL bl) 7 = x.2.1 := by
    rw [show iL bl = iL bl + 0 from rfl, e3 0, uS_row _ _ _ (by omega)]
    exact z27
  have z36 : S3 (iL bl) 6 = x.1 := by
    rw [show iL bl = iL bl + 0 from rfl, e3 0, uS_row _ _ _ (by omega)]
    exact z26
  rw [← hv0, ← hv1] at hab
  have c10 : S1 (iL bl + 1) x.2.1 = v0 := by rw [e1 1, uS_self]
  rw [← hv0, ← hv1, ← hv2, ← hv3]
  refine ⟨uS (uS S3 (iL bl + 4) x.2.1 v3) (iL bl + 0) 7 (x.2.1 + 1), fun d => ?_, ⟨Tp_o f32 ((uS_row _ _ _ (by omega)).trans (uS_row _ _ _ (by omega))) ((uS_row _ _ _ (by omega)).trans (uS_row _ _ _ (by omega))), ?_, ?_, ?_, fun r r1 r2 => ?_, fun c c1 c2 => ?_, okL_r hok kn ⟨n0b, n0c⟩ ⟨n1b, n1c⟩ hab ⟨n2b, n2c⟩ ⟨n3b, n3c⟩⟩, FlL_tr (FlL_t f05) (FlL_tr (FlL_u S0 1 _ _ (by decide) (by omega)) (FlL_tr (FlL_t f15) (FlL_tr (FlL_u S1 2 _ _ (by decide) (by omega)) (FlL_tr (FlL_t f25) (FlL_tr (FlL_u S2 3 _ _ (by decide) (by omega)) (FlL_tr (FlL_t f35) (FlL_tr (FlL_u S3 4 _ _ (by decide) (by omega)) (FlL_u _ 0 _ _ (by decide) (by omega)))))))))⟩
  · rw [go_X2_addRoad, e_X2_addRoad_0]
    refine (if_pos ?_).trans ?_
    · simp (disch := omega) only [hk, hu, hI_n, hI_un, z_nat, em_d, zl, z_add, z_sub, z_mul, z_lt, z_eq, gI_mk, gJ_mk, cI_some, cV_some, cJ_some, cI_x, cV_x, cJ_x, uS_self, uS_ne, if_pos, if_neg, b01, b01n, ite_not, if_true, if_false, Bool.false_eq_true, hLL, t7, t6]
      omega
    refine cI_go (r := zI 1) (st := mkS w (hI S0) J) ?_ ?_
    · simp (disch := omega) only [hk, hu, hI_n, hI_un, z_nat, em_d, zl, z_add, z_sub, z_mul, z_lt, z_eq, gI_mk, gJ_mk, cI_some, cV_some, cJ_some, cI_x, cV_x, cJ_x, uS_self, uS_ne, if_pos, if_neg, b01, b01n, ite_not, if_true, if_false, Bool.false_eq_true, hLL, t7, t6]
      exact f01 _
    refine (if_neg ?_).trans ?_
    · decide
    refine (if_neg ?_).trans ?_
    · simp (disch := omega) only [hk, hu, hI_n, hI_un, z_nat, em_d, zl, z_add, z_sub, z_mul, z_lt, z_eq, gI_mk, gJ_mk, cI_some, cV_some, cJ_some, cI_x, cV_x, cJ_x, uS_self, uS_ne, if_pos, if_neg, b01, b01n, ite_not, if_true, if_false, Bool.false_eq_true, hLL, t7, t6, z07, z06, f04]
      omega
    refine cI_go (r := zI 1) (st := mkS w (hI S1) J) ?_ ?_
    · simp (disch := omega) only [hk, hu, hI_n, hI_un, z_nat, em_d, zl, z_add, z_sub, z_mul, z_lt, z_eq, gI_mk, gJ_mk, cI_some, cV_some, cJ_some, cI_x, cV_x, cJ_x, uS_self, uS_ne, if_pos, if_neg, b01, b01n, ite_not, if_true, if_false, Bool.false_eq_true, hLL, t7, t6, z07, z06, f04]
      exact f11 _
    refine (if_neg ?_).trans ?_
    · decide
    refine (if_neg ?_).trans ?_
    · simp (disch := omega) only [hk, hu, hI_n, hI_un, z_nat, em_d, zl, z_add, z_sub, z_mul, z_lt, z_eq, gI_mk, gJ_mk, cI_some, cV_some, cJ_some, cI_x, cV_x, cJ_x, uS_self, uS_ne, if_pos, if_neg, b01, b01n, ite_not, if_true, if_false, Bool.false_eq_true, hLL, t7, t6, z07, z06, f04, z17, z16, f14]
      omega
    refine (if_neg ?_).trans ?_
    · simp (disch := omega) only [hk, hu, hI_n, hI_un, z_nat, em_d, zl, z_add, z_sub, z_mul, z_lt, z_eq, gI_mk, gJ_mk, cI_some, cV_some, cJ_some, cI_x, cV_x, cJ_x, uS_self, uS_ne, if_pos, if_neg, b01, b01n, ite_not, if_true, if_false, Bool.false_eq_true, hLL, t7, t6, z07, z06, f04, z17, z16, f14, c10]
      omega
    refine (if_neg ?_).trans ?_
    · simp (disch := omega) only [hk, hu, hI_n, hI_un, z_nat, em_d, zl, z_add, z_sub, z_mul, z_lt, z_eq, gI_mk, gJ_mk, cI_some, cV_some, cJ_some, cI_x, cV_x, cJ_x, uS_self, uS_ne, if_pos, if_neg, b01, b01n, ite_not, if_true, if_false, Bool.false_eq_true, hLL, t7, t6, z07, z06, f04, z17, z16, f14, c10]
      omega
    refine (if_neg ?_).trans ?_
    · simp (disch := omega) only [hk, hu, hI_n, hI_un, z_nat, em_d, zl, z_add, z_sub, z_mul, z_lt, z_eq, gI_mk, gJ_mk, cI_some, cV_some, cJ_some, cI_x, cV_x, cJ_x, uS_self, uS_ne, if_pos, if_neg, b01, b01n, ite_not, if_true, if_false, Bool.false_eq_true, hLL, t7, t6, z07, z06, f04, z17, z16, f14, c10]
      exact hab
    refine cI_go (r := zI 1) (st := mkS w (hI S2) J) ?_ ?_
    · simp (disch := omega) only [hk, hu, hI_n, hI_un, z_nat, em_d, zl, z_add, z_sub, z_mul, z_lt, z_eq, gI_mk, gJ_mk, cI_some, cV_some, cJ_some, cI_x, cV_x, cJ_x, uS_self, uS_ne, if_pos, if_neg, b01, b01n, ite_not, if_true, if_false, Bool.false_eq_true, hLL, t7, t6, z07, z06, f04, z17, z16, f14, c10]
      exact f21 _
    refine (if_neg ?_).trans ?_
    · decide
    refine (if_neg ?_).trans ?_
    · simp (disch := omega) only [hk, hu, hI_n, hI_un, z_nat, em_d, zl, z_add, z_sub, z_mul, z_lt, z_eq, gI_mk, gJ_mk, cI_some, cV_some, cJ_some, cI_x, cV_x, cJ_x, uS_self, uS_ne, if_pos, if_neg, b01, b01n, ite_not, if_true, if_false, Bool.false_eq_true, hLL, t7, t6, z07, z06, f04, z17, z16, f14, c10, z27, z26, f24]
      omega
    refine cI_go (r := zI 1) (st := mkS w (hI S3) J) ?_ ?_
    · simp (disch := omega) only [hk, hu, hI_n, hI_un, z_nat, em_d, zl, z_add, z_sub, z_mul, z_lt, z_eq, gI_mk, gJ_mk, cI_some, cV_some, cJ_some, cI_x, cV_x, cJ_x, uS_self, uS_ne, if_pos, if_neg, b01, b01n, ite_not, if_true, if_false, Bool.false_eq_true, hLL, t7, t6, z07, z06, f04, z17, z16, f14, c10, z27, z26, f24]
      exact f31 _
    refine (if_neg ?_).trans ?_
    · decide
    refine (if_neg ?_).trans ?_
    · simp (disch := omega) only [hk, hu, hI_n, hI_un, z_nat, em_d, zl, z_add, z_sub, z_mul, z_lt, z_eq, gI_mk, gJ_mk, cI_some, cV_some, cJ_some, cI_x, cV_x, cJ_x, uS_self, uS_ne, if_pos, if_neg, b01, b01n, ite_not, if_true, if_false, Bool.false_eq_true, hLL, t7, t6, z07, z06, f04, z17, z16, f14, c10, z27, z26, f24, z37, z36, f34]
      omega
    simp (disch := omega) only [hk, hu, hI_n, hI_un, z_nat, em_d, zl, z_add, z_sub, z_mul, z_lt, z_eq, gI_mk, gJ_mk, cI_some, cV_some, cJ_some, cI_x, cV_x, cJ_x, uS_self, uS_ne, if_pos, if_neg, b01, b01n, ite_not, if_true, if_false, Bool.false_eq_true, hLL, t7, t6, z07, z06, f04, z17, z16, f14, c10, z27, z26, f24, z37, z36, f34, rI_d]
    rfl
  · rw [uS_ne _ _ (Or.inr (by decide)), uS_row _ _ _ (by omega)]
    exact z36
  · exact uS_self _ _ _ _
  · have y0 := e0 0
    have y1 := e1 0
    have y2 := e2 0
    have y3 := e3 0
    rw [uS_row _ _ _ (by omega)] at y1 y2 y3
    rw [uS_ne _ _ (Or.inr (by decide)), uS_row _ _ _ (by omega), show S3 (iL bl) = S (iL bl) from y3.trans (y2.trans (y1.trans y0))]
    exact t8
  · have r2 : r < x.2.1 + 1 := r2
    rw [uS_row _ _ _ (by omega), uS_row _ _ _ (by omega), uS_row _ _ _ (by omega), uS_row _ _ _ (by omega), uS_row _ _ _ (by omega), uS_row _ _ _ (by omega), uS_row _ _ _ (by omega), e3 1, e3 2, e3 3, uS_row _ _ _ (by omega), uS_row _ _ _ (by omega), e2 1, e2 2, uS_row _ _ _ (by omega), e1 1]
    show _ = rdU x.2.2.2.1 x.2.1 v0 v1 v2 v3 (4 * r) ∧ _ = rdU x.2.2.2.1 x.2.1 v0 v1 v2 v3 (4 * r + 1) ∧ _ = rdU x.2.2.2.1 x.2.1 v0 v1 v2 v3 (4 * r + 2) ∧ _ = rdU x.2.2.2.1 x.2.1 v0 v1 v2 v3 (4 * r + 3)
    by_cases e9 : r = x.2.1
    · rw [e9, rdU_0, rdU_1, rdU_2, rdU_3, uS_self, uS_self, uS_self, uS_self]
      exact ⟨rfl, rfl, rfl, rfl⟩
    · obtain ⟨a1, a2, a3, a4⟩ := hr r r1 (by omega)
      rw [rdU_o0 _ _ _ _ _ _ e9, rdU_o _ _ _ _ _ _ e9 (by decide), rdU_o _ _ _ _ _ _ e9 (by decide), rdU_o _ _ _ _ _ _ e9 (by decide), uS_ne _ _ (Or.inr e9), uS_ne _ _ (Or.inr e9), uS_ne _ _ (Or.inr e9), uS_ne _ _ (Or.inr e9), e0 1, e1 2, e2 3, e3 4, uS_row _ _ _ (by omega), uS_row _ _ _ (by omega), uS_row _ _ _ (by omega), e2 4, uS_row _ _ _ (by omega), e1 3, e1 4, uS_row _ _ _ (by omega), uS_row _ _ _ (by omega), e0 2, e0 3, e0 4]
      exact ⟨a1, a2, a3, a4⟩
  · have y5 : ∀ i, 4 < i → S3 (iL bl + i) = S (iL bl + i) := fun i hi => by
      rw [e3 i, uS_row _ _ _ (by omega), e2 i, uS_row _ _ _ (by omega), e1 i, uS_row _ _ _ (by omega), e0 i]
    rw [uS_row _ _ _ (by omega), uS_row _ _ _ (by omega), uS_row _ _ _ (by omega), uS_row _ _ _ (by omega), y5 5 (by decide), y5 6 (by decide)]
    exact hc c c1 c2
theorem c_ldCart_f (w : Bool × Bool × Bool) (J : Nat → Nat → Int64) (h : Tp S B e q) (h4 : S 1 4 = (t : Int)) (hL : CLd S (iL bl) x) (k : x.2.2.1 = 5) : ∃ S', (∀ d, am_call X aP (d + 4) 22 [.ref ((iL bl)), .ref 1] (mkS w (hI S) J) = some (.inl (some (.int (zI 0))), (mkS w (hI S') J))) ∧ (S' 1 6 = 3 ∧ S' 1 7 = (t : Int)) ∧ FlL (iL bl) S S' := by
  have hb := iL_c bl
  obtain ⟨t6, t7, t8, hr, hc, hok⟩ := id hL
  obtain ⟨⟨o1, o2⟩, ⟨o3, o4⟩, ⟨o5, o6⟩, -⟩ := id hok
  obtain ⟨S1, g1, g2, g3⟩ := T_failTok (X := X) w J h 3 h4
  refine ⟨S1, fun d => ?_, g2, FlL_t g3⟩
  rw [go_X2_addCarter, e_X2_addCarter_0]
  refine (if_neg ?_).trans ?_
  · simp (disch := omega) only [hk, hu, hI_n, hI_un, z_nat, em_d, zl, z_add, z_sub, z_mul, z_lt, z_eq, gI_mk, gJ_mk, cI_some, cV_some, cJ_some, cI_x, cV_x, cJ_x, uS_self, uS_ne, if_pos, if_neg, b01, b01n, ite_not, if_true, if_false, Bool.false_eq_true, hLL, t8, t6]
    omega
  refine cI_go (r := zI 0) (st := mkS w (hI S1) J) ?_ ?_
  · simp (disch := omega) only [hk, hu, hI_n, hI_un, z_nat, em_d, zl, z_add, z_sub, z_mul, z_lt, z_eq, gI_mk, gJ_mk, cI_some, cV_some, cJ_some, cI_x, cV_x, cJ_x, uS_self, uS_ne, if_pos, if_neg, b01, b01n, ite_not, if_true, if_false, Bool.false_eq_true, hLL, t8, t6]
    exact g1 _
  simp (disch := omega) only [hk, hu, hI_n, hI_un, z_nat, em_d, zl, z_add, z_sub, z_mul, z_lt, z_eq, gI_mk, gJ_mk, cI_some, cV_some, cJ_some, cI_x, cV_x, cJ_x, uS_self, uS_ne, if_pos, if_neg, b01, b01n, ite_not, if_true, if_false, Bool.false_eq_true, hLL, z_bok0, rI_d]
theorem c_ldCart_0 (w : Bool × Bool × Bool) (J : Nat → Nat → Int64) (h : Tp S B e q) (hL : CLd S (iL bl) x) (kn : ¬ x.2.2.1 = 5)  (kk : ¬ numK B e q 0 (x.1 - 1) = 0) : ∃ S', (∀ d, am_call X aP (d + 4) 22 [.ref ((iL bl)), .ref 1] (mkS w (hI S) J) = some (.inl (some (.int (zI 0))), (mkS w (hI S') J))) ∧ (S' 1 6 = numK B e q 0 (x.1 - 1) ∧ S' 1 7 = ((q : Nat) : Int)) ∧ FlL (iL bl) S S' := by
  have hb := iL_c bl
  obtain ⟨t6, t7, t8, hr, hc, hok⟩ := id hL
  obtain ⟨⟨o1, o2⟩, ⟨o3, o4⟩, ⟨o5, o6⟩, -⟩ := id hok
  obtain ⟨S9, g1, g2, g3⟩ := T_num0 (X := X) w J h (lo := 0) (hi := (x.1 - 1)) (by omega) (by omega) kk
  refine ⟨S9, fun d => ?_, g2, FlL_t g3⟩
  rw [go_X2_addCarter, e_X2_addCarter_0]
  refine (if_pos ?_).trans ?_
  · simp (disch := omega) only [hk, hu, hI_n, hI_un, z_nat, em_d, zl, z_add, z_sub, z_mul, z_lt, z_eq, gI_mk, gJ_mk, cI_some, cV_some, cJ_some, cI_x, cV_x, cJ_x, uS_self, uS_ne, if_pos, if_neg, b01, b01n, ite_not, if_true, if_false, Bool.false_eq_true, hLL, t8, t6]
    omega
  refine cI_go (r := zI 0) (st := mkS w (hI S9) J) ?_ ?_
  · simp (disch := omega) only [hk, hu, hI_n, hI_un, z_nat, em_d, zl, z_add, z_sub, z_mul, z_lt, z_eq, gI_mk, gJ_mk, cI_some, cV_some, cJ_some, cI_x, cV_x, cJ_x, uS_self, uS_ne, if_pos, if_neg, b01, b01n, ite_not, if_true, if_false, Bool.false_eq_true, hLL, t8, t6]
    exact g1 _
  refine (if_pos ?_).trans ?_
  · decide
  simp (disch := omega) only [hk, hu, hI_n, hI_un, z_nat, em_d, zl, z_add, z_sub, z_mul, z_lt, z_eq, gI_mk, gJ_mk, cI_some, cV_some, cJ_some, cI_x, cV_x, cJ_x, uS_self, uS_ne, if_pos, if_neg, b01, b01n, ite_not, if_true, if_false, Bool.false_eq_true, hLL, rI_d]
theorem c_ldCart_1 (w : Bool × Bool × Bool) (J : Nat → Nat → Int64) (h : Tp S B e q) (hL : CLd S (iL bl) x) (kn : ¬ x.2.2.1 = 5) (k0 : numK B e q 0 (x.1 - 1) = 0) (kk : ¬ numK B e (sk B e (numE B e q)) 0 99 = 0) : ∃ S', (∀ d, am_call X aP (d + 4) 22 [.ref ((iL bl)), .ref 1] (mkS w (hI S) J) = some (.inl (some (.int (zI 0))), (mkS w (hI S') J))) ∧ (S' 1 6 = numK B e (sk B e (numE B e q)) 0 99 ∧ S' 1 7 = ((sk B e (numE B e q) : Nat) : Int)) ∧ FlL (iL bl) S S' := by
  have hb := iL_c bl
  obtain ⟨t6, t7, t8, hr, hc, hok⟩ := id hL
  obtain ⟨⟨o1, o2⟩, ⟨o3, o4⟩, ⟨o5, o6⟩, -⟩ := id hok
  obtain ⟨n0a, n0b, n0c⟩ := numK_0 k0
  obtain ⟨S0, f01, f02, f03, f04, f05⟩ := T_num1 (X := X) w J h (lo := 0) (hi := (x.1 - 1)) (by omega) (by omega) k0
  obtain ⟨v0, hv0⟩ : ∃ v, v = numV B e q := ⟨_, rfl⟩
  rw [← hv0] at n0b n0c f04
  have e0 : ∀ j, S0 (iL bl + j) = S (iL bl + j) := fun j => ft_l f05 (by omega)
  have z07 : S0 (iL bl) 8 = x.2.2.1 := by
    rw [show iL bl = iL bl + 0 from rfl, e0 0]
    exact t8
  have z06 : S0 (iL bl) 6 = x.1 := by
    rw [show iL bl = iL bl + 0 from rfl, e0 0]
    exact t6
  obtain ⟨S9, g1, g2, g3⟩ := T_num0 (X := X) w J (Tp_o f02 (uS_row _ _ _ (by omega)) (uS_row _ _ _ (by omega)) : Tp (uS S0 (iL bl + 5) x.2.2.1 v0) B e _) (lo := 0) (hi := 99) (by omega) (by omega) kk
  refine ⟨S9, fun d => ?_, g2, FlL_tr (FlL_t f05) (FlL_tr (FlL_u S0 5 _ _ (by decide) (by omega)) (FlL_t g3))⟩
  rw [go_X2_addCarter, e_X2_addCarter_0]
  refine (if_pos ?_).trans ?_
  · simp (disch := omega) only [hk, hu, hI_n, hI_un, z_nat, em_d, zl, z_add, z_sub, z_mul, z_lt, z_eq, gI_mk, gJ_mk, cI_some, cV_some, cJ_some, cI_x, cV_x, cJ_x, uS_self, uS_ne, if_pos, if_neg, b01, b01n, ite_not, if_true, if_false, Bool.false_eq_true, hLL, t8, t6]
    omega
  refine cI_go (r := zI 1) (st := mkS w (hI S0) J) ?_ ?_
  · simp (disch := omega) only [hk, hu, hI_n, hI_un, z_nat, em_d, zl, z_add, z_sub, z_mul, z_lt, z_eq, gI_mk, gJ_mk, cI_some, cV_some, cJ_some, cI_x, cV_x, cJ_x, uS_self, uS_ne, if_pos, if_neg, b01, b01n, ite_not, if_true, if_false, Bool.false_eq_true, hLL, t8, t6]
    exact f01 _
  refine (if_neg ?_).trans ?_
  · decide
  refine (if_neg ?_).trans ?_
  · simp (disch := omega) only [hk, hu, hI_n, hI_un, z_nat, em_d, zl, z_add, z_sub, z_mul, z_lt, z_eq, gI_mk, gJ_mk, cI_some, cV_some, cJ_some, cI_x, cV_x, cJ_x, uS_self, uS_ne, if_pos, if_neg, b01, b01n, ite_not, if_true, if_false, Bool.false_eq_true, hLL, t8, t6, z07, z06, f04]
    omega
  refine cI_go (r := zI 0) (st := mkS w (hI S9) J) ?_ ?_
  · simp (disch := omega) only [hk, hu, hI_n, hI_un, z_nat, em_d, zl, z_add, z_sub, z_mul, z_lt, z_eq, gI_mk, gJ_mk, cI_some, cV_some, cJ_some, cI_x, cV_x, cJ_x, uS_self, uS_ne, if_pos, if_neg, b01, b01n, ite_not, if_true, if_false, Bool.false_eq_true, hLL, t8, t6, z07, z06, f04]
    exact g1 _
  refine (if_pos ?_).trans ?_
  · decide
  simp (disch := omega) only [hk, hu, hI_n, hI_un, z_nat, em_d, zl, z_add, z_sub, z_mul, z_lt, z_eq, gI_mk, gJ_mk, cI_some, cV_some, cJ_some, cI_x, cV_x, cJ_x, uS_self, uS_ne, if_pos, if_neg, b01, b01n, ite_not, if_true, if_false, Bool.false_eq_true, hLL, rI_d]
theorem c_ldCart_o (w : Bool × Bool × Bool) (J : Nat → Nat → Int64) (h : Tp S B e q) (hL : CLd S (iL bl) x) (kn : ¬ x.2.2.1 = 5) (k0 : numK B e q 0 (x.1 - 1) = 0) (k1 : numK B e (sk B e (numE B e q)) 0 99 = 0) : ∃ S', (∀ d, am_call X aP (d + 4) 22 [.ref ((iL bl)), .ref 1] (mkS w (hI S) J) = some (.inl (some (.int (zI 1))), (mkS w (hI S') J))) ∧ (Tp S' B e (sk B e (numE B e (sk B e (numE B e q)))) ∧ CLd S' (iL bl) (x.1, x.2.1, x.2.2.1 + 1, x.2.2.2.1, crU x.2.2.2.2 x.2.2.1 (numV B e q) (numV B e (sk B e (numE B e q))))) ∧ FlL (iL bl) S S' := by
  have hb := iL_c bl
  obtain ⟨t6, t7, t8, hr, hc, hok⟩ := id hL
  obtain ⟨⟨o1, o2⟩, ⟨o3, o4⟩, ⟨o5, o6⟩, -⟩ := id hok
  obtain ⟨n0a, n0b, n0c⟩ := numK_0 k0
  obtain ⟨S0, f01, f02, f03, f04, f05⟩ := T_num1 (X := X) w J h (lo := 0) (hi := (x.1 - 1)) (by omega) (by omega) k0
  obtain ⟨v0, hv0⟩ : ∃ v, v = numV B e q := ⟨_, rfl⟩
  rw [← hv0] at n0b n0c f04
  have e0 : ∀ j, S0 (iL bl + j) = S (iL bl + j) := fun j => ft_l f05 (by omega)
  have z07 : S0 (iL bl) 8 = x.2.2.1 := by
    rw [show iL bl = iL bl + 0 from rfl, e0 0]
    exact t8
  have z06 : S0 (iL bl) 6 = x.1 := by
    rw [show iL bl = iL bl + 0 from rfl, e0 0]
    exact t6
  obtain ⟨n1a, n1b, n1c⟩ := numK_0 k1
  obtain ⟨S1, f11, f12, f13, f14, f15⟩ := T_num1 (X := X) w J (Tp_o f02 (uS_row _ _ _ (by omega)) (uS_row _ _ _ (by omega)) : Tp (uS S0 (iL bl + 5) x.2.2.1 v0) B e _) (lo := 0) (hi := 99) (by omega) (by omega) k1
  obtain ⟨v1, hv1⟩ : ∃ v, v = numV B e (sk B e (numE B e q)) := ⟨_, rfl⟩
  rw [← hv1] at n1b n1c f14
  have e1 : ∀ j, S1 (iL bl + j) = (uS S0 (iL bl + 5) x.2.2.1 v0) (iL bl + j) := fun j => ft_l f15 (by omega)
  have z17 : S1 (iL bl) 8 = x.2.2.1 := by
    rw [show iL bl = iL bl + 0 from rfl, e1 0, uS_row _ _ _ (by omega)]
    exact z07
  have z16 : S1 (iL bl) 6 = x.1 := by
    rw [show iL bl = iL bl + 0 from rfl, e1 0, uS_row _ _ _ (by omega)]
    exact z06
  rw [← hv0, ← hv1]
  refine ⟨uS (uS S1 (iL bl + 6) x.2.2.1 v1) (iL bl + 0) 8 (x.2.2.1 + 1), fun d => ?_, ⟨Tp_o f12 ((uS_row _ _ _ (by omega)).trans (uS_row _ _ _ (by omega))) ((uS_row _ _ _ (by omega)).trans (uS_row _ _ _ (by omega))), ?_, ?_, ?_, fun r r1 r2 => ?_, fun c c1 c2 => ?_, okL_c hok kn ⟨n0b, n0c⟩ ⟨n1b, n1c⟩⟩, FlL_tr (FlL_t f05) (FlL_tr (FlL_u S0 5 _ _ (by decide) (by omega)) (FlL_tr (FlL_t f15) (FlL_tr (FlL_u S1 6 _ _ (by decide) (by omega)) (FlL_u _ 0 _ _ (by decide) (by omega)))))⟩
  · rw [go_X2_addCarter, e_X2_addCarter_0]
    refine (if_pos ?_).trans ?_
    · simp (disch := omega) only [hk, hu, hI_n, hI_un, z_nat, em_d, zl, z_add, z_sub, z_mul, z_lt, z_eq, gI_mk, gJ_mk, cI_some, cV_some, cJ_some, cI_x, cV_x, cJ_x, uS_self, uS_ne, if_pos, if_neg, b01, b01n, ite_not, if_true, if_false, Bool.false_eq_true, hLL, t8, t6]
      omega
    refine cI_go (r := zI 1) (st := mkS w (hI S0) J) ?_ ?_
    · simp (disch := omega) only [hk, hu, hI_n, hI_un, z_nat, em_d, zl, z_add, z_sub, z_mul, z_lt, z_eq, gI_mk, gJ_mk, cI_some, cV_some, cJ_some, cI_x, cV_x, cJ_x, uS_self, uS_ne, if_pos, if_neg, b01, b01n, ite_not, if_true, if_false, Bool.false_eq_true, hLL, t8, t6]
      exact f01 _
    refine (if_neg ?_).trans ?_
    · decide
    refine (if_neg ?_).trans ?_
    · simp (disch := omega) only [hk, hu, hI_n, hI_un, z_nat, em_d, zl, z_add, z_sub, z_mul, z_lt, z_eq, gI_mk, gJ_mk, cI_some, cV_some, cJ_some, cI_x, cV_x, cJ_x, uS_self, uS_ne, if_pos, if_neg, b01, b01n, ite_not, if_true, if_false, Bool.false_eq_true, hLL, t8, t6, z07, z06, f04]
      omega
    refine cI_go (r := zI 1) (st := mkS w (hI S1) J) ?_ ?_
    · simp (disch := omega) only [hk, hu, hI_n, hI_un, z_nat, em_d, zl, z_add, z_sub, z_mul, z_lt, z_eq, gI_mk, gJ_mk, cI_some, cV_some, cJ_some, cI_x, cV_x, cJ_x, uS_self, uS_ne, if_pos, if_neg, b01, b01n, ite_not, if_true, if_false, Bool.false_eq_true, hLL, t8, t6, z07, z06, f04]
      exact f11 _
    refine (if_neg ?_).trans ?_
    · decide
    refine (if_neg ?_).trans ?_
    · simp (disch := omega) only [hk, hu, hI_n, hI_un, z_nat, em_d, zl, z_add, z_sub, z_mul, z_lt, z_eq, gI_mk, gJ_mk, cI_some, cV_some, cJ_some, cI_x, cV_x, cJ_x, uS_self, uS_ne, if_pos, if_neg, b01, b01n, ite_not, if_true, if_false, Bool.false_eq_true, hLL, t8, t6, z07, z06, f04, z17, z16, f14]
      omega
    simp (disch := omega) only [hk, hu, hI_n, hI_un, z_nat, em_d, zl, z_add, z_sub, z_mul, z_lt, z_eq, gI_mk, gJ_mk, cI_some, cV_some, cJ_some, cI_x, cV_x, cJ_x, uS_self, uS_ne, if_pos, if_neg, b01, b01n, ite_not, if_true, if_false, Bool.false_eq_true, hLL, t8, t6, z07, z06, f04, z17, z16, f14, rI_d]
    rfl
  · rw [uS_ne _ _ (Or.inr (by decide)), uS_row _ _ _ (by omega)]
    exact z16
  · have y0 := e0 0
    have y1 := e1 0
    rw [uS_row _ _ _ (by omega)] at y1
    rw [uS_ne _ _ (Or.inr (by decide)), uS_row _ _ _ (by omega), show S1 (iL bl) = S (iL bl) from y1.trans y0]
    exact t7
  · exact uS_self _ _ _ _
  · have y5 : ∀ i, i < 5 → 0 < i → S1 (iL bl + i) = S (iL bl + i) := fun i hi hi2 => by
      rw [e1 i, uS_row _ _ _ (by omega), e0 i]
    rw [uS_row _ _ _ (by omega), uS_row _ _ _ (by omega), uS_row _ _ _ (by omega), uS_row _ _ _ (by omega), uS_row _ _ _ (by omega), uS_row _ _ _ (by omega), uS_row _ _ _ (by omega), uS_row _ _ _ (by omega), y5 1 (by decide) (by decide), y5 2 (by decide) (by decide), y5 3 (by decide) (by decide), y5 4 (by decide) (by decide)]
    exact hr r r1 r2
  · have c2 : c < x.2.2.1 + 1 := c2
    rw [uS_row _ _ _ (by omega), uS_row _ _ _ (by omega), uS_row _ _ _ (by omega), e1 5]
    show _ = crU x.2.2.2.2 x.2.2.1 v0 v1 (2 * c) ∧ _ = crU x.2.2.2.2 x.2.2.1 v0 v1 (2 * c + 1)
    by_cases e9 : c = x.2.2.1
    · rw [e9, crU_0, crU_1, uS_self, uS_self]
      exact ⟨rfl, rfl⟩
    · obtain ⟨b1, b2⟩ := crU_o x.2.2.2.2 x.2.2.1 v0 v1 e9
      rw [b1, b2, uS_ne _ _ (Or.inr e9), uS_ne _ _ (Or.inr e9), e0 5, e1 6, uS_row _ _ _ (by omega), e0 6]
      exact hc c c1 (by omega)
theorem c_ldRoad (w : Bool × Bool × Bool) (J : Nat → Nat → Int64) (h : Tp S B e q) (h4 : S 1 4 = (t : Int)) (hL : CLd S (iL bl) x) : ∃ S', (∀ d, am_call X aP (d + 4) 21 [.ref ((iL bl)), .ref 1] (mkS w (hI S) J) = some (.inl (some (.int (zI (sg (ldRoad B e t q x))))), (mkS w (hI S') J))) ∧ ldFin S' (iL bl) B e (ldRoad B e t q x) ∧ FlL (iL bl) S S' := by
  unfold ldRoad
  by_cases kn : x.2.1 = 12
  · rw [if_pos kn]
    exact c_ldRoad_f w J h h4 hL kn
  · rw [if_neg kn]
    by_cases k0 : numK B e q 0 (x.1 - 1) = 0
    · rw [if_neg (fun z => z k0)]
      by_cases k1 : numK B e (sk B e (numE B e q)) 0 (x.1 - 1) = 0
      · rw [if_neg (fun z => z k1)]
        by_cases hab : numV B e q = numV B e (sk B e (numE B e q))
        · rw [if_pos hab]
          exact c_ldRoad_e w J h hL kn k0 k1 hab
        · rw [if_neg hab]
          by_cases k2 : numK B e (sk B e (numE B e (sk B e (numE B e q)))) 1 40 = 0
          · rw [if_neg (fun z => z k2)]
            by_cases k3 : numK B e (sk B e (numE B e (sk B e (numE B e (sk B e (numE B e q)))))) 0 6 = 0
            · rw [if_neg (fun z => z k3)]
              exact c_ldRoad_o w J h hL kn k0 k1 k2 k3 hab
            · rw [if_pos k3]
              exact c_ldRoad_3 w J h hL kn k0 k1 k2 hab k3
          · rw [if_pos k2]
            exact c_ldRoad_2 w J h hL kn k0 k1 hab k2
      · rw [if_pos k1]
        exact c_ldRoad_1 w J h hL kn k0 k1
    · rw [if_pos k0]
      exact c_ldRoad_0 w J h hL kn k0
theorem c_ldCart (w : Bool × Bool × Bool) (J : Nat → Nat → Int64) (h : Tp S B e q) (h4 : S 1 4 = (t : Int)) (hL : CLd S (iL bl) x) : ∃ S', (∀ d, am_call X aP (d + 4) 22 [.ref ((iL bl)), .ref 1] (mkS w (hI S) J) = some (.inl (some (.int (zI (sg (ldCart B e t q x))))), (mkS w (hI S') J))) ∧ ldFin S' (iL bl) B e (ldCart B e t q x) ∧ FlL (iL bl) S S' := by
  unfold ldCart
  by_cases kn : x.2.2.1 = 5
  · rw [if_pos kn]
    exact c_ldCart_f w J h h4 hL kn
  · rw [if_neg kn]
    by_cases k0 : numK B e q 0 (x.1 - 1) = 0
    · rw [if_neg (fun z => z k0)]
      by_cases k1 : numK B e (sk B e (numE B e q)) 0 99 = 0
      · rw [if_neg (fun z => z k1)]
        exact c_ldCart_o w J h hL kn k0 k1
      · rw [if_pos k1]
        exact c_ldCart_1 w J h hL kn k0 k1
    · rw [if_pos k0]
      exact c_ldCart_0 w J h hL kn k0
theorem bok_sg {α β : Type} (r : α ⊕ β) : bok (zI (sg r)) = true := by
  cases r
  · exact z_bok0
  · exact z_bok1
theorem c_ldCl (w : Bool × Bool × Bool) (J : Nat → Nat → Int64) (h : Tp S B e q) (hL : CLd S (iL bl) x) : ∃ S', (∀ d, am_call X aP (d + 5) 19 [.ref ((iL bl)), .ref 1] (mkS w (hI S) J) = some (.inl (some (.int (zI (sg (ldCl B e q x))))), (mkS w (hI S') J))) ∧ ldFin S' (iL bl) B e (ldCl B e q x) ∧ FlL (iL bl) S S' := by
  have hb := iL_c bl
  unfold ldCl
  by_cases k0 : wd B e q = sx 0
  · rw [if_pos k0]
    obtain ⟨S1, f1, f2, f3, f4⟩ := T_word1 (X := X) w J h (k := 0) (by decide) k0
    obtain ⟨S2, g1, g2, g3⟩ := c_ldTown (X := X) w J f2 f3 (CLd_ft (by omega) hL f4)
    refine ⟨S2, fun d => ?_, g2, FlL_tr (FlL_t f4) g3⟩
    rw [go_X2_readClause, e_X2_readClause_0, f1]
    simp (disch := omega) only [hk, hu, hI_n, hI_un, z_nat, em_d, zl, z_add, z_sub, z_mul, z_lt, z_eq, gI_mk, gJ_mk, cI_some, cV_some, cJ_some, cI_x, cV_x, cJ_x, uS_self, uS_ne, if_pos, if_neg, b01, b01n, ite_not, if_true, if_false, Bool.false_eq_true, hLL]
    rw [g1]
    simp (disch := omega) only [hk, hu, hI_n, hI_un, z_nat, em_d, zl, z_add, z_sub, z_mul, z_lt, z_eq, gI_mk, gJ_mk, cI_some, cV_some, cJ_some, cI_x, cV_x, cJ_x, uS_self, uS_ne, if_pos, if_neg, b01, b01n, ite_not, if_true, if_false, Bool.false_eq_true, hLL, bok_sg, rI_d]
  · have w0 := fun d => T_word0 (X := X) (d := d) (w := w) (J := J) h (k := 0) (by decide) k0
    rw [if_neg k0]
    by_cases k1 : wd B e q = sx 1
    · rw [if_pos k1]
      obtain ⟨S1, f1, f2, f3, f4⟩ := T_word1 (X := X) w J h (k := 1) (by decide) k1
      obtain ⟨S2, g1, g2, g3⟩ := c_ldRoad (X := X) w J f2 f3 (CLd_ft (by omega) hL f4)
      refine ⟨S2, fun d => ?_, g2, FlL_tr (FlL_t f4) g3⟩
      rw [go_X2_readClause, e_X2_readClause_0, w0]
      simp (disch := omega) only [hk, hu, hI_n, hI_un, z_nat, em_d, zl, z_add, z_sub, z_mul, z_lt, z_eq, gI_mk, gJ_mk, cI_some, cV_some, cJ_some, cI_x, cV_x, cJ_x, uS_self, uS_ne, if_pos, if_neg, b01, b01n, ite_not, if_true, if_false, Bool.false_eq_true, hLL]
      rw [f1]
      simp (disch := omega) only [hk, hu, hI_n, hI_un, z_nat, em_d, zl, z_add, z_sub, z_mul, z_lt, z_eq, gI_mk, gJ_mk, cI_some, cV_some, cJ_some, cI_x, cV_x, cJ_x, uS_self, uS_ne, if_pos, if_neg, b01, b01n, ite_not, if_true, if_false, Bool.false_eq_true, hLL]
      rw [g1]
      simp (disch := omega) only [hk, hu, hI_n, hI_un, z_nat, em_d, zl, z_add, z_sub, z_mul, z_lt, z_eq, gI_mk, gJ_mk, cI_some, cV_some, cJ_some, cI_x, cV_x, cJ_x, uS_self, uS_ne, if_pos, if_neg, b01, b01n, ite_not, if_true, if_false, Bool.false_eq_true, hLL, bok_sg, rI_d]
    · have w1 := fun d => T_word0 (X := X) (d := d) (w := w) (J := J) h (k := 1) (by decide) k1
      rw [if_neg k1]
      by_cases k2 : wd B e q = sx 2
      · rw [if_pos k2]
        obtain ⟨S1, f1, f2, f3, f4⟩ := T_word1 (X := X) w J h (k := 2) (by decide) k2
        obtain ⟨S2, g1, g2, g3⟩ := c_ldCart (X := X) w J f2 f3 (CLd_ft (by omega) hL f4)
        refine ⟨S2, fun d => ?_, g2, FlL_tr (FlL_t f4) g3⟩
        rw [go_X2_readClause, e_X2_readClause_0, w0]
        simp (disch := omega) only [hk, hu, hI_n, hI_un, z_nat, em_d, zl, z_add, z_sub, z_mul, z_lt, z_eq, gI_mk, gJ_mk, cI_some, cV_some, cJ_some, cI_x, cV_x, cJ_x, uS_self, uS_ne, if_pos, if_neg, b01, b01n, ite_not, if_true, if_false, Bool.false_eq_true, hLL]
        rw [w1]
        simp (disch := omega) only [hk, hu, hI_n, hI_un, z_nat, em_d, zl, z_add, z_sub, z_mul, z_lt, z_eq, gI_mk, gJ_mk, cI_some, cV_some, cJ_some, cI_x, cV_x, cJ_x, uS_self, uS_ne, if_pos, if_neg, b01, b01n, ite_not, if_true, if_false, Bool.false_eq_true, hLL]
        rw [f1]
        simp (disch := omega) only [hk, hu, hI_n, hI_un, z_nat, em_d, zl, z_add, z_sub, z_mul, z_lt, z_eq, gI_mk, gJ_mk, cI_some, cV_some, cJ_some, cI_x, cV_x, cJ_x, uS_self, uS_ne, if_pos, if_neg, b01, b01n, ite_not, if_true, if_false, Bool.false_eq_true, hLL]
        rw [g1]
        simp (disch := omega) only [hk, hu, hI_n, hI_un, z_nat, em_d, zl, z_add, z_sub, z_mul, z_lt, z_eq, gI_mk, gJ_mk, cI_some, cV_some, cJ_some, cI_x, cV_x, cJ_x, uS_self, uS_ne, if_pos, if_neg, b01, b01n, ite_not, if_true, if_false, Bool.false_eq_true, hLL, bok_sg, rI_d]
      · have w2 := fun d => T_word0 (X := X) (d := d) (w := w) (J := J) h (k := 2) (by decide) k2
        rw [if_neg k2]
        obtain ⟨S1, f1, f2, f3⟩ := T_failHere (X := X) w J h 1
        refine ⟨S1, fun d => ?_, f2, FlL_t f3⟩
        rw [go_X2_readClause, e_X2_readClause_0, w0]
        simp (disch := omega) only [hk, hu, hI_n, hI_un, z_nat, em_d, zl, z_add, z_sub, z_mul, z_lt, z_eq, gI_mk, gJ_mk, cI_some, cV_some, cJ_some, cI_x, cV_x, cJ_x, uS_self, uS_ne, if_pos, if_neg, b01, b01n, ite_not, if_true, if_false, Bool.false_eq_true, hLL]
        rw [w1]
        simp (disch := omega) only [hk, hu, hI_n, hI_un, z_nat, em_d, zl, z_add, z_sub, z_mul, z_lt, z_eq, gI_mk, gJ_mk, cI_some, cV_some, cJ_some, cI_x, cV_x, cJ_x, uS_self, uS_ne, if_pos, if_neg, b01, b01n, ite_not, if_true, if_false, Bool.false_eq_true, hLL]
        rw [w2]
        simp (disch := omega) only [hk, hu, hI_n, hI_un, z_nat, em_d, zl, z_add, z_sub, z_mul, z_lt, z_eq, gI_mk, gJ_mk, cI_some, cV_some, cJ_some, cI_x, cV_x, cJ_x, uS_self, uS_ne, if_pos, if_neg, b01, b01n, ite_not, if_true, if_false, Bool.false_eq_true, hLL]
        rw [f1]
        simp (disch := omega) only [hk, hu, hI_n, hI_un, z_nat, em_d, zl, z_add, z_sub, z_mul, z_lt, z_eq, gI_mk, gJ_mk, cI_some, cV_some, cJ_some, cI_x, cV_x, cJ_x, uS_self, uS_ne, if_pos, if_neg, b01, b01n, ite_not, if_true, if_false, Bool.false_eq_true, hLL, z_bok0, rI_d]
        rfl
def lrFin (S' : Hp) (l : Nat) (r : Flt ⊕ LSt) : Prop := match r with
  | .inl f => S' 1 6 = f.1 ∧ S' 1 7 = f.2
  | .inr x => CLd S' l x
theorem l_ldRun (w : Bool × Bool × Bool) (J : Nat → Nat → Int64) : ∀ (j q i : Nat) (S : Hp) (x : LSt), i + j = 600 → i ≤ q → Tp S B e q → CLd S (iL bl) x → ∃ S', (∀ d n, j + 1 ≤ n → aR X (d + 5) m_X2_readFrom n 11 [some (.ref ((iL bl))), some (.ref 1), some (.int (zI ((i : Int))))] (0, 0) (mkS w (hI S) J) = some (.inl (some (.int (zI (sg (ldRun B e j q x))))), (mkS w (hI S') J))) ∧ lrFin S' (iL bl) (ldRun B e j q x) ∧ FlL (iL bl) S S'
  | 0, q, i, S, x, h1, h2, hT, hL => by
    refine ⟨S, fun d n hn => ?_, hL, ⟨fun _ _ => rfl, fun _ _ => rfl⟩⟩
    obtain ⟨n, rfl⟩ : ∃ m, n = m + 1 := ⟨n - 1, by omega⟩
    rw [e_X2_readFrom_11]
    simp (disch := omega) only [hk, hu, hI_n, hI_un, z_nat, em_d, zl, z_add, z_sub, z_mul, z_lt, z_eq, gI_mk, gJ_mk, cI_some, cV_some, cJ_some, cI_x, cV_x, cJ_x, uS_self, uS_ne, if_pos, if_neg, b01, b01n, ite_not, if_true, if_false, Bool.false_eq_true, hLL, rI_d]
    rfl
  | j + 1, q, i, S, x, h1, h2, hT, hL => by
    have hen := fun d => T_ends (X := X) (d := d) (w := w) (J := J) hT
    have he := hT.2.2.1
    by_cases q1 : q < e
    · obtain ⟨S1, g1, g2, g3⟩ := c_ldCl (X := X) w J hT hL
      cases er : ldCl B e q x with
      | inl f =>
        rw [er] at g1 g2
        rw [ldRun_l q1 er]
        refine ⟨S1, fun d n hn => ?_, g2, g3⟩
        obtain ⟨n, rfl⟩ : ∃ m, n = m + 1 := ⟨n - 1, by omega⟩
        rw [e_X2_readFrom_11]
        simp (disch := omega) only [hk, hu, hI_n, hI_un, z_nat, em_d, zl, z_add, z_sub, z_mul, z_lt, z_eq, gI_mk, gJ_mk, cI_some, cV_some, cJ_some, cI_x, cV_x, cJ_x, uS_self, uS_ne, if_pos, if_neg, b01, b01n, ite_not, if_true, if_false, Bool.false_eq_true, hLL]
        rw [hen]
        simp (disch := omega) only [hk, hu, hI_n, hI_un, z_nat, em_d, zl, z_add, z_sub, z_mul, z_lt, z_eq, gI_mk, gJ_mk, cI_some, cV_some, cJ_some, cI_x, cV_x, cJ_x, uS_self, uS_ne, if_pos, if_neg, b01, b01n, ite_not, if_true, if_false, Bool.false_eq_true, hLL]
        rw [g1]
        simp (disch := omega) only [hk, hu, hI_n, hI_un, z_nat, em_d, zl, z_add, z_sub, z_mul, z_lt, z_eq, gI_mk, gJ_mk, cI_some, cV_some, cJ_some, cI_x, cV_x, cJ_x, uS_self, uS_ne, if_pos, if_neg, b01, b01n, ite_not, if_true, if_false, Bool.false_eq_true, hLL, sg_l, rI_d]
      | inr y =>
        rw [er] at g1 g2
        rw [ldRun_r q1 er]
        obtain ⟨hT1, hL1⟩ := g2
        have hx := ldCl_q er
        by_cases q2 : y.2 < e ∧ B y.2 = 59
        · obtain ⟨S2, f1, f2, f3⟩ := T_needs1 (X := X) w J hT1 (c := 59) (by decide) q2
          have hsk := sk_ge (B := B) (e := e) (p := y.2 + 1)
          have hL2 := CLd_ft (by have := iL_c bl; omega) hL1 f3
          obtain ⟨S3, y1, y2, y3⟩ := l_ldRun w J j (sk B e (y.2 + 1)) (i + 1) S2 y.1 (by omega) (by omega) f2 hL2
          rw [if_pos q2]
          refine ⟨S3, fun d n hn => ?_, y2, FlL_tr g3 (FlL_tr (FlL_t f3) y3)⟩
          obtain ⟨n, rfl⟩ : ∃ m, n = m + 1 := ⟨n - 1, by omega⟩
          have y1 := y1 d n (by omega)
          rw [show ((i + 1 : Nat) : Int) = (i : Int) + 1 by omega] at y1
          rw [e_X2_readFrom_11]
          simp (disch := omega) only [hk, hu, hI_n, hI_un, z_nat, em_d, zl, z_add, z_sub, z_mul, z_lt, z_eq, gI_mk, gJ_mk, cI_some, cV_some, cJ_some, cI_x, cV_x, cJ_x, uS_self, uS_ne, if_pos, if_neg, b01, b01n, ite_not, if_true, if_false, Bool.false_eq_true, hLL]
          rw [hen]
          simp (disch := omega) only [hk, hu, hI_n, hI_un, z_nat, em_d, zl, z_add, z_sub, z_mul, z_lt, z_eq, gI_mk, gJ_mk, cI_some, cV_some, cJ_some, cI_x, cV_x, cJ_x, uS_self, uS_ne, if_pos, if_neg, b01, b01n, ite_not, if_true, if_false, Bool.false_eq_true, hLL]
          rw [g1]
          simp (disch := omega) only [hk, hu, hI_n, hI_un, z_nat, em_d, zl, z_add, z_sub, z_mul, z_lt, z_eq, gI_mk, gJ_mk, cI_some, cV_some, cJ_some, cI_x, cV_x, cJ_x, uS_self, uS_ne, if_pos, if_neg, b01, b01n, ite_not, if_true, if_false, Bool.false_eq_true, hLL, sg_r]
          rw [f1]
          simp (disch := omega) only [hk, hu, hI_n, hI_un, z_nat, em_d, zl, z_add, z_sub, z_mul, z_lt, z_eq, gI_mk, gJ_mk, cI_some, cV_some, cJ_some, cI_x, cV_x, cJ_x, uS_self, uS_ne, if_pos, if_neg, b01, b01n, ite_not, if_true, if_false, Bool.false_eq_true, hLL]
          exact y1
        · obtain ⟨S2, f1, f2, f3⟩ := T_needs0 (X := X) w J hT1 (c := 59) (by decide) q2
          rw [if_neg q2]
          refine ⟨S2, fun d n hn => ?_, f2, FlL_tr g3 (FlL_t f3)⟩
          obtain ⟨n, rfl⟩ : ∃ m, n = m + 1 := ⟨n - 1, by omega⟩
          rw [e_X2_readFrom_11]
          simp (disch := omega) only [hk, hu, hI_n, hI_un, z_nat, em_d, zl, z_add, z_sub, z_mul, z_lt, z_eq, gI_mk, gJ_mk, cI_some, cV_some, cJ_some, cI_x, cV_x, cJ_x, uS_self, uS_ne, if_pos, if_neg, b01, b01n, ite_not, if_true, if_false, Bool.false_eq_true, hLL]
          rw [hen]
          simp (disch := omega) only [hk, hu, hI_n, hI_un, z_nat, em_d, zl, z_add, z_sub, z_mul, z_lt, z_eq, gI_mk, gJ_mk, cI_some, cV_some, cJ_some, cI_x, cV_x, cJ_x, uS_self, uS_ne, if_pos, if_neg, b01, b01n, ite_not, if_true, if_false, Bool.false_eq_true, hLL]
          rw [g1]
          simp (disch := omega) only [hk, hu, hI_n, hI_un, z_nat, em_d, zl, z_add, z_sub, z_mul, z_lt, z_eq, gI_mk, gJ_mk, cI_some, cV_some, cJ_some, cI_x, cV_x, cJ_x, uS_self, uS_ne, if_pos, if_neg, b01, b01n, ite_not, if_true, if_false, Bool.false_eq_true, hLL, sg_r]
          rw [f1]
          simp (disch := omega) only [hk, hu, hI_n, hI_un, z_nat, em_d, zl, z_add, z_sub, z_mul, z_lt, z_eq, gI_mk, gJ_mk, cI_some, cV_some, cJ_some, cI_x, cV_x, cJ_x, uS_self, uS_ne, if_pos, if_neg, b01, b01n, ite_not, if_true, if_false, Bool.false_eq_true, hLL, rI_d]
          rfl
    · rw [show ldRun B e (j + 1) q x = .inr x from if_neg q1]
      refine ⟨S, fun d n hn => ?_, hL, ⟨fun _ _ => rfl, fun _ _ => rfl⟩⟩
      obtain ⟨n, rfl⟩ : ∃ m, n = m + 1 := ⟨n - 1, by omega⟩
      rw [e_X2_readFrom_11]
      simp (disch := omega) only [hk, hu, hI_n, hI_un, z_nat, em_d, zl, z_add, z_sub, z_mul, z_lt, z_eq, gI_mk, gJ_mk, cI_some, cV_some, cJ_some, cI_x, cV_x, cJ_x, uS_self, uS_ne, if_pos, if_neg, b01, b01n, ite_not, if_true, if_false, Bool.false_eq_true, hLL]
      rw [hen]
      simp (disch := omega) only [hk, hu, hI_n, hI_un, z_nat, em_d, zl, z_add, z_sub, z_mul, z_lt, z_eq, gI_mk, gJ_mk, cI_some, cV_some, cJ_some, cI_x, cV_x, cJ_x, uS_self, uS_ne, if_pos, if_neg, b01, b01n, ite_not, if_true, if_false, Bool.false_eq_true, hLL, rI_d]
      rfl
def ld0 : LSt := (0, 0, 0, fun _ => 0, fun _ => 0)
theorem okL_0 : okL ld0 := ⟨by decide, by decide, by decide, fun r r1 r2 => absurd (show r < 0 from r2) (by omega), fun r r1 r2 => absurd (show r < 0 from r2) (by omega)⟩
def ldAll (B : Nat → Int) (e : Nat) : Flt ⊕ LSt := ldRun B e 600 (sk B e 0) ld0
theorem c_landRead (w : Bool × Bool × Bool) (J : Nat → Nat → Int64) (hT : Tp S B e (sk B e 0)) : ∃ S', (∀ d, am_call X aP (d + 6) 18 [.ref ((iL bl)), .ref 1] (mkS w (hI S) J) = some (.inl (some (.int (zI (sg (ldAll B e))))), (mkS w (hI S') J))) ∧ lrFin S' (iL bl) (ldAll B e) ∧ FlL (iL bl) S S' := by
  have hb := iL_c bl
  obtain ⟨S', g1, g2, g3⟩ := l_ldRun (X := X) (B := B) (e := e) (bl := bl) w J 600 (sk B e 0) 0 (uS (uS (uS S (iL bl) 6 0) (iL bl) 7 0) (iL bl) 8 0) ld0 (by decide) (Nat.zero_le _) (Tp_o hT ((uS_row _ _ _ (by omega)).trans ((uS_row _ _ _ (by omega)).trans (uS_row _ _ _ (by omega)))) ((uS_row _ _ _ (by omega)).trans ((uS_row _ _ _ (by omega)).trans (uS_row _ _ _ (by omega))))) ⟨(uS_ne _ _ (Or.inr (by decide))).trans ((uS_ne _ _ (Or.inr (by decide))).trans (uS_self _ _ _ _)), (uS_ne _ _ (Or.inr (by decide))).trans (uS_self _ _ _ _), uS_self _ _ _ _, fun r r1 r2 => absurd (show r < 0 from r2) (by omega), fun r r1 r2 => absurd (show r < 0 from r2) (by omega), okL_0⟩
  refine ⟨S', fun d => ?_, g2, FlL_tr (FlL_u S 0 _ _ (by decide) (by omega)) (FlL_tr (FlL_u _ 0 _ _ (by decide) (by omega)) (FlL_tr (FlL_u _ 0 _ _ (by decide) (by omega)) g3))⟩
  rw [go_X2_readFrom, e_X2_readFrom_0]
  simp (disch := omega) only [hk, hu, hI_n, hI_un, z_nat, em_d, zl, z_add, z_sub, z_mul, z_lt, z_eq, gI_mk, gJ_mk, cI_some, cV_some, cJ_some, cI_x, cV_x, cJ_x, uS_self, uS_ne, if_pos, if_neg, b01, b01n, ite_not, if_true, if_false, Bool.false_eq_true, hLL]
  exact g1 d 9999999 (by decide)
end LTX
