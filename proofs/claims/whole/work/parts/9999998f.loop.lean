/-! THE LAW'S LOOP -/
set_option maxRecDepth 100000 in
theorem lwp_1561 {X : Nat × (Nat → Int32)} {d n k : Nat} {x4 : Int32} {c1 c2 : Nat} {st : aSt} : lw X d n (k + 2) 1561 (lwL x4 none none none) [] (c1, c2) st = aR X d m_L_law_ n 13 (lwL (x4 + nI 9) none none none) (c1, c2) st := rfl
section LOP
variable {X : Nat × (Nat → Int32)} {dd : Nat}
theorem rows_ok {n : Nat} {w : Bool × Bool × Bool} {S : Hp} {J : Nat → Nat → Int64} {x4 : Int32} {c1 c2 : Nat} (hR : Rel w S) (hx : ∀ j : Nat, 1 ≤ j → j ≤ 8 → ¬ ((x4 + nI j) < 0 ∨ X.1 ≤ (x4 + nI j).toNatClampNeg)) (hc : c1 + 4 ≤ 601024 ∧ c2 + 24 ≤ 7293034) : ∀ {v : Nat}, v < 36 → StP X dd n w S J x4 c1 c2 (lawRow v)
  | 0, _ => st_feed hR hx hc
  | 1, _ => st_land hR hx hc
  | 2, _ => st_law hR hx hc
  | 3, _ => st_work hR hx hc
  | 4, _ => st_book hR hx hc
  | 5, _ => st_fault hR hx hc
  | 6, _ => st_undo hR hx hc
  | 7, _ => st_told hR hx hc
  | 8, _ => st_town hR hx hc
  | 9, _ => st_road hR hx hc
  | 10, _ => st_carter hR hx hc
  | 11, _ => st_would hR hx hc
  | 12, _ => st_lasts hR hx hc
  | 13, _ => st_soon hR hx hc
  | 14, _ => st_way hR hx hc
  | 15, _ => st_latest hR hx hc
  | 16, _ => st_day hR hx hc
  | 17, _ => st_farthest hR hx hc
  | 18, _ => st_joined hR hx hc
  | 19, _ => st_part hR hx hc
  | 20, _ => st_mend hR hx hc
  | 21, _ => st_picnic hR hx hc
  | 22, _ => st_fits hR hx hc
  | 23, _ => st_look hR hx hc
  | 24, _ => st_inn hR hx hc
  | 25, _ => st_luck hR hx hc
  | 26, _ => st_oats hR hx hc
  | 27, _ => st_weariest hR hx hc
  | 28, _ => st_arrives hR hx hc
  | 29, _ => st_reach hR hx hc
  | 30, _ => st_year hR hx hc
  | 31, _ => st_span hR hx hc
  | 32, _ => st_image hR hx hc
  | 33, _ => st_restore hR hx hc
  | 34, _ => st_status hR hx hc
  | 35, _ => st_count hR hx hc
  | q + 36, h => absurd h (by omega)
theorem row_36 {v : Nat} (h : ¬ v < 36) : lawRow v = 1561 := by
  unfold lawRow
  rw [List.getD_eq_getElem?_getD, List.getElem?_eq_none (by show 36 ≤ v; omega)]
  rfl
/-- one record: from the switch to the loop's head -/
theorem rec_ok {n : Nat} {w : Bool × Bool × Bool} {S : Hp} {J : Nat → Nat → Int64} {x4 : Int32} {c1 c2 : Nat} (hR : Rel w S) (hx : ∀ j : Nat, 1 ≤ j → j ≤ 8 → ¬ ((x4 + nI j) < 0 ∨ X.1 ≤ (x4 + nI j).toNatClampNeg)) (hc : c1 + 4 ≤ 601024 ∧ c2 + 24 ≤ 7293034) (v : Nat) : ∃ (w' : Bool × Bool × Bool) (S' : Hp) (J' : Nat → Nat → Int64) (a b m : Nat), aR X (dd + 60) m_L_law_ (n + 2) (lawRow v) (lwL x4 none none none) (c1, c2) (mkS w (hI S) J) = aR X (dd + 60) m_L_law_ m 13 (lwL (x4 + nI 9) none none none) (c1 + a, c2 + b) (mkS w' (hI S') J') ∧ n ≤ m ∧ a ≤ 4 ∧ b ≤ 24 ∧ Rel w' S' := by
  by_cases h : v < 36
  · obtain ⟨w', S', J', a, b, h1, h2, h3, h4⟩ := rows_ok (X := X) (dd := dd) (n := n + 1) (J := J) hR hx hc h
    refine ⟨w', S', J', a, b, n, h1.trans ?_, Nat.le_refl _, h2, h3, h4⟩
    rw [lw_aR]
    exact lwp_1561 (k := 398)
  · rw [row_36 h]
    refine ⟨w, S, J, 0, 0, n + 1, ?_, by omega, by decide, by decide, hR⟩
    rw [show n + 2 = (n + 1) + 1 from rfl, lw_aR]
    exact lwp_1561 (k := 398)
theorem loop_ok (hX : X.1 ≤ 4608) : ∀ (j t n : Nat) (w : Bool × Bool × Bool) (S : Hp) (J : Nat → Nat → Int64) (c1 c2 : Nat), t + j = X.1 / 9 → Rel w S → 3 * j + 1 ≤ n → c1 + 4 * j ≤ 601024 → c2 + 24 * j ≤ 7293034 → ∃ st' : aSt, aR X (dd + 60) m_L_law_ n 13 (lwL (zI ((9 * t : Nat) : Int)) none none none) (c1, c2) (mkS w (hI S) J) = some (.inl (some (.int 1)), st')
  | 0, t, n, w, S, J, c1, c2, ht, hR, hn, h1, h2 => by
    obtain ⟨n, rfl⟩ : ∃ m, n = m + 1 := ⟨n - 1, by omega⟩
    obtain ⟨v, hv, ev⟩ := z_mask (X.2 (zI ((9 * t : Nat) : Int)).toNatClampNeg) 6
    have e13 := e_L_law__13 X (dd + 60) n w (hI S) J (zI ((9 * t : Nat) : Int)) c1 c2 (v := v) (by omega) ev
    refine ⟨mkS w (hI S) J, e13.trans ?_⟩
    rw [if_pos]
    · rfl
    · rw [z_nI, z_nI, z_sub, z_lt (by omega) (by omega) (by omega) (by omega)]
      omega
  | j + 1, t, n, w, S, J, c1, c2, ht, hR, hn, h1, h2 => by
    obtain ⟨n, rfl⟩ : ∃ m, n = m + 3 := ⟨n - 3, by omega⟩
    obtain ⟨v, hv, ev⟩ := z_mask (X.2 (zI ((9 * t : Nat) : Int)).toNatClampNeg) 6
    have e13 := e_L_law__13 X (dd + 60) (n + 2) w (hI S) J (zI ((9 * t : Nat) : Int)) c1 c2 (v := v) (by omega) ev
    have hx : ∀ j : Nat, 1 ≤ j → j ≤ 8 → ¬ ((zI ((9 * t : Nat) : Int) + nI j) < 0 ∨ X.1 ≤ (zI ((9 * t : Nat) : Int) + nI j).toNatClampNeg) := by
      intro i i1 i2
      rw [z_nI, z_add, z_lit0, z_lt (by omega) (by omega) (by omega) (by omega), z_nat (by omega) (by omega)]
      omega
    obtain ⟨w', S', J', a, b, m, g1, g2, g3, g4, g5⟩ := rec_ok (X := X) (dd := dd) (n := n) (J := J) (c1 := c1) (c2 := c2) hR hx ⟨by omega, by omega⟩ v
    have e9 : zI ((9 * t : Nat) : Int) + nI 9 = zI ((9 * (t + 1) : Nat) : Int) := by
      rw [z_nI, z_add]
      congr 1
    rw [e9] at g1
    obtain ⟨st', hst⟩ := loop_ok hX j (t + 1) m w' S' J' (c1 + a) (c2 + b) (by omega) g5 (by omega) (by omega) (by omega)
    refine ⟨st', e13.trans ?_⟩
    rw [if_neg, if_neg]
    · exact g1.trans hst
    · rw [z_lit0, z_lt (by omega) (by omega) (by omega) (by omega), z_nat (by omega) (by omega)]
      omega
    · rw [z_nI, z_nI, z_sub, z_lt (by omega) (by omega) (by omega) (by omega)]
      omega
end LOP
