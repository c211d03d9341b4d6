/-! THE LAW'S HELPERS -/
theorem uJ_same (J : Nat → Nat → Int64) (v : Int64) : uJ J 158 0 v 158 0 = v := by
  rw [uJ_at, if_pos ⟨rfl, rfl⟩]
theorem nc0 : (nI 0).toNatClampNeg = 0 := by decide
theorem mk_tup (w : Bool × Bool × Bool) (I : Nat → Nat → Int32) (J J' : Nat → Nat → Int64) : ((gN (mkS w I J), gI (mkS w I J), J', gR (mkS w I J)) : aSt) = mkS w I J' := id rfl
theorem twoA_r (x : Nat) : 0 ≤ twoA x ∧ twoA x ≤ 2 := by
  unfold twoA
  split
  · decide
  · split <;> decide
theorem oneB_r (x : Nat) : 0 ≤ oneB x ∧ oneB x ≤ 2 := by
  unfold oneB
  split <;> decide
theorem oneN_r (x : Nat) : 0 ≤ oneN x ∧ oneN x ≤ 2 := by
  unfold oneN
  split <;> decide
theorem z_ne0 {c : Int} (h : 0 ≤ c ∧ c ≤ 2) (h0 : c ≠ 0) : ¬ zI c = 0 := by
  rw [z_lit0, z_eq (by omega) (by omega) (by omega) (by omega)]
  exact h0
theorem x32 (a : Int32) : ∃ p : Int, a = zI p ∧ I32 p := ⟨a.toInt, z_of a, Int32.le_toInt a, Int32.toInt_lt a⟩
theorem thr {X : Nat × (Nat → Int32)} {dd : Nat} {w : Bool × Bool × Bool} {S : Hp} {J : Nat → Nat → Int64} {c : Int} (h : S 132 0 = c) : am_call X aP (dd + 60) 152 [.ref 132] (mkS w (hI S) J) = some (.inl (some (.int (zI c))), mkS w (hI S) J) := by
  have := m_thrown (X := X) (d := dd + 59) (w := w) (S := S) (J := J)
  rw [h] at this
  exact this
theorem hp_land {X : Nat × (Nat → Int32)} {dd : Nat} {w w1 : Bool × Bool × Bool} {I I1 : Nat → Nat → Int32} {J J1 : Nat → Nat → Int64} {x1 : Int32} {v : Int32} (h : am_call X aP (dd + 59) 104 [.ref 0, .int x1] (mkS w I J) = some (.inl (some (.int v)), mkS w1 I1 J1)) : am_call X aP (dd + 60) 269 [.ref 0, .int x1, .ref 158] (mkS w I J) = some (.inl (some (.int (zI 0))), mkS w1 I1 (uJ J1 158 0 v.toInt64)) := by
  rw [show dd + 60 = (dd + 59) + 1 from rfl, go_L_land, e_L_land_0, h, cI_some]
  rw [if_neg (by decide), nc0, gJ_mk, mk_tup, rI_d, z_0]
theorem hpx_land {X : Nat × (Nat → Int32)} {dd : Nat} {w : Bool × Bool × Bool} {I I1 : Nat → Nat → Int32} {J J1 : Nat → Nat → Int64} {x1 : Int32} {x : Nat} (hx : oneB x ≠ 0) (h : am_call X aP (dd + 59) 104 [.ref 0, .int x1] (mkS w I J) = some (.inr x, mkS w I1 J1)) : am_call X aP (dd + 60) 269 [.ref 0, .int x1, .ref 158] (mkS w I J) = some (.inl (some (.int (zI (oneB x)))), mkS w I1 J1) := by
  by_cases hq : x = 2
  · subst hq
    rw [show dd + 60 = (dd + 59) + 1 from rfl, go_L_land, e_L_land_0, h, cI_x, if_pos rfl, gJ_mk, mk_tup, rI_d, show oneB 2 = 1 from rfl, z_1]
  · exact absurd (by unfold oneB; rw [if_neg hq]) hx
theorem hp_law {X : Nat × (Nat → Int32)} {dd : Nat} {w w1 : Bool × Bool × Bool} {I I1 : Nat → Nat → Int32} {J J1 : Nat → Nat → Int64} {x1 : Int32} {v : Int32} (h : am_call X aP (dd + 59) 105 [.ref 0, .int x1] (mkS w I J) = some (.inl (some (.int v)), mkS w1 I1 J1)) : am_call X aP (dd + 60) 270 [.ref 0, .int x1, .ref 158] (mkS w I J) = some (.inl (some (.int (zI 0))), mkS w1 I1 (uJ J1 158 0 v.toInt64)) := by
  rw [show dd + 60 = (dd + 59) + 1 from rfl, go_L_law, e_L_law_0, h, cI_some]
  rw [if_neg (by decide), nc0, gJ_mk, mk_tup, rI_d, z_0]
theorem hpx_law {X : Nat × (Nat → Int32)} {dd : Nat} {w : Bool × Bool × Bool} {I I1 : Nat → Nat → Int32} {J J1 : Nat → Nat → Int64} {x1 : Int32} {x : Nat} (hx : oneB x ≠ 0) (h : am_call X aP (dd + 59) 105 [.ref 0, .int x1] (mkS w I J) = some (.inr x, mkS w I1 J1)) : am_call X aP (dd + 60) 270 [.ref 0, .int x1, .ref 158] (mkS w I J) = some (.inl (some (.int (zI (oneB x)))), mkS w I1 J1) := by
  by_cases hq : x = 2
  · subst hq
    rw [show dd + 60 = (dd + 59) + 1 from rfl, go_L_law, e_L_law_0, h, cI_x, if_pos rfl, gJ_mk, mk_tup, rI_d, show oneB 2 = 1 from rfl, z_1]
  · exact absurd (by unfold oneB; rw [if_neg hq]) hx
theorem hp_work {X : Nat × (Nat → Int32)} {dd : Nat} {w : Bool × Bool × Bool} {I I1 : Nat → Nat → Int32} {J J1 : Nat → Nat → Int64} {x1 : Int32} {v : Int32} (h : am_call X aP (dd + 59) 106 [.ref 0, .int x1] (mkS w I J) = some (.inl (some (.int v)), mkS w I1 J1)) : am_call X aP (dd + 60) 271 [.ref 0, .int x1, .ref 158] (mkS w I J) = some (.inl (some (.int (zI 0))), mkS w I1 (uJ J1 158 0 v.toInt64)) := by
  rw [show dd + 60 = (dd + 59) + 1 from rfl, go_L_work, e_L_work_0, h, cI_some]
  rw [if_neg (by decide), nc0, gI_mk, gJ_mk, rI_d, z_0]
theorem hpx_work {X : Nat × (Nat → Int32)} {dd : Nat} {w : Bool × Bool × Bool} {I I1 : Nat → Nat → Int32} {J J1 : Nat → Nat → Int64} {x1 : Int32} {x : Nat} (hx : oneB x ≠ 0) (h : am_call X aP (dd + 59) 106 [.ref 0, .int x1] (mkS w I J) = some (.inr x, mkS w I1 J1)) : am_call X aP (dd + 60) 271 [.ref 0, .int x1, .ref 158] (mkS w I J) = some (.inl (some (.int (zI (oneB x)))), mkS w I1 J1) := by
  by_cases hq : x = 2
  · subst hq
    rw [show dd + 60 = (dd + 59) + 1 from rfl, go_L_work, e_L_work_0, h, cI_x, if_pos rfl, gI_mk, gJ_mk, rI_d, show oneB 2 = 1 from rfl, z_1]
  · exact absurd (by unfold oneB; rw [if_neg hq]) hx
theorem hp_book {X : Nat × (Nat → Int32)} {dd : Nat} {w w1 : Bool × Bool × Bool} {I I1 : Nat → Nat → Int32} {J J1 : Nat → Nat → Int64} {x1 : Int32} {v : Int32} (h : am_call X aP (dd + 59) 107 [.ref 0, .int x1] (mkS w I J) = some (.inl (some (.int v)), mkS w1 I1 J1)) : am_call X aP (dd + 60) 272 [.ref 0, .int x1, .ref 158] (mkS w I J) = some (.inl (some (.int (zI 0))), mkS w1 I1 (uJ J1 158 0 v.toInt64)) := by
  rw [show dd + 60 = (dd + 59) + 1 from rfl, go_L_book, e_L_book_0, h, cI_some]
  rw [if_neg (by decide), nc0, gJ_mk, mk_tup, rI_d, z_0]
theorem hpx_book {X : Nat × (Nat → Int32)} {dd : Nat} {w : Bool × Bool × Bool} {I I1 : Nat → Nat → Int32} {J J1 : Nat → Nat → Int64} {x1 : Int32} {x : Nat} (hx : oneB x ≠ 0) (h : am_call X aP (dd + 59) 107 [.ref 0, .int x1] (mkS w I J) = some (.inr x, mkS w I1 J1)) : am_call X aP (dd + 60) 272 [.ref 0, .int x1, .ref 158] (mkS w I J) = some (.inl (some (.int (zI (oneB x)))), mkS w I1 J1) := by
  by_cases hq : x = 2
  · subst hq
    rw [show dd + 60 = (dd + 59) + 1 from rfl, go_L_book, e_L_book_0, h, cI_x, if_pos rfl, gJ_mk, mk_tup, rI_d, show oneB 2 = 1 from rfl, z_1]
  · exact absurd (by unfold oneB; rw [if_neg hq]) hx
theorem hp_told {X : Nat × (Nat → Int32)} {dd : Nat} {w : Bool × Bool × Bool} {I I1 : Nat → Nat → Int32} {J J1 : Nat → Nat → Int64} {x1 : Int32} {v : Int32} (h : am_call X aP (dd + 59) 110 [.ref 0, .int x1] (mkS w I J) = some (.inl (some (.int v)), mkS w I1 J1)) : am_call X aP (dd + 60) 273 [.ref 0, .int x1, .ref 158] (mkS w I J) = some (.inl (some (.int (zI 0))), mkS w I1 (uJ J1 158 0 v.toInt64)) := by
  rw [show dd + 60 = (dd + 59) + 1 from rfl, go_L_told, e_L_told_0, h, cI_some]
  rw [if_neg (by decide), nc0, gI_mk, gJ_mk, rI_d, z_0]
theorem hpx_told {X : Nat × (Nat → Int32)} {dd : Nat} {w : Bool × Bool × Bool} {I I1 : Nat → Nat → Int32} {J J1 : Nat → Nat → Int64} {x1 : Int32} {x : Nat} (hx : oneB x ≠ 0) (h : am_call X aP (dd + 59) 110 [.ref 0, .int x1] (mkS w I J) = some (.inr x, mkS w I1 J1)) : am_call X aP (dd + 60) 273 [.ref 0, .int x1, .ref 158] (mkS w I J) = some (.inl (some (.int (zI (oneB x)))), mkS w I1 J1) := by
  by_cases hq : x = 2
  · subst hq
    rw [show dd + 60 = (dd + 59) + 1 from rfl, go_L_told, e_L_told_0, h, cI_x, if_pos rfl, gI_mk, gJ_mk, rI_d, show oneB 2 = 1 from rfl, z_1]
  · exact absurd (by unfold oneB; rw [if_neg hq]) hx
theorem hp_town {X : Nat × (Nat → Int32)} {dd : Nat} {w : Bool × Bool × Bool} {I I1 : Nat → Nat → Int32} {J J1 : Nat → Nat → Int64} {x1 x2 : Int32} {v : Int32} (h : am_call X aP (dd + 59) 111 [.ref 0, .int x1, .int x2] (mkS w I J) = some (.inl (some (.int v)), mkS w I1 J1)) : am_call X aP (dd + 60) 274 [.ref 0, .int x1, .int x2, .ref 158] (mkS w I J) = some (.inl (some (.int (zI 0))), mkS w I1 (uJ J1 158 0 v.toInt64)) := by
  rw [show dd + 60 = (dd + 59) + 1 from rfl, go_L_town, e_L_town_0, h, cI_some]
  rw [if_neg (by decide), nc0, gI_mk, gJ_mk, rI_d, z_0]
theorem hpx_town {X : Nat × (Nat → Int32)} {dd : Nat} {w : Bool × Bool × Bool} {I I1 : Nat → Nat → Int32} {J J1 : Nat → Nat → Int64} {x1 x2 : Int32} {x : Nat} (hx : twoA x ≠ 0) (h : am_call X aP (dd + 59) 111 [.ref 0, .int x1, .int x2] (mkS w I J) = some (.inr x, mkS w I1 J1)) : am_call X aP (dd + 60) 274 [.ref 0, .int x1, .int x2, .ref 158] (mkS w I J) = some (.inl (some (.int (zI (twoA x)))), mkS w I1 J1) := by
  by_cases hq : x = 1
  · subst hq
    rw [show dd + 60 = (dd + 59) + 1 from rfl, go_L_town, e_L_town_0, h, cI_x, if_pos rfl, gI_mk, gJ_mk, rI_d, show twoA 1 = 1 from rfl, z_1]
  · by_cases hq : x = 2
    · subst hq
      rw [show dd + 60 = (dd + 59) + 1 from rfl, go_L_town, e_L_town_0, h, cI_x, if_neg (by decide), if_pos rfl, gI_mk, gJ_mk, rI_d, show twoA 2 = 2 from rfl, z_2]
    · exact absurd (by unfold twoA; rw [if_neg (by assumption), if_neg hq]) hx
theorem hp_road {X : Nat × (Nat → Int32)} {dd : Nat} {w : Bool × Bool × Bool} {I I1 : Nat → Nat → Int32} {J J1 : Nat → Nat → Int64} {x1 x2 : Int32} {v : Int32} (h : am_call X aP (dd + 59) 112 [.ref 0, .int x1, .int x2] (mkS w I J) = some (.inl (some (.int v)), mkS w I1 J1)) : am_call X aP (dd + 60) 275 [.ref 0, .int x1, .int x2, .ref 158] (mkS w I J) = some (.inl (some (.int (zI 0))), mkS w I1 (uJ J1 158 0 v.toInt64)) := by
  rw [show dd + 60 = (dd + 59) + 1 from rfl, go_L_road, e_L_road_0, h, cI_some]
  rw [if_neg (by decide), nc0, gI_mk, gJ_mk, rI_d, z_0]
theorem hpx_road {X : Nat × (Nat → Int32)} {dd : Nat} {w : Bool × Bool × Bool} {I I1 : Nat → Nat → Int32} {J J1 : Nat → Nat → Int64} {x1 x2 : Int32} {x : Nat} (hx : twoA x ≠ 0) (h : am_call X aP (dd + 59) 112 [.ref 0, .int x1, .int x2] (mkS w I J) = some (.inr x, mkS w I1 J1)) : am_call X aP (dd + 60) 275 [.ref 0, .int x1, .int x2, .ref 158] (mkS w I J) = some (.inl (some (.int (zI (twoA x)))), mkS w I1 J1) := by
  by_cases hq : x = 1
  · subst hq
    rw [show dd + 60 = (dd + 59) + 1 from rfl, go_L_road, e_L_road_0, h, cI_x, if_pos rfl, gI_mk, gJ_mk, rI_d, show twoA 1 = 1 from rfl, z_1]
  · by_cases hq : x = 2
    · subst hq
      rw [show dd + 60 = (dd + 59) + 1 from rfl, go_L_road, e_L_road_0, h, cI_x, if_neg (by decide), if_pos rfl, gI_mk, gJ_mk, rI_d, show twoA 2 = 2 from rfl, z_2]
    · exact absurd (by unfold twoA; rw [if_neg (by assumption), if_neg hq]) hx
theorem hp_carter {X : Nat × (Nat → Int32)} {dd : Nat} {w : Bool × Bool × Bool} {I I1 : Nat → Nat → Int32} {J J1 : Nat → Nat → Int64} {x1 x2 : Int32} {v : Int32} (h : am_call X aP (dd + 59) 113 [.ref 0, .int x1, .int x2] (mkS w I J) = some (.inl (some (.int v)), mkS w I1 J1)) : am_call X aP (dd + 60) 276 [.ref 0, .int x1, .int x2, .ref 158] (mkS w I J) = some (.inl (some (.int (zI 0))), mkS w I1 (uJ J1 158 0 v.toInt64)) := by
  rw [show dd + 60 = (dd + 59) + 1 from rfl, go_L_carter, e_L_carter_0, h, cI_some]
  rw [if_neg (by decide), nc0, gI_mk, gJ_mk, rI_d, z_0]
theorem hpx_carter {X : Nat × (Nat → Int32)} {dd : Nat} {w : Bool × Bool × Bool} {I I1 : Nat → Nat → Int32} {J J1 : Nat → Nat → Int64} {x1 x2 : Int32} {x : Nat} (hx : twoA x ≠ 0) (h : am_call X aP (dd + 59) 113 [.ref 0, .int x1, .int x2] (mkS w I J) = some (.inr x, mkS w I1 J1)) : am_call X aP (dd + 60) 276 [.ref 0, .int x1, .int x2, .ref 158] (mkS w I J) = some (.inl (some (.int (zI (twoA x)))), mkS w I1 J1) := by
  by_cases hq : x = 1
  · subst hq
    rw [show dd + 60 = (dd + 59) + 1 from rfl, go_L_carter, e_L_carter_0, h, cI_x, if_pos rfl, gI_mk, gJ_mk, rI_d, show twoA 1 = 1 from rfl, z_1]
  · by_cases hq : x = 2
    · subst hq
      rw [show dd + 60 = (dd + 59) + 1 from rfl, go_L_carter, e_L_carter_0, h, cI_x, if_neg (by decide), if_pos rfl, gI_mk, gJ_mk, rI_d, show twoA 2 = 2 from rfl, z_2]
    · exact absurd (by unfold twoA; rw [if_neg (by assumption), if_neg hq]) hx
theorem hp_would {X : Nat × (Nat → Int32)} {dd : Nat} {w : Bool × Bool × Bool} {I I1 : Nat → Nat → Int32} {J J1 : Nat → Nat → Int64} {x1 x2 x3 x4 x5 x6 x7 x8 : Int32} {v : Int32} (h : am_call X aP (dd + 59) 114 [.ref 0, .int x1, .int x2, .int x3, .int x4, .int x5, .int x6, .int x7, .int x8] (mkS w I J) = some (.inl (some (.int v)), mkS w I1 J1)) : am_call X aP (dd + 60) 277 [.ref 0, .int x1, .int x2, .int x3, .int x4, .int x5, .int x6, .int x7, .int x8, .ref 158] (mkS w I J) = some (.inl (some (.int (zI 0))), mkS w I1 (uJ J1 158 0 v.toInt64)) := by
  rw [show dd + 60 = (dd + 59) + 1 from rfl, go_L_would, e_L_would_0, h, cI_some]
  rw [if_neg (by decide), nc0, gI_mk, gJ_mk, rI_d, z_0]
theorem hpx_would {X : Nat × (Nat → Int32)} {dd : Nat} {w : Bool × Bool × Bool} {I I1 : Nat → Nat → Int32} {J J1 : Nat → Nat → Int64} {x1 x2 x3 x4 x5 x6 x7 x8 : Int32} {x : Nat} (hx : oneB x ≠ 0) (h : am_call X aP (dd + 59) 114 [.ref 0, .int x1, .int x2, .int x3, .int x4, .int x5, .int x6, .int x7, .int x8] (mkS w I J) = some (.inr x, mkS w I1 J1)) : am_call X aP (dd + 60) 277 [.ref 0, .int x1, .int x2, .int x3, .int x4, .int x5, .int x6, .int x7, .int x8, .ref 158] (mkS w I J) = some (.inl (some (.int (zI (oneB x)))), mkS w I1 J1) := by
  by_cases hq : x = 2
  · subst hq
    rw [show dd + 60 = (dd + 59) + 1 from rfl, go_L_would, e_L_would_0, h, cI_x, if_pos rfl, gI_mk, gJ_mk, rI_d, show oneB 2 = 1 from rfl, z_1]
  · exact absurd (by unfold oneB; rw [if_neg hq]) hx
theorem hp_lasts {X : Nat × (Nat → Int32)} {dd : Nat} {w : Bool × Bool × Bool} {I I1 : Nat → Nat → Int32} {J J1 : Nat → Nat → Int64} {x1 x2 : Int32} {v : Int32} (h : am_call X aP (dd + 59) 115 [.ref 0, .int x1, .int x2] (mkS w I J) = some (.inl (some (.int v)), mkS w I1 J1)) : am_call X aP (dd + 60) 278 [.ref 0, .int x1, .int x2, .ref 158] (mkS w I J) = some (.inl (some (.int (zI 0))), mkS w I1 (uJ J1 158 0 v.toInt64)) := by
  rw [show dd + 60 = (dd + 59) + 1 from rfl, go_L_lasts, e_L_lasts_0, h, cI_some]
  rw [if_neg (by decide), nc0, gI_mk, gJ_mk, rI_d, z_0]
theorem hpx_lasts {X : Nat × (Nat → Int32)} {dd : Nat} {w : Bool × Bool × Bool} {I I1 : Nat → Nat → Int32} {J J1 : Nat → Nat → Int64} {x1 x2 : Int32} {x : Nat} (hx : twoA x ≠ 0) (h : am_call X aP (dd + 59) 115 [.ref 0, .int x1, .int x2] (mkS w I J) = some (.inr x, mkS w I1 J1)) : am_call X aP (dd + 60) 278 [.ref 0, .int x1, .int x2, .ref 158] (mkS w I J) = some (.inl (some (.int (zI (twoA x)))), mkS w I1 J1) := by
  by_cases hq : x = 1
  · subst hq
    rw [show dd + 60 = (dd + 59) + 1 from rfl, go_L_lasts, e_L_lasts_0, h, cI_x, if_pos rfl, gI_mk, gJ_mk, rI_d, show twoA 1 = 1 from rfl, z_1]
  · by_cases hq : x = 2
    · subst hq
      rw [show dd + 60 = (dd + 59) + 1 from rfl, go_L_lasts, e_L_lasts_0, h, cI_x, if_neg (by decide), if_pos rfl, gI_mk, gJ_mk, rI_d, show twoA 2 = 2 from rfl, z_2]
    · exact absurd (by unfold twoA; rw [if_neg (by assumption), if_neg hq]) hx
theorem hp_soon {X : Nat × (Nat → Int32)} {dd : Nat} {w : Bool × Bool × Bool} {I I1 : Nat → Nat → Int32} {J J1 : Nat → Nat → Int64} {x1 x2 x3 : Int32} {v : Int32} (h : am_call X aP (dd + 59) 116 [.ref 0, .int x1, .int x2, .int x3] (mkS w I J) = some (.inl (some (.int v)), mkS w I1 J1)) : am_call X aP (dd + 60) 279 [.ref 0, .int x1, .int x2, .int x3, .ref 158] (mkS w I J) = some (.inl (some (.int (zI 0))), mkS w I1 (uJ J1 158 0 v.toInt64)) := by
  rw [show dd + 60 = (dd + 59) + 1 from rfl, go_L_soon, e_L_soon_0, h, cI_some]
  rw [if_neg (by decide), nc0, gI_mk, gJ_mk, rI_d, z_0]
theorem hpx_soon {X : Nat × (Nat → Int32)} {dd : Nat} {w : Bool × Bool × Bool} {I I1 : Nat → Nat → Int32} {J J1 : Nat → Nat → Int64} {x1 x2 x3 : Int32} {x : Nat} (hx : twoA x ≠ 0) (h : am_call X aP (dd + 59) 116 [.ref 0, .int x1, .int x2, .int x3] (mkS w I J) = some (.inr x, mkS w I1 J1)) : am_call X aP (dd + 60) 279 [.ref 0, .int x1, .int x2, .int x3, .ref 158] (mkS w I J) = some (.inl (some (.int (zI (twoA x)))), mkS w I1 J1) := by
  by_cases hq : x = 1
  · subst hq
    rw [show dd + 60 = (dd + 59) + 1 from rfl, go_L_soon, e_L_soon_0, h, cI_x, if_pos rfl, gI_mk, gJ_mk, rI_d, show twoA 1 = 1 from rfl, z_1]
  · by_cases hq : x = 2
    · subst hq
      rw [show dd + 60 = (dd + 59) + 1 from rfl, go_L_soon, e_L_soon_0, h, cI_x, if_neg (by decide), if_pos rfl, gI_mk, gJ_mk, rI_d, show twoA 2 = 2 from rfl, z_2]
    · exact absurd (by unfold twoA; rw [if_neg (by assumption), if_neg hq]) hx
theorem hp_way {X : Nat × (Nat → Int32)} {dd : Nat} {w : Bool × Bool × Bool} {I I1 : Nat → Nat → Int32} {J J1 : Nat → Nat → Int64} {x1 x2 x3 x4 : Int32} {v : Int32} (h : am_call X aP (dd + 59) 117 [.ref 0, .int x1, .int x2, .int x3, .int x4] (mkS w I J) = some (.inl (some (.int v)), mkS w I1 J1)) : am_call X aP (dd + 60) 280 [.ref 0, .int x1, .int x2, .int x3, .int x4, .ref 158] (mkS w I J) = some (.inl (some (.int (zI 0))), mkS w I1 (uJ J1 158 0 v.toInt64)) := by
  rw [show dd + 60 = (dd + 59) + 1 from rfl, go_L_way, e_L_way_0, h, cI_some]
  rw [if_neg (by decide), nc0, gI_mk, gJ_mk, rI_d, z_0]
theorem hpx_way {X : Nat × (Nat → Int32)} {dd : Nat} {w : Bool × Bool × Bool} {I I1 : Nat → Nat → Int32} {J J1 : Nat → Nat → Int64} {x1 x2 x3 x4 : Int32} {x : Nat} (hx : twoA x ≠ 0) (h : am_call X aP (dd + 59) 117 [.ref 0, .int x1, .int x2, .int x3, .int x4] (mkS w I J) = some (.inr x, mkS w I1 J1)) : am_call X aP (dd + 60) 280 [.ref 0, .int x1, .int x2, .int x3, .int x4, .ref 158] (mkS w I J) = some (.inl (some (.int (zI (twoA x)))), mkS w I1 J1) := by
  by_cases hq : x = 1
  · subst hq
    rw [show dd + 60 = (dd + 59) + 1 from rfl, go_L_way, e_L_way_0, h, cI_x, if_pos rfl, gI_mk, gJ_mk, rI_d, show twoA 1 = 1 from rfl, z_1]
  · by_cases hq : x = 2
    · subst hq
      rw [show dd + 60 = (dd + 59) + 1 from rfl, go_L_way, e_L_way_0, h, cI_x, if_neg (by decide), if_pos rfl, gI_mk, gJ_mk, rI_d, show twoA 2 = 2 from rfl, z_2]
    · exact absurd (by unfold twoA; rw [if_neg (by assumption), if_neg hq]) hx
theorem hp_latest {X : Nat × (Nat → Int32)} {dd : Nat} {w : Bool × Bool × Bool} {I I1 : Nat → Nat → Int32} {J J1 : Nat → Nat → Int64} {x1 x2 x3 x4 : Int32} {v : Int32} (h : am_call X aP (dd + 59) 118 [.ref 0, .int x1, .int x2, .int x3, .int x4] (mkS w I J) = some (.inl (some (.int v)), mkS w I1 J1)) : am_call X aP (dd + 60) 281 [.ref 0, .int x1, .int x2, .int x3, .int x4, .ref 158] (mkS w I J) = some (.inl (some (.int (zI 0))), mkS w I1 (uJ J1 158 0 v.toInt64)) := by
  rw [show dd + 60 = (dd + 59) + 1 from rfl, go_L_latest, e_L_latest_0, h, cI_some]
  rw [if_neg (by decide), nc0, gI_mk, gJ_mk, rI_d, z_0]
theorem hpx_latest {X : Nat × (Nat → Int32)} {dd : Nat} {w : Bool × Bool × Bool} {I I1 : Nat → Nat → Int32} {J J1 : Nat → Nat → Int64} {x1 x2 x3 x4 : Int32} {x : Nat} (hx : twoA x ≠ 0) (h : am_call X aP (dd + 59) 118 [.ref 0, .int x1, .int x2, .int x3, .int x4] (mkS w I J) = some (.inr x, mkS w I1 J1)) : am_call X aP (dd + 60) 281 [.ref 0, .int x1, .int x2, .int x3, .int x4, .ref 158] (mkS w I J) = some (.inl (some (.int (zI (twoA x)))), mkS w I1 J1) := by
  by_cases hq : x = 1
  · subst hq
    rw [show dd + 60 = (dd + 59) + 1 from rfl, go_L_latest, e_L_latest_0, h, cI_x, if_pos rfl, gI_mk, gJ_mk, rI_d, show twoA 1 = 1 from rfl, z_1]
  · by_cases hq : x = 2
    · subst hq
      rw [show dd + 60 = (dd + 59) + 1 from rfl, go_L_latest, e_L_latest_0, h, cI_x, if_neg (by decide), if_pos rfl, gI_mk, gJ_mk, rI_d, show twoA 2 = 2 from rfl, z_2]
    · exact absurd (by unfold twoA; rw [if_neg (by assumption), if_neg hq]) hx
theorem hp_day {X : Nat × (Nat → Int32)} {dd : Nat} {w : Bool × Bool × Bool} {I I1 : Nat → Nat → Int32} {J J1 : Nat → Nat → Int64} {x1 x2 x3 : Int32} {v : Int32} (h : am_call X aP (dd + 59) 119 [.ref 0, .int x1, .int x2, .int x3] (mkS w I J) = some (.inl (some (.int v)), mkS w I1 J1)) : am_call X aP (dd + 60) 282 [.ref 0, .int x1, .int x2, .int x3, .ref 158] (mkS w I J) = some (.inl (some (.int (zI 0))), mkS w I1 (uJ J1 158 0 v.toInt64)) := by
  rw [show dd + 60 = (dd + 59) + 1 from rfl, go_L_day, e_L_day_0, h, cI_some]
  rw [if_neg (by decide), nc0, gI_mk, gJ_mk, rI_d, z_0]
theorem hpx_day {X : Nat × (Nat → Int32)} {dd : Nat} {w : Bool × Bool × Bool} {I I1 : Nat → Nat → Int32} {J J1 : Nat → Nat → Int64} {x1 x2 x3 : Int32} {x : Nat} (hx : twoA x ≠ 0) (h : am_call X aP (dd + 59) 119 [.ref 0, .int x1, .int x2, .int x3] (mkS w I J) = some (.inr x, mkS w I1 J1)) : am_call X aP (dd + 60) 282 [.ref 0, .int x1, .int x2, .int x3, .ref 158] (mkS w I J) = some (.inl (some (.int (zI (twoA x)))), mkS w I1 J1) := by
  by_cases hq : x = 1
  · subst hq
    rw [show dd + 60 = (dd + 59) + 1 from rfl, go_L_day, e_L_day_0, h, cI_x, if_pos rfl, gI_mk, gJ_mk, rI_d, show twoA 1 = 1 from rfl, z_1]
  · by_cases hq : x = 2
    · subst hq
      rw [show dd + 60 = (dd + 59) + 1 from rfl, go_L_day, e_L_day_0, h, cI_x, if_neg (by decide), if_pos rfl, gI_mk, gJ_mk, rI_d, show twoA 2 = 2 from rfl, z_2]
    · exact absurd (by unfold twoA; rw [if_neg (by assumption), if_neg hq]) hx
theorem hp_farthest {X : Nat × (Nat → Int32)} {dd : Nat} {w : Bool × Bool × Bool} {I I1 : Nat → Nat → Int32} {J J1 : Nat → Nat → Int64} {x1 : Int32} {v : Int32} (h : am_call X aP (dd + 59) 120 [.ref 0, .int x1] (mkS w I J) = some (.inl (some (.int v)), mkS w I1 J1)) : am_call X aP (dd + 60) 283 [.ref 0, .int x1, .ref 158] (mkS w I J) = some (.inl (some (.int (zI 0))), mkS w I1 (uJ J1 158 0 v.toInt64)) := by
  rw [show dd + 60 = (dd + 59) + 1 from rfl, go_L_farthest, e_L_farthest_0, h, cI_some]
  rw [if_neg (by decide), nc0, gI_mk, gJ_mk, rI_d, z_0]
theorem hpx_farthest {X : Nat × (Nat → Int32)} {dd : Nat} {w : Bool × Bool × Bool} {I I1 : Nat → Nat → Int32} {J J1 : Nat → Nat → Int64} {x1 : Int32} {x : Nat} (hx : oneB x ≠ 0) (h : am_call X aP (dd + 59) 120 [.ref 0, .int x1] (mkS w I J) = some (.inr x, mkS w I1 J1)) : am_call X aP (dd + 60) 283 [.ref 0, .int x1, .ref 158] (mkS w I J) = some (.inl (some (.int (zI (oneB x)))), mkS w I1 J1) := by
  by_cases hq : x = 2
  · subst hq
    rw [show dd + 60 = (dd + 59) + 1 from rfl, go_L_farthest, e_L_farthest_0, h, cI_x, if_pos rfl, gI_mk, gJ_mk, rI_d, show oneB 2 = 1 from rfl, z_1]
  · exact absurd (by unfold oneB; rw [if_neg hq]) hx
theorem hp_joined {X : Nat × (Nat → Int32)} {dd : Nat} {w : Bool × Bool × Bool} {I I1 : Nat → Nat → Int32} {J J1 : Nat → Nat → Int64} {x1 : Int32} {v : Int32} (h : am_call X aP (dd + 59) 121 [.ref 0, .int x1] (mkS w I J) = some (.inl (some (.int v)), mkS w I1 J1)) : am_call X aP (dd + 60) 284 [.ref 0, .int x1, .ref 158] (mkS w I J) = some (.inl (some (.int (zI 0))), mkS w I1 (uJ J1 158 0 (if v = 0 then lN 0 else lN 1))) := by
  rw [show dd + 60 = (dd + 59) + 1 from rfl, go_L_joined, e_L_joined_0, h, cI_some]
  by_cases hv : v = 0
  · rw [if_pos hv, if_pos hv]
    rw [if_neg (by decide), nc0, gI_mk, gJ_mk, rI_d, z_0]
  · rw [if_neg hv, if_neg hv]
    rw [if_neg (by decide), nc0, gI_mk, gJ_mk, rI_d, z_0]
theorem hpx_joined {X : Nat × (Nat → Int32)} {dd : Nat} {w : Bool × Bool × Bool} {I I1 : Nat → Nat → Int32} {J J1 : Nat → Nat → Int64} {x1 : Int32} {x : Nat} (hx : oneB x ≠ 0) (h : am_call X aP (dd + 59) 121 [.ref 0, .int x1] (mkS w I J) = some (.inr x, mkS w I1 J1)) : am_call X aP (dd + 60) 284 [.ref 0, .int x1, .ref 158] (mkS w I J) = some (.inl (some (.int (zI (oneB x)))), mkS w I1 J1) := by
  by_cases hq : x = 2
  · subst hq
    rw [show dd + 60 = (dd + 59) + 1 from rfl, go_L_joined, e_L_joined_0, h, cI_x, if_pos rfl, gI_mk, gJ_mk, rI_d, show oneB 2 = 1 from rfl, z_1]
  · exact absurd (by unfold oneB; rw [if_neg hq]) hx
theorem hp_part {X : Nat × (Nat → Int32)} {dd : Nat} {w : Bool × Bool × Bool} {I I1 : Nat → Nat → Int32} {J J1 : Nat → Nat → Int64} {x1 x2 x3 : Int32} {v : Int32} (h : am_call X aP (dd + 59) 122 [.ref 0, .int x1, .int x2, .int x3] (mkS w I J) = some (.inl (some (.int v)), mkS w I1 J1)) : am_call X aP (dd + 60) 285 [.ref 0, .int x1, .int x2, .int x3, .ref 158] (mkS w I J) = some (.inl (some (.int (zI 0))), mkS w I1 (uJ J1 158 0 v.toInt64)) := by
  rw [show dd + 60 = (dd + 59) + 1 from rfl, go_L_part, e_L_part_0, h, cI_some]
  rw [if_neg (by decide), nc0, gI_mk, gJ_mk, rI_d, z_0]
theorem hpx_part {X : Nat × (Nat → Int32)} {dd : Nat} {w : Bool × Bool × Bool} {I I1 : Nat → Nat → Int32} {J J1 : Nat → Nat → Int64} {x1 x2 x3 : Int32} {x : Nat} (hx : twoA x ≠ 0) (h : am_call X aP (dd + 59) 122 [.ref 0, .int x1, .int x2, .int x3] (mkS w I J) = some (.inr x, mkS w I1 J1)) : am_call X aP (dd + 60) 285 [.ref 0, .int x1, .int x2, .int x3, .ref 158] (mkS w I J) = some (.inl (some (.int (zI (twoA x)))), mkS w I1 J1) := by
  by_cases hq : x = 1
  · subst hq
    rw [show dd + 60 = (dd + 59) + 1 from rfl, go_L_part, e_L_part_0, h, cI_x, if_pos rfl, gI_mk, gJ_mk, rI_d, show twoA 1 = 1 from rfl, z_1]
  · by_cases hq : x = 2
    · subst hq
      rw [show dd + 60 = (dd + 59) + 1 from rfl, go_L_part, e_L_part_0, h, cI_x, if_neg (by decide), if_pos rfl, gI_mk, gJ_mk, rI_d, show twoA 2 = 2 from rfl, z_2]
    · exact absurd (by unfold twoA; rw [if_neg (by assumption), if_neg hq]) hx
theorem hp_mend {X : Nat × (Nat → Int32)} {dd : Nat} {w : Bool × Bool × Bool} {I I1 : Nat → Nat → Int32} {J J1 : Nat → Nat → Int64} {x1 : Int32} {v : Int32} (h : am_call X aP (dd + 59) 123 [.ref 0, .int x1] (mkS w I J) = some (.inl (some (.int v)), mkS w I1 J1)) : am_call X aP (dd + 60) 286 [.ref 0, .int x1, .ref 158] (mkS w I J) = some (.inl (some (.int (zI 0))), mkS w I1 (uJ J1 158 0 v.toInt64)) := by
  rw [show dd + 60 = (dd + 59) + 1 from rfl, go_L_mend, e_L_mend_0, h, cI_some]
  rw [if_neg (by decide), nc0, gI_mk, gJ_mk, rI_d, z_0]
theorem hpx_mend {X : Nat × (Nat → Int32)} {dd : Nat} {w : Bool × Bool × Bool} {I I1 : Nat → Nat → Int32} {J J1 : Nat → Nat → Int64} {x1 : Int32} {x : Nat} (hx : oneB x ≠ 0) (h : am_call X aP (dd + 59) 123 [.ref 0, .int x1] (mkS w I J) = some (.inr x, mkS w I1 J1)) : am_call X aP (dd + 60) 286 [.ref 0, .int x1, .ref 158] (mkS w I J) = some (.inl (some (.int (zI (oneB x)))), mkS w I1 J1) := by
  by_cases hq : x = 2
  · subst hq
    rw [show dd + 60 = (dd + 59) + 1 from rfl, go_L_mend, e_L_mend_0, h, cI_x, if_pos rfl, gI_mk, gJ_mk, rI_d, show oneB 2 = 1 from rfl, z_1]
  · exact absurd (by unfold oneB; rw [if_neg hq]) hx
theorem hp_picnic {X : Nat × (Nat → Int32)} {dd : Nat} {w : Bool × Bool × Bool} {I I1 : Nat → Nat → Int32} {J J1 : Nat → Nat → Int64} {x1 : Int32} {v : Int32} (h : am_call X aP (dd + 59) 124 [.ref 0, .int x1] (mkS w I J) = some (.inl (some (.int v)), mkS w I1 J1)) : am_call X aP (dd + 60) 287 [.ref 0, .int x1, .ref 158] (mkS w I J) = some (.inl (some (.int (zI 0))), mkS w I1 (uJ J1 158 0 v.toInt64)) := by
  rw [show dd + 60 = (dd + 59) + 1 from rfl, go_L_picnic, e_L_picnic_0, h, cI_some]
  rw [if_neg (by decide), nc0, gI_mk, gJ_mk, rI_d, z_0]
theorem hpx_picnic {X : Nat × (Nat → Int32)} {dd : Nat} {w : Bool × Bool × Bool} {I I1 : Nat → Nat → Int32} {J J1 : Nat → Nat → Int64} {x1 : Int32} {x : Nat} (hx : oneB x ≠ 0) (h : am_call X aP (dd + 59) 124 [.ref 0, .int x1] (mkS w I J) = some (.inr x, mkS w I1 J1)) : am_call X aP (dd + 60) 287 [.ref 0, .int x1, .ref 158] (mkS w I J) = some (.inl (some (.int (zI (oneB x)))), mkS w I1 J1) := by
  by_cases hq : x = 2
  · subst hq
    rw [show dd + 60 = (dd + 59) + 1 from rfl, go_L_picnic, e_L_picnic_0, h, cI_x, if_pos rfl, gI_mk, gJ_mk, rI_d, show oneB 2 = 1 from rfl, z_1]
  · exact absurd (by unfold oneB; rw [if_neg hq]) hx
theorem hp_fits {X : Nat × (Nat → Int32)} {dd : Nat} {w : Bool × Bool × Bool} {I I1 : Nat → Nat → Int32} {J J1 : Nat → Nat → Int64} {x1 : Int32} {v : Int32} (h : am_call X aP (dd + 59) 125 [.ref 0, .int x1] (mkS w I J) = some (.inl (some (.int v)), mkS w I1 J1)) : am_call X aP (dd + 60) 288 [.ref 0, .int x1, .ref 158] (mkS w I J) = some (.inl (some (.int (zI 0))), mkS w I1 (uJ J1 158 0 v.toInt64)) := by
  rw [show dd + 60 = (dd + 59) + 1 from rfl, go_L_fits, e_L_fits_0, h, cI_some]
  rw [if_neg (by decide), nc0, gI_mk, gJ_mk, rI_d, z_0]
theorem hpx_fits {X : Nat × (Nat → Int32)} {dd : Nat} {w : Bool × Bool × Bool} {I I1 : Nat → Nat → Int32} {J J1 : Nat → Nat → Int64} {x1 : Int32} {x : Nat} (hx : oneN x ≠ 0) (h : am_call X aP (dd + 59) 125 [.ref 0, .int x1] (mkS w I J) = some (.inr x, mkS w I1 J1)) : am_call X aP (dd + 60) 288 [.ref 0, .int x1, .ref 158] (mkS w I J) = some (.inl (some (.int (zI (oneN x)))), mkS w I1 J1) := by
  by_cases hq : x = 1
  · subst hq
    rw [show dd + 60 = (dd + 59) + 1 from rfl, go_L_fits, e_L_fits_0, h, cI_x, if_pos rfl, gI_mk, gJ_mk, rI_d, show oneN 1 = 1 from rfl, z_1]
  · exact absurd (by unfold oneN; rw [if_neg hq]) hx
theorem hp_look {X : Nat × (Nat → Int32)} {dd : Nat} {w : Bool × Bool × Bool} {I I1 : Nat → Nat → Int32} {J J1 : Nat → Nat → Int64} {x1 x2 : Int32} {v : Int32} (h : am_call X aP (dd + 59) 126 [.ref 0, .int x1, .int x2] (mkS w I J) = some (.inl (some (.int v)), mkS w I1 J1)) : am_call X aP (dd + 60) 289 [.ref 0, .int x1, .int x2, .ref 158] (mkS w I J) = some (.inl (some (.int (zI 0))), mkS w I1 (uJ J1 158 0 v.toInt64)) := by
  rw [show dd + 60 = (dd + 59) + 1 from rfl, go_L_look, e_L_look_0, h, cI_some]
  rw [if_neg (by decide), nc0, gI_mk, gJ_mk, rI_d, z_0]
theorem hpx_look {X : Nat × (Nat → Int32)} {dd : Nat} {w : Bool × Bool × Bool} {I I1 : Nat → Nat → Int32} {J J1 : Nat → Nat → Int64} {x1 x2 : Int32} {x : Nat} (hx : twoA x ≠ 0) (h : am_call X aP (dd + 59) 126 [.ref 0, .int x1, .int x2] (mkS w I J) = some (.inr x, mkS w I1 J1)) : am_call X aP (dd + 60) 289 [.ref 0, .int x1, .int x2, .ref 158] (mkS w I J) = some (.inl (some (.int (zI (twoA x)))), mkS w I1 J1) := by
  by_cases hq : x = 1
  · subst hq
    rw [show dd + 60 = (dd + 59) + 1 from rfl, go_L_look, e_L_look_0, h, cI_x, if_pos rfl, gI_mk, gJ_mk, rI_d, show twoA 1 = 1 from rfl, z_1]
  · by_cases hq : x = 2
    · subst hq
      rw [show dd + 60 = (dd + 59) + 1 from rfl, go_L_look, e_L_look_0, h, cI_x, if_neg (by decide), if_pos rfl, gI_mk, gJ_mk, rI_d, show twoA 2 = 2 from rfl, z_2]
    · exact absurd (by unfold twoA; rw [if_neg (by assumption), if_neg hq]) hx
theorem hp_inn {X : Nat × (Nat → Int32)} {dd : Nat} {w : Bool × Bool × Bool} {I I1 : Nat → Nat → Int32} {J J1 : Nat → Nat → Int64} {x1 x2 x3 : Int32} {v : Int32} (h : am_call X aP (dd + 59) 127 [.ref 0, .int x1, .int x2, .int x3] (mkS w I J) = some (.inl (some (.int v)), mkS w I1 J1)) : am_call X aP (dd + 60) 290 [.ref 0, .int x1, .int x2, .int x3, .ref 158] (mkS w I J) = some (.inl (some (.int (zI 0))), mkS w I1 (uJ J1 158 0 v.toInt64)) := by
  rw [show dd + 60 = (dd + 59) + 1 from rfl, go_L_inn, e_L_inn_0, h, cI_some]
  rw [if_neg (by decide), nc0, gI_mk, gJ_mk, rI_d, z_0]
theorem hpx_inn {X : Nat × (Nat → Int32)} {dd : Nat} {w : Bool × Bool × Bool} {I I1 : Nat → Nat → Int32} {J J1 : Nat → Nat → Int64} {x1 x2 x3 : Int32} {x : Nat} (hx : oneB x ≠ 0) (h : am_call X aP (dd + 59) 127 [.ref 0, .int x1, .int x2, .int x3] (mkS w I J) = some (.inr x, mkS w I1 J1)) : am_call X aP (dd + 60) 290 [.ref 0, .int x1, .int x2, .int x3, .ref 158] (mkS w I J) = some (.inl (some (.int (zI (oneB x)))), mkS w I1 J1) := by
  by_cases hq : x = 2
  · subst hq
    rw [show dd + 60 = (dd + 59) + 1 from rfl, go_L_inn, e_L_inn_0, h, cI_x, if_pos rfl, gI_mk, gJ_mk, rI_d, show oneB 2 = 1 from rfl, z_1]
  · exact absurd (by unfold oneB; rw [if_neg hq]) hx
theorem hp_luck {X : Nat × (Nat → Int32)} {dd : Nat} {w : Bool × Bool × Bool} {I I1 : Nat → Nat → Int32} {J J1 : Nat → Nat → Int64} {x1 x2 x3 x4 : Int32} {v : Int64} (h : am_call X aP (dd + 59) 129 [.ref 0, .int x1, .int x2, .int x3, .int x4] (mkS w I J) = some (.inl (some (.long v)), mkS w I1 J1)) : am_call X aP (dd + 60) 291 [.ref 0, .int x1, .int x2, .int x3, .int x4, .ref 158] (mkS w I J) = some (.inl (some (.int (zI 0))), mkS w I1 (uJ J1 158 0 v)) := by
  rw [show dd + 60 = (dd + 59) + 1 from rfl, go_L_luck, e_L_luck_0, h, cJ_some]
  rw [if_neg (by decide), nc0, gI_mk, gJ_mk, rI_d, z_0]
theorem hpx_luck {X : Nat × (Nat → Int32)} {dd : Nat} {w : Bool × Bool × Bool} {I I1 : Nat → Nat → Int32} {J J1 : Nat → Nat → Int64} {x1 x2 x3 x4 : Int32} (h : am_call X aP (dd + 59) 129 [.ref 0, .int x1, .int x2, .int x3, .int x4] (mkS w I J) = some (.inr 2, mkS w I1 J1)) : am_call X aP (dd + 60) 291 [.ref 0, .int x1, .int x2, .int x3, .int x4, .ref 158] (mkS w I J) = some (.inl (some (.int (zI 1))), mkS w I1 J1) := by
  rw [show dd + 60 = (dd + 59) + 1 from rfl, go_L_luck, e_L_luck_0, h, cJ_x, if_pos rfl, gI_mk, gJ_mk, rI_d, z_1]
theorem hp_oats {X : Nat × (Nat → Int32)} {dd : Nat} {w : Bool × Bool × Bool} {I I1 : Nat → Nat → Int32} {J J1 : Nat → Nat → Int64} {x1 x2 x3 : Int32} {v : Int32} (h : am_call X aP (dd + 59) 131 [.ref 0, .int x1, .int x2, .int x3] (mkS w I J) = some (.inl (some (.int v)), mkS w I1 J1)) : am_call X aP (dd + 60) 292 [.ref 0, .int x1, .int x2, .int x3, .ref 158] (mkS w I J) = some (.inl (some (.int (zI 0))), mkS w I1 (uJ J1 158 0 v.toInt64)) := by
  rw [show dd + 60 = (dd + 59) + 1 from rfl, go_L_oats, e_L_oats_0, h, cI_some]
  rw [if_neg (by decide), nc0, gI_mk, gJ_mk, rI_d, z_0]
theorem hpx_oats {X : Nat × (Nat → Int32)} {dd : Nat} {w : Bool × Bool × Bool} {I I1 : Nat → Nat → Int32} {J J1 : Nat → Nat → Int64} {x1 x2 x3 : Int32} {x : Nat} (hx : twoA x ≠ 0) (h : am_call X aP (dd + 59) 131 [.ref 0, .int x1, .int x2, .int x3] (mkS w I J) = some (.inr x, mkS w I1 J1)) : am_call X aP (dd + 60) 292 [.ref 0, .int x1, .int x2, .int x3, .ref 158] (mkS w I J) = some (.inl (some (.int (zI (twoA x)))), mkS w I1 J1) := by
  by_cases hq : x = 1
  · subst hq
    rw [show dd + 60 = (dd + 59) + 1 from rfl, go_L_oats, e_L_oats_0, h, cI_x, if_pos rfl, gI_mk, gJ_mk, rI_d, show twoA 1 = 1 from rfl, z_1]
  · by_cases hq : x = 2
    · subst hq
      rw [show dd + 60 = (dd + 59) + 1 from rfl, go_L_oats, e_L_oats_0, h, cI_x, if_neg (by decide), if_pos rfl, gI_mk, gJ_mk, rI_d, show twoA 2 = 2 from rfl, z_2]
    · exact absurd (by unfold twoA; rw [if_neg (by assumption), if_neg hq]) hx
theorem hp_weariest {X : Nat × (Nat → Int32)} {dd : Nat} {w : Bool × Bool × Bool} {I I1 : Nat → Nat → Int32} {J J1 : Nat → Nat → Int64} {x1 : Int32} {v : Int32} (h : am_call X aP (dd + 59) 133 [.ref 0, .int x1] (mkS w I J) = some (.inl (some (.int v)), mkS w I1 J1)) : am_call X aP (dd + 60) 293 [.ref 0, .int x1, .ref 158] (mkS w I J) = some (.inl (some (.int (zI 0))), mkS w I1 (uJ J1 158 0 v.toInt64)) := by
  rw [show dd + 60 = (dd + 59) + 1 from rfl, go_L_weariest, e_L_weariest_0, h, cI_some]
  rw [if_neg (by decide), nc0, gI_mk, gJ_mk, rI_d, z_0]
theorem hpx_weariest {X : Nat × (Nat → Int32)} {dd : Nat} {w : Bool × Bool × Bool} {I I1 : Nat → Nat → Int32} {J J1 : Nat → Nat → Int64} {x1 : Int32} {x : Nat} (hx : oneB x ≠ 0) (h : am_call X aP (dd + 59) 133 [.ref 0, .int x1] (mkS w I J) = some (.inr x, mkS w I1 J1)) : am_call X aP (dd + 60) 293 [.ref 0, .int x1, .ref 158] (mkS w I J) = some (.inl (some (.int (zI (oneB x)))), mkS w I1 J1) := by
  by_cases hq : x = 2
  · subst hq
    rw [show dd + 60 = (dd + 59) + 1 from rfl, go_L_weariest, e_L_weariest_0, h, cI_x, if_pos rfl, gI_mk, gJ_mk, rI_d, show oneB 2 = 1 from rfl, z_1]
  · exact absurd (by unfold oneB; rw [if_neg hq]) hx
theorem hp_arrives {X : Nat × (Nat → Int32)} {dd : Nat} {w : Bool × Bool × Bool} {I I1 : Nat → Nat → Int32} {J J1 : Nat → Nat → Int64} {x1 : Int32} {v : Int32} (h : am_call X aP (dd + 59) 134 [.ref 0, .int x1] (mkS w I J) = some (.inl (some (.int v)), mkS w I1 J1)) : am_call X aP (dd + 60) 294 [.ref 0, .int x1, .ref 158] (mkS w I J) = some (.inl (some (.int (zI 0))), mkS w I1 (uJ J1 158 0 v.toInt64)) := by
  rw [show dd + 60 = (dd + 59) + 1 from rfl, go_L_arrives, e_L_arrives_0, h, cI_some]
  rw [if_neg (by decide), nc0, gI_mk, gJ_mk, rI_d, z_0]
theorem hpx_arrives {X : Nat × (Nat → Int32)} {dd : Nat} {w : Bool × Bool × Bool} {I I1 : Nat → Nat → Int32} {J J1 : Nat → Nat → Int64} {x1 : Int32} {x : Nat} (hx : oneN x ≠ 0) (h : am_call X aP (dd + 59) 134 [.ref 0, .int x1] (mkS w I J) = some (.inr x, mkS w I1 J1)) : am_call X aP (dd + 60) 294 [.ref 0, .int x1, .ref 158] (mkS w I J) = some (.inl (some (.int (zI (oneN x)))), mkS w I1 J1) := by
  by_cases hq : x = 1
  · subst hq
    rw [show dd + 60 = (dd + 59) + 1 from rfl, go_L_arrives, e_L_arrives_0, h, cI_x, if_pos rfl, gI_mk, gJ_mk, rI_d, show oneN 1 = 1 from rfl, z_1]
  · exact absurd (by unfold oneN; rw [if_neg hq]) hx
theorem hp_reach {X : Nat × (Nat → Int32)} {dd : Nat} {w : Bool × Bool × Bool} {I I1 : Nat → Nat → Int32} {J J1 : Nat → Nat → Int64} {x1 x2 : Int32} {v : Int32} (h : am_call X aP (dd + 59) 135 [.ref 0, .int x1, .int x2] (mkS w I J) = some (.inl (some (.int v)), mkS w I1 J1)) : am_call X aP (dd + 60) 295 [.ref 0, .int x1, .int x2, .ref 158] (mkS w I J) = some (.inl (some (.int (zI 0))), mkS w I1 (uJ J1 158 0 v.toInt64)) := by
  rw [show dd + 60 = (dd + 59) + 1 from rfl, go_L_reach, e_L_reach_0, h, cI_some]
  rw [if_neg (by decide), nc0, gI_mk, gJ_mk, rI_d, z_0]
theorem hpx_reach {X : Nat × (Nat → Int32)} {dd : Nat} {w : Bool × Bool × Bool} {I I1 : Nat → Nat → Int32} {J J1 : Nat → Nat → Int64} {x1 x2 : Int32} {x : Nat} (hx : twoA x ≠ 0) (h : am_call X aP (dd + 59) 135 [.ref 0, .int x1, .int x2] (mkS w I J) = some (.inr x, mkS w I1 J1)) : am_call X aP (dd + 60) 295 [.ref 0, .int x1, .int x2, .ref 158] (mkS w I J) = some (.inl (some (.int (zI (twoA x)))), mkS w I1 J1) := by
  by_cases hq : x = 1
  · subst hq
    rw [show dd + 60 = (dd + 59) + 1 from rfl, go_L_reach, e_L_reach_0, h, cI_x, if_pos rfl, gI_mk, gJ_mk, rI_d, show twoA 1 = 1 from rfl, z_1]
  · by_cases hq : x = 2
    · subst hq
      rw [show dd + 60 = (dd + 59) + 1 from rfl, go_L_reach, e_L_reach_0, h, cI_x, if_neg (by decide), if_pos rfl, gI_mk, gJ_mk, rI_d, show twoA 2 = 2 from rfl, z_2]
    · exact absurd (by unfold twoA; rw [if_neg (by assumption), if_neg hq]) hx
theorem hp_year {X : Nat × (Nat → Int32)} {dd : Nat} {w : Bool × Bool × Bool} {I I1 : Nat → Nat → Int32} {J J1 : Nat → Nat → Int64} {x1 x2 x3 x4 : Int32} {v : Int32} (h : am_call X aP (dd + 59) 136 [.ref 0, .int x1, .int x2, .int x3, .int x4] (mkS w I J) = some (.inl (some (.int v)), mkS w I1 J1)) : am_call X aP (dd + 60) 296 [.ref 0, .int x1, .int x2, .int x3, .int x4, .ref 158] (mkS w I J) = some (.inl (some (.int (zI 0))), mkS w I1 (uJ J1 158 0 v.toInt64)) := by
  rw [show dd + 60 = (dd + 59) + 1 from rfl, go_L_year, e_L_year_0, h, cI_some]
  rw [if_neg (by decide), nc0, gI_mk, gJ_mk, rI_d, z_0]
theorem hpx_year {X : Nat × (Nat → Int32)} {dd : Nat} {w : Bool × Bool × Bool} {I I1 : Nat → Nat → Int32} {J J1 : Nat → Nat → Int64} {x1 x2 x3 x4 : Int32} {x : Nat} (hx : oneB x ≠ 0) (h : am_call X aP (dd + 59) 136 [.ref 0, .int x1, .int x2, .int x3, .int x4] (mkS w I J) = some (.inr x, mkS w I1 J1)) : am_call X aP (dd + 60) 296 [.ref 0, .int x1, .int x2, .int x3, .int x4, .ref 158] (mkS w I J) = some (.inl (some (.int (zI (oneB x)))), mkS w I1 J1) := by
  by_cases hq : x = 2
  · subst hq
    rw [show dd + 60 = (dd + 59) + 1 from rfl, go_L_year, e_L_year_0, h, cI_x, if_pos rfl, gI_mk, gJ_mk, rI_d, show oneB 2 = 1 from rfl, z_1]
  · exact absurd (by unfold oneB; rw [if_neg hq]) hx
theorem hp_span {X : Nat × (Nat → Int32)} {dd : Nat} {w : Bool × Bool × Bool} {I I1 : Nat → Nat → Int32} {J J1 : Nat → Nat → Int64} {x1 x2 x3 x4 x5 x6 : Int32} {v : Int32} (h : am_call X aP (dd + 59) 137 [.ref 0, .int x1, .int x2, .int x3, .int x4, .int x5, .int x6] (mkS w I J) = some (.inl (some (.int v)), mkS w I1 J1)) : am_call X aP (dd + 60) 297 [.ref 0, .int x1, .int x2, .int x3, .int x4, .int x5, .int x6, .ref 158] (mkS w I J) = some (.inl (some (.int (zI 0))), mkS w I1 (uJ J1 158 0 v.toInt64)) := by
  rw [show dd + 60 = (dd + 59) + 1 from rfl, go_L_span, e_L_span_0, h, cI_some]
  rw [if_neg (by decide), nc0, gI_mk, gJ_mk, rI_d, z_0]
theorem hpx_span {X : Nat × (Nat → Int32)} {dd : Nat} {w : Bool × Bool × Bool} {I I1 : Nat → Nat → Int32} {J J1 : Nat → Nat → Int64} {x1 x2 x3 x4 x5 x6 : Int32} {x : Nat} (hx : oneB x ≠ 0) (h : am_call X aP (dd + 59) 137 [.ref 0, .int x1, .int x2, .int x3, .int x4, .int x5, .int x6] (mkS w I J) = some (.inr x, mkS w I1 J1)) : am_call X aP (dd + 60) 297 [.ref 0, .int x1, .int x2, .int x3, .int x4, .int x5, .int x6, .ref 158] (mkS w I J) = some (.inl (some (.int (zI (oneB x)))), mkS w I1 J1) := by
  by_cases hq : x = 2
  · subst hq
    rw [show dd + 60 = (dd + 59) + 1 from rfl, go_L_span, e_L_span_0, h, cI_x, if_pos rfl, gI_mk, gJ_mk, rI_d, show oneB 2 = 1 from rfl, z_1]
  · exact absurd (by unfold oneB; rw [if_neg hq]) hx
