/-! THE LAW'S HEAD -/
/-- rows that stand in their order -/
def srt : Nat → List aE → Bool
  | _, [] => true
  | lo, e :: l => Nat.ble lo e.1 && srt (e.1 + 1) l
theorem srt_ge : ∀ (l : List aE) (lo i : Nat) (e : aE) (l' : List aE), srt lo l = true → l.drop i = e :: l' → lo ≤ e.1
  | [], _, i, _, _, _, h => by
    rw [List.drop_nil] at h
    cases h
  | e0 :: l, lo, 0, e, l', hs, h => by
    have hs : (Nat.ble lo e0.1 && srt (e0.1 + 1) l) = true := hs
    rw [Bool.and_eq_true] at hs
    rw [List.drop_zero] at h
    cases h
    exact Nat.le_of_ble_eq_true hs.1
  | e0 :: l, lo, i + 1, e, l', hs, h => by
    have hs : (Nat.ble lo e0.1 && srt (e0.1 + 1) l) = true := hs
    rw [Bool.and_eq_true] at hs
    rw [List.drop_succ_cons] at h
    have h1 := Nat.le_of_ble_eq_true hs.1
    have h2 := srt_ge l (e0.1 + 1) i e l' hs.2 h
    omega
theorem srt_drop : ∀ (l : List aE) (lo i p : Nat) (e : aE) (l' : List aE), srt lo l = true → l.drop i = e :: l' → e.1 = p → dropTo p l = l.drop i
  | [], _, i, _, _, _, _, h, _ => by
    rw [List.drop_nil] at h
    cases h
  | e0 :: l, lo, 0, p, e, l', _, h, hp => by
    rw [List.drop_zero] at h
    cases h
    show (if e0.1 = p then e0 :: l else dropTo p l) = _
    rw [if_pos hp, List.drop_zero]
  | e0 :: l, lo, i + 1, p, e, l', hs, h, hp => by
    have hs : (Nat.ble lo e0.1 && srt (e0.1 + 1) l) = true := hs
    rw [Bool.and_eq_true] at hs
    rw [List.drop_succ_cons] at h ⊢
    have h2 := srt_ge l (e0.1 + 1) i e l' hs.2 h
    show (if e0.1 = p then e0 :: l else dropTo p l) = _
    rw [if_neg (by omega)]
    exact srt_drop l (e0.1 + 1) i p e l' hs.2 h hp
theorem swg_get (f : Nat → aRes) (dd : Nat) : ∀ (ts : List Nat) (k c : Nat), k ≤ c → c < 2147483648 → k + ts.length < 2147483648 → swg f (nI c) k ts dd = f (ts.getD (c - k) dd)
  | [], k, c, _, _, _ => rfl
  | t :: ts, k, c, h1, h2, h3 => by
    rw [List.length_cons] at h3
    show (if nI c = nI k then f t else swg f (nI c) (k + 1) ts dd) = _
    by_cases h : c = k
    · subst h
      rw [if_pos rfl, Nat.sub_self]
      rfl
    · rw [if_neg, swg_get f dd ts (k + 1) c (by omega) h2 (by omega), show c - k = (c - (k + 1)) + 1 by omega]
      · rfl
      · intro z
        apply h
        have z2 : (Int32.ofNat c).toInt = (Int32.ofNat k).toInt := congrArg Int32.toInt z
        rw [Int32.toInt_ofNat_of_lt (by omega), Int32.toInt_ofNat_of_lt (by omega)] at z2
        omega
set_option maxRecDepth 100000 in
set_option maxHeartbeats 4000000 in
theorem srt_law : srt 0 m_L_law_.1 = true := by decide +kernel
def lawRow (v : Nat) : Nat := [25, 82, 117, 152, 187, 222, 229, 236, 271, 316, 361, 406, 511, 556, 611, 676, 741, 796, 831, 869, 924, 959, 994, 1029, 1074, 1129, 1193, 1248, 1283, 1318, 1363, 1428, 1513, 1520, 1527, 1544].getD v 1561
set_option maxRecDepth 100000 in
set_option maxHeartbeats 4000000 in
theorem f_law_a (X : Nat × (Nat → Int32)) (d n : Nat) (w : Bool × Bool × Bool) (I : Nat → Nat → Int32) (J : Nat → Nat → Int64) (x4 : Int32) (c1 c2 : Nat) (k : Nat) : am_in X (am_call X aP d) m_L_law_ (am_run X (am_call X aP d) m_L_law_ n) (k + 30) (m_L_law_.1.drop 13) [some (.ref 1000000), some (.ref 0), some (.ref 132), some (.ref 158), some (.int x4), none, none, none] [] (c1, c2) (mkS w I J) =
  if ((nI X.1) - (nI 9)) < x4 then (rI (nI 1) (mkS w I J)) else if x4 < 0 ∨ X.1 ≤ x4.toNatClampNeg then none else am_in X (am_call X aP d) m_L_law_ (am_run X (am_call X aP d) m_L_law_ n) (k + 19) (m_L_law_.1.drop 24) [some (.ref 1000000), some (.ref 0), some (.ref 132), some (.ref 158), some (.int x4), none, none, none] [.int ((X.2 x4.toNatClampNeg) &&& (nI 63))] (c1, c2) (mkS w I J) := rfl
set_option maxRecDepth 100000 in
set_option maxHeartbeats 4000000 in
theorem f_law_s (X : Nat × (Nat → Int32)) (d n : Nat) (w : Bool × Bool × Bool) (I : Nat → Nat → Int32) (J : Nat → Nat → Int64) (x4 : Int32) (c1 c2 : Nat) (k : Nat) (x : Int32) : am_in X (am_call X aP d) m_L_law_ (am_run X (am_call X aP d) m_L_law_ n) (k + 1) (m_L_law_.1.drop 24) [some (.ref 1000000), some (.ref 0), some (.ref 132), some (.ref 158), some (.int x4), none, none, none] [.int x] (c1, c2) (mkS w I J) =
  swg (fun t => nxt (am_run X (am_call X aP d) m_L_law_ n) (am_in X (am_call X aP d) m_L_law_ (am_run X (am_call X aP d) m_L_law_ n) k) (dropTo t m_L_law_.1) [some (.ref 1000000), some (.ref 0), some (.ref 132), some (.ref 158), some (.int x4), none, none, none] [] (c1, c2) (mkS w I J)) x 0 [200, 273, 329, 385, 441, 497, 510, 523, 579, 647, 715, 783, 929, 997, 1077, 1169, 1261, 1341, 1397, 1460, 1540, 1596, 1652, 1708, 1776, 1856, 1947, 2027, 2083, 2139, 2207, 2299, 2417, 2430, 2443, 2468] 2493 := rfl
set_option maxRecDepth 100000 in
set_option maxHeartbeats 4000000 in
theorem f_law_t0 : dropTo 200 m_L_law_.1 = m_L_law_.1.drop 25 := srt_drop m_L_law_.1 0 25 200 (200, some [true, true, true, true, true, false, false, false], .aload_n 1, 1, 0) (m_L_law_.1.drop 26) srt_law rfl rfl
set_option maxRecDepth 100000 in
set_option maxHeartbeats 4000000 in
theorem f_law_n0 (X : Nat × (Nat → Int32)) (d n : Nat) (w : Bool × Bool × Bool) (I : Nat → Nat → Int32) (J : Nat → Nat → Int64) (x4 : Int32) (c1 c2 : Nat) (k : Nat) : nxt (am_run X (am_call X aP d) m_L_law_ n) (am_in X (am_call X aP d) m_L_law_ (am_run X (am_call X aP d) m_L_law_ n) k) (m_L_law_.1.drop 25) [some (.ref 1000000), some (.ref 0), some (.ref 132), some (.ref 158), some (.int x4), none, none, none] [] (c1, c2) (mkS w I J) = aR X d m_L_law_ n 25 [some (.ref 1000000), some (.ref 0), some (.ref 132), some (.ref 158), some (.int x4), none, none, none] (c1, c2) (mkS w I J) := rfl
set_option maxRecDepth 100000 in
set_option maxHeartbeats 4000000 in
theorem f_law_t1 : dropTo 273 m_L_law_.1 = m_L_law_.1.drop 82 := srt_drop m_L_law_.1 0 82 273 (273, some [true, true, true, true, true, false, false, false], .aload_n 1, 1, 0) (m_L_law_.1.drop 83) srt_law rfl rfl
set_option maxRecDepth 100000 in
set_option maxHeartbeats 4000000 in
theorem f_law_n1 (X : Nat × (Nat → Int32)) (d n : Nat) (w : Bool × Bool × Bool) (I : Nat → Nat → Int32) (J : Nat → Nat → Int64) (x4 : Int32) (c1 c2 : Nat) (k : Nat) : nxt (am_run X (am_call X aP d) m_L_law_ n) (am_in X (am_call X aP d) m_L_law_ (am_run X (am_call X aP d) m_L_law_ n) k) (m_L_law_.1.drop 82) [some (.ref 1000000), some (.ref 0), some (.ref 132), some (.ref 158), some (.int x4), none, none, none] [] (c1, c2) (mkS w I J) = aR X d m_L_law_ n 82 [some (.ref 1000000), some (.ref 0), some (.ref 132), some (.ref 158), some (.int x4), none, none, none] (c1, c2) (mkS w I J) := rfl
set_option maxRecDepth 100000 in
set_option maxHeartbeats 4000000 in
theorem f_law_t2 : dropTo 329 m_L_law_.1 = m_L_law_.1.drop 117 := srt_drop m_L_law_.1 0 117 329 (329, some [true, true, true, true, true, false, false, false], .aload_n 1, 1, 0) (m_L_law_.1.drop 118) srt_law rfl rfl
set_option maxRecDepth 100000 in
set_option maxHeartbeats 4000000 in
theorem f_law_n2 (X : Nat × (Nat → Int32)) (d n : Nat) (w : Bool × Bool × Bool) (I : Nat → Nat → Int32) (J : Nat → Nat → Int64) (x4 : Int32) (c1 c2 : Nat) (k : Nat) : nxt (am_run X (am_call X aP d) m_L_law_ n) (am_in X (am_call X aP d) m_L_law_ (am_run X (am_call X aP d) m_L_law_ n) k) (m_L_law_.1.drop 117) [some (.ref 1000000), some (.ref 0), some (.ref 132), some (.ref 158), some (.int x4), none, none, none] [] (c1, c2) (mkS w I J) = aR X d m_L_law_ n 117 [some (.ref 1000000), some (.ref 0), some (.ref 132), some (.ref 158), some (.int x4), none, none, none] (c1, c2) (mkS w I J) := rfl
set_option maxRecDepth 100000 in
set_option maxHeartbeats 4000000 in
theorem f_law_t3 : dropTo 385 m_L_law_.1 = m_L_law_.1.drop 152 := srt_drop m_L_law_.1 0 152 385 (385, some [true, true, true, true, true, false, false, false], .aload_n 1, 1, 0) (m_L_law_.1.drop 153) srt_law rfl rfl
set_option maxRecDepth 100000 in
set_option maxHeartbeats 4000000 in
theorem f_law_n3 (X : Nat × (Nat → Int32)) (d n : Nat) (w : Bool × Bool × Bool) (I : Nat → Nat → Int32) (J : Nat → Nat → Int64) (x4 : Int32) (c1 c2 : Nat) (k : Nat) : nxt (am_run X (am_call X aP d) m_L_law_ n) (am_in X (am_call X aP d) m_L_law_ (am_run X (am_call X aP d) m_L_law_ n) k) (m_L_law_.1.drop 152) [some (.ref 1000000), some (.ref 0), some (.ref 132), some (.ref 158), some (.int x4), none, none, none] [] (c1, c2) (mkS w I J) = aR X d m_L_law_ n 152 [some (.ref 1000000), some (.ref 0), some (.ref 132), some (.ref 158), some (.int x4), none, none, none] (c1, c2) (mkS w I J) := rfl
set_option maxRecDepth 100000 in
set_option maxHeartbeats 4000000 in
theorem f_law_t4 : dropTo 441 m_L_law_.1 = m_L_law_.1.drop 187 := srt_drop m_L_law_.1 0 187 441 (441, some [true, true, true, true, true, false, false, false], .aload_n 1, 1, 0) (m_L_law_.1.drop 188) srt_law rfl rfl
set_option maxRecDepth 100000 in
set_option maxHeartbeats 4000000 in
theorem f_law_n4 (X : Nat × (Nat → Int32)) (d n : Nat) (w : Bool × Bool × Bool) (I : Nat → Nat → Int32) (J : Nat → Nat → Int64) (x4 : Int32) (c1 c2 : Nat) (k : Nat) : nxt (am_run X (am_call X aP d) m_L_law_ n) (am_in X (am_call X aP d) m_L_law_ (am_run X (am_call X aP d) m_L_law_ n) k) (m_L_law_.1.drop 187) [some (.ref 1000000), some (.ref 0), some (.ref 132), some (.ref 158), some (.int x4), none, none, none] [] (c1, c2) (mkS w I J) = aR X d m_L_law_ n 187 [some (.ref 1000000), some (.ref 0), some (.ref 132), some (.ref 158), some (.int x4), none, none, none] (c1, c2) (mkS w I J) := rfl
set_option maxRecDepth 100000 in
set_option maxHeartbeats 4000000 in
theorem f_law_t5 : dropTo 497 m_L_law_.1 = m_L_law_.1.drop 222 := srt_drop m_L_law_.1 0 222 497 (497, some [true, true, true, true, true, false, false, false], .aload_n 1, 1, 0) (m_L_law_.1.drop 223) srt_law rfl rfl
set_option maxRecDepth 100000 in
set_option maxHeartbeats 4000000 in
theorem f_law_n5 (X : Nat × (Nat → Int32)) (d n : Nat) (w : Bool × Bool × Bool) (I : Nat → Nat → Int32) (J : Nat → Nat → Int64) (x4 : Int32) (c1 c2 : Nat) (k : Nat) : nxt (am_run X (am_call X aP d) m_L_law_ n) (am_in X (am_call X aP d) m_L_law_ (am_run X (am_call X aP d) m_L_law_ n) k) (m_L_law_.1.drop 222) [some (.ref 1000000), some (.ref 0), some (.ref 132), some (.ref 158), some (.int x4), none, none, none] [] (c1, c2) (mkS w I J) = aR X d m_L_law_ n 222 [some (.ref 1000000), some (.ref 0), some (.ref 132), some (.ref 158), some (.int x4), none, none, none] (c1, c2) (mkS w I J) := rfl
set_option maxRecDepth 100000 in
set_option maxHeartbeats 4000000 in
theorem f_law_t6 : dropTo 510 m_L_law_.1 = m_L_law_.1.drop 229 := srt_drop m_L_law_.1 0 229 510 (510, some [true, true, true, true, true, false, false, false], .aload_n 1, 1, 0) (m_L_law_.1.drop 230) srt_law rfl rfl
set_option maxRecDepth 100000 in
set_option maxHeartbeats 4000000 in
theorem f_law_n6 (X : Nat × (Nat → Int32)) (d n : Nat) (w : Bool × Bool × Bool) (I : Nat → Nat → Int32) (J : Nat → Nat → Int64) (x4 : Int32) (c1 c2 : Nat) (k : Nat) : nxt (am_run X (am_call X aP d) m_L_law_ n) (am_in X (am_call X aP d) m_L_law_ (am_run X (am_call X aP d) m_L_law_ n) k) (m_L_law_.1.drop 229) [some (.ref 1000000), some (.ref 0), some (.ref 132), some (.ref 158), some (.int x4), none, none, none] [] (c1, c2) (mkS w I J) = aR X d m_L_law_ n 229 [some (.ref 1000000), some (.ref 0), some (.ref 132), some (.ref 158), some (.int x4), none, none, none] (c1, c2) (mkS w I J) := rfl
set_option maxRecDepth 100000 in
set_option maxHeartbeats 4000000 in
theorem f_law_t7 : dropTo 523 m_L_law_.1 = m_L_law_.1.drop 236 := srt_drop m_L_law_.1 0 236 523 (523, some [true, true, true, true, true, false, false, false], .aload_n 1, 1, 0) (m_L_law_.1.drop 237) srt_law rfl rfl
set_option maxRecDepth 100000 in
set_option maxHeartbeats 4000000 in
theorem f_law_n7 (X : Nat × (Nat → Int32)) (d n : Nat) (w : Bool × Bool × Bool) (I : Nat → Nat → Int32) (J : Nat → Nat → Int64) (x4 : Int32) (c1 c2 : Nat) (k : Nat) : nxt (am_run X (am_call X aP d) m_L_law_ n) (am_in X (am_call X aP d) m_L_law_ (am_run X (am_call X aP d) m_L_law_ n) k) (m_L_law_.1.drop 236) [some (.ref 1000000), some (.ref 0), some (.ref 132), some (.ref 158), some (.int x4), none, none, none] [] (c1, c2) (mkS w I J) = aR X d m_L_law_ n 236 [some (.ref 1000000), some (.ref 0), some (.ref 132), some (.ref 158), some (.int x4), none, none, none] (c1, c2) (mkS w I J) := rfl
set_option maxRecDepth 100000 in
set_option maxHeartbeats 4000000 in
theorem f_law_t8 : dropTo 579 m_L_law_.1 = m_L_law_.1.drop 271 := srt_drop m_L_law_.1 0 271 579 (579, some [true, true, true, true, true, false, false, false], .aload_n 1, 1, 0) (m_L_law_.1.drop 272) srt_law rfl rfl
set_option maxRecDepth 100000 in
set_option maxHeartbeats 4000000 in
theorem f_law_n8 (X : Nat × (Nat → Int32)) (d n : Nat) (w : Bool × Bool × Bool) (I : Nat → Nat → Int32) (J : Nat → Nat → Int64) (x4 : Int32) (c1 c2 : Nat) (k : Nat) : nxt (am_run X (am_call X aP d) m_L_law_ n) (am_in X (am_call X aP d) m_L_law_ (am_run X (am_call X aP d) m_L_law_ n) k) (m_L_law_.1.drop 271) [some (.ref 1000000), some (.ref 0), some (.ref 132), some (.ref 158), some (.int x4), none, none, none] [] (c1, c2) (mkS w I J) = aR X d m_L_law_ n 271 [some (.ref 1000000), some (.ref 0), some (.ref 132), some (.ref 158), some (.int x4), none, none, none] (c1, c2) (mkS w I J) := rfl
set_option maxRecDepth 100000 in
set_option maxHeartbeats 4000000 in
theorem f_law_t9 : dropTo 647 m_L_law_.1 = m_L_law_.1.drop 316 := srt_drop m_L_law_.1 0 316 647 (647, some [true, true, true, true, true, false, false, false], .aload_n 1, 1, 0) (m_L_law_.1.drop 317) srt_law rfl rfl
set_option maxRecDepth 100000 in
set_option maxHeartbeats 4000000 in
theorem f_law_n9 (X : Nat × (Nat → Int32)) (d n : Nat) (w : Bool × Bool × Bool) (I : Nat → Nat → Int32) (J : Nat → Nat → Int64) (x4 : Int32) (c1 c2 : Nat) (k : Nat) : nxt (am_run X (am_call X aP d) m_L_law_ n) (am_in X (am_call X aP d) m_L_law_ (am_run X (am_call X aP d) m_L_law_ n) k) (m_L_law_.1.drop 316) [some (.ref 1000000), some (.ref 0), some (.ref 132), some (.ref 158), some (.int x4), none, none, none] [] (c1, c2) (mkS w I J) = aR X d m_L_law_ n 316 [some (.ref 1000000), some (.ref 0), some (.ref 132), some (.ref 158), some (.int x4), none, none, none] (c1, c2) (mkS w I J) := rfl
set_option maxRecDepth 100000 in
set_option maxHeartbeats 4000000 in
theorem f_law_t10 : dropTo 715 m_L_law_.1 = m_L_law_.1.drop 361 := srt_drop m_L_law_.1 0 361 715 (715, some [true, true, true, true, true, false, false, false], .aload_n 1, 1, 0) (m_L_law_.1.drop 362) srt_law rfl rfl
set_option maxRecDepth 100000 in
set_option maxHeartbeats 4000000 in
theorem f_law_n10 (X : Nat × (Nat → Int32)) (d n : Nat) (w : Bool × Bool × Bool) (I : Nat → Nat → Int32) (J : Nat → Nat → Int64) (x4 : Int32) (c1 c2 : Nat) (k : Nat) : nxt (am_run X (am_call X aP d) m_L_law_ n) (am_in X (am_call X aP d) m_L_law_ (am_run X (am_call X aP d) m_L_law_ n) k) (m_L_law_.1.drop 361) [some (.ref 1000000), some (.ref 0), some (.ref 132), some (.ref 158), some (.int x4), none, none, none] [] (c1, c2) (mkS w I J) = aR X d m_L_law_ n 361 [some (.ref 1000000), some (.ref 0), some (.ref 132), some (.ref 158), some (.int x4), none, none, none] (c1, c2) (mkS w I J) := rfl
set_option maxRecDepth 100000 in
set_option maxHeartbeats 4000000 in
theorem f_law_t11 : dropTo 783 m_L_law_.1 = m_L_law_.1.drop 406 := srt_drop m_L_law_.1 0 406 783 (783, some [true, true, true, true, true, false, false, false], .aload_n 1, 1, 0) (m_L_law_.1.drop 407) srt_law rfl rfl
set_option maxRecDepth 100000 in
set_option maxHeartbeats 4000000 in
theorem f_law_n11 (X : Nat × (Nat → Int32)) (d n : Nat) (w : Bool × Bool × Bool) (I : Nat → Nat → Int32) (J : Nat → Nat → Int64) (x4 : Int32) (c1 c2 : Nat) (k : Nat) : nxt (am_run X (am_call X aP d) m_L_law_ n) (am_in X (am_call X aP d) m_L_law_ (am_run X (am_call X aP d) m_L_law_ n) k) (m_L_law_.1.drop 406) [some (.ref 1000000), some (.ref 0), some (.ref 132), some (.ref 158), some (.int x4), none, none, none] [] (c1, c2) (mkS w I J) = aR X d m_L_law_ n 406 [some (.ref 1000000), some (.ref 0), some (.ref 132), some (.ref 158), some (.int x4), none, none, none] (c1, c2) (mkS w I J) := rfl
set_option maxRecDepth 100000 in
set_option maxHeartbeats 4000000 in
theorem f_law_t12 : dropTo 929 m_L_law_.1 = m_L_law_.1.drop 511 := srt_drop m_L_law_.1 0 511 929 (929, some [true, true, true, true, true, false, false, false], .aload_n 1, 1, 0) (m_L_law_.1.drop 512) srt_law rfl rfl
set_option maxRecDepth 100000 in
set_option maxHeartbeats 4000000 in
theorem f_law_n12 (X : Nat × (Nat → Int32)) (d n : Nat) (w : Bool × Bool × Bool) (I : Nat → Nat → Int32) (J : Nat → Nat → Int64) (x4 : Int32) (c1 c2 : Nat) (k : Nat) : nxt (am_run X (am_call X aP d) m_L_law_ n) (am_in X (am_call X aP d) m_L_law_ (am_run X (am_call X aP d) m_L_law_ n) k) (m_L_law_.1.drop 511) [some (.ref 1000000), some (.ref 0), some (.ref 132), some (.ref 158), some (.int x4), none, none, none] [] (c1, c2) (mkS w I J) = aR X d m_L_law_ n 511 [some (.ref 1000000), some (.ref 0), some (.ref 132), some (.ref 158), some (.int x4), none, none, none] (c1, c2) (mkS w I J) := rfl
set_option maxRecDepth 100000 in
set_option maxHeartbeats 4000000 in
theorem f_law_t13 : dropTo 997 m_L_law_.1 = m_L_law_.1.drop 556 := srt_drop m_L_law_.1 0 556 997 (997, some [true, true, true, true, true, false, false, false], .aload_n 1, 1, 0) (m_L_law_.1.drop 557) srt_law rfl rfl
set_option maxRecDepth 100000 in
set_option maxHeartbeats 4000000 in
theorem f_law_n13 (X : Nat × (Nat → Int32)) (d n : Nat) (w : Bool × Bool × Bool) (I : Nat → Nat → Int32) (J : Nat → Nat → Int64) (x4 : Int32) (c1 c2 : Nat) (k : Nat) : nxt (am_run X (am_call X aP d) m_L_law_ n) (am_in X (am_call X aP d) m_L_law_ (am_run X (am_call X aP d) m_L_law_ n) k) (m_L_law_.1.drop 556) [some (.ref 1000000), some (.ref 0), some (.ref 132), some (.ref 158), some (.int x4), none, none, none] [] (c1, c2) (mkS w I J) = aR X d m_L_law_ n 556 [some (.ref 1000000), some (.ref 0), some (.ref 132), some (.ref 158), some (.int x4), none, none, none] (c1, c2) (mkS w I J) := rfl
set_option maxRecDepth 100000 in
set_option maxHeartbeats 4000000 in
theorem f_law_t14 : dropTo 1077 m_L_law_.1 = m_L_law_.1.drop 611 := srt_drop m_L_law_.1 0 611 1077 (1077, some [true, true, true, true, true, false, false, false], .aload_n 1, 1, 0) (m_L_law_.1.drop 612) srt_law rfl rfl
set_option maxRecDepth 100000 in
set_option maxHeartbeats 4000000 in
theorem f_law_n14 (X : Nat × (Nat → Int32)) (d n : Nat) (w : Bool × Bool × Bool) (I : Nat → Nat → Int32) (J : Nat → Nat → Int64) (x4 : Int32) (c1 c2 : Nat) (k : Nat) : nxt (am_run X (am_call X aP d) m_L_law_ n) (am_in X (am_call X aP d) m_L_law_ (am_run X (am_call X aP d) m_L_law_ n) k) (m_L_law_.1.drop 611) [some (.ref 1000000), some (.ref 0), some (.ref 132), some (.ref 158), some (.int x4), none, none, none] [] (c1, c2) (mkS w I J) = aR X d m_L_law_ n 611 [some (.ref 1000000), some (.ref 0), some (.ref 132), some (.ref 158), some (.int x4), none, none, none] (c1, c2) (mkS w I J) := rfl
set_option maxRecDepth 100000 in
set_option maxHeartbeats 4000000 in
theorem f_law_t15 : dropTo 1169 m_L_law_.1 = m_L_law_.1.drop 676 := srt_drop m_L_law_.1 0 676 1169 (1169, some [true, true, true, true, true, false, false, false], .aload_n 1, 1, 0) (m_L_law_.1.drop 677) srt_law rfl rfl
set_option maxRecDepth 100000 in
set_option maxHeartbeats 4000000 in
theorem f_law_n15 (X : Nat × (Nat → Int32)) (d n : Nat) (w : Bool × Bool × Bool) (I : Nat → Nat → Int32) (J : Nat → Nat → Int64) (x4 : Int32) (c1 c2 : Nat) (k : Nat) : nxt (am_run X (am_call X aP d) m_L_law_ n) (am_in X (am_call X aP d) m_L_law_ (am_run X (am_call X aP d) m_L_law_ n) k) (m_L_law_.1.drop 676) [some (.ref 1000000), some (.ref 0), some (.ref 132), some (.ref 158), some (.int x4), none, none, none] [] (c1, c2) (mkS w I J) = aR X d m_L_law_ n 676 [some (.ref 1000000), some (.ref 0), some (.ref 132), some (.ref 158), some (.int x4), none, none, none] (c1, c2) (mkS w I J) := rfl
set_option maxRecDepth 100000 in
set_option maxHeartbeats 4000000 in
theorem f_law_t16 : dropTo 1261 m_L_law_.1 = m_L_law_.1.drop 741 := srt_drop m_L_law_.1 0 741 1261 (1261, some [true, true, true, true, true, false, false, false], .aload_n 1, 1, 0) (m_L_law_.1.drop 742) srt_law rfl rfl
set_option maxRecDepth 100000 in
set_option maxHeartbeats 4000000 in
theorem f_law_n16 (X : Nat × (Nat → Int32)) (d n : Nat) (w : Bool × Bool × Bool) (I : Nat → Nat → Int32) (J : Nat → Nat → Int64) (x4 : Int32) (c1 c2 : Nat) (k : Nat) : nxt (am_run X (am_call X aP d) m_L_law_ n) (am_in X (am_call X aP d) m_L_law_ (am_run X (am_call X aP d) m_L_law_ n) k) (m_L_law_.1.drop 741) [some (.ref 1000000), some (.ref 0), some (.ref 132), some (.ref 158), some (.int x4), none, none, none] [] (c1, c2) (mkS w I J) = aR X d m_L_law_ n 741 [some (.ref 1000000), some (.ref 0), some (.ref 132), some (.ref 158), some (.int x4), none, none, none] (c1, c2) (mkS w I J) := rfl
set_option maxRecDepth 100000 in
set_option maxHeartbeats 4000000 in
theorem f_law_t17 : dropTo 1341 m_L_law_.1 = m_L_law_.1.drop 796 := srt_drop m_L_law_.1 0 796 1341 (1341, some [true, true, true, true, true, false, false, false], .aload_n 1, 1, 0) (m_L_law_.1.drop 797) srt_law rfl rfl
set_option maxRecDepth 100000 in
set_option maxHeartbeats 4000000 in
theorem f_law_n17 (X : Nat × (Nat → Int32)) (d n : Nat) (w : Bool × Bool × Bool) (I : Nat → Nat → Int32) (J : Nat → Nat → Int64) (x4 : Int32) (c1 c2 : Nat) (k : Nat) : nxt (am_run X (am_call X aP d) m_L_law_ n) (am_in X (am_call X aP d) m_L_law_ (am_run X (am_call X aP d) m_L_law_ n) k) (m_L_law_.1.drop 796) [some (.ref 1000000), some (.ref 0), some (.ref 132), some (.ref 158), some (.int x4), none, none, none] [] (c1, c2) (mkS w I J) = aR X d m_L_law_ n 796 [some (.ref 1000000), some (.ref 0), some (.ref 132), some (.ref 158), some (.int x4), none, none, none] (c1, c2) (mkS w I J) := rfl
set_option maxRecDepth 100000 in
set_option maxHeartbeats 4000000 in
theorem f_law_t18 : dropTo 1397 m_L_law_.1 = m_L_law_.1.drop 831 := srt_drop m_L_law_.1 0 831 1397 (1397, some [true, true, true, true, true, false, false, false], .aload_n 1, 1, 0) (m_L_law_.1.drop 832) srt_law rfl rfl
set_option maxRecDepth 100000 in
set_option maxHeartbeats 4000000 in
theorem f_law_n18 (X : Nat × (Nat → Int32)) (d n : Nat) (w : Bool × Bool × Bool) (I : Nat → Nat → Int32) (J : Nat → Nat → Int64) (x4 : Int32) (c1 c2 : Nat) (k : Nat) : nxt (am_run X (am_call X aP d) m_L_law_ n) (am_in X (am_call X aP d) m_L_law_ (am_run X (am_call X aP d) m_L_law_ n) k) (m_L_law_.1.drop 831) [some (.ref 1000000), some (.ref 0), some (.ref 132), some (.ref 158), some (.int x4), none, none, none] [] (c1, c2) (mkS w I J) = aR X d m_L_law_ n 831 [some (.ref 1000000), some (.ref 0), some (.ref 132), some (.ref 158), some (.int x4), none, none, none] (c1, c2) (mkS w I J) := rfl
set_option maxRecDepth 100000 in
set_option maxHeartbeats 4000000 in
theorem f_law_t19 : dropTo 1460 m_L_law_.1 = m_L_law_.1.drop 869 := srt_drop m_L_law_.1 0 869 1460 (1460, some [true, true, true, true, true, false, false, false], .aload_n 1, 1, 0) (m_L_law_.1.drop 870) srt_law rfl rfl
set_option maxRecDepth 100000 in
set_option maxHeartbeats 4000000 in
theorem f_law_n19 (X : Nat × (Nat → Int32)) (d n : Nat) (w : Bool × Bool × Bool) (I : Nat → Nat → Int32) (J : Nat → Nat → Int64) (x4 : Int32) (c1 c2 : Nat) (k : Nat) : nxt (am_run X (am_call X aP d) m_L_law_ n) (am_in X (am_call X aP d) m_L_law_ (am_run X (am_call X aP d) m_L_law_ n) k) (m_L_law_.1.drop 869) [some (.ref 1000000), some (.ref 0), some (.ref 132), some (.ref 158), some (.int x4), none, none, none] [] (c1, c2) (mkS w I J) = aR X d m_L_law_ n 869 [some (.ref 1000000), some (.ref 0), some (.ref 132), some (.ref 158), some (.int x4), none, none, none] (c1, c2) (mkS w I J) := rfl
set_option maxRecDepth 100000 in
set_option maxHeartbeats 4000000 in
theorem f_law_t20 : dropTo 1540 m_L_law_.1 = m_L_law_.1.drop 924 := srt_drop m_L_law_.1 0 924 1540 (1540, some [true, true, true, true, true, false, false, false], .aload_n 1, 1, 0) (m_L_law_.1.drop 925) srt_law rfl rfl
set_option maxRecDepth 100000 in
set_option maxHeartbeats 4000000 in
theorem f_law_n20 (X : Nat × (Nat → Int32)) (d n : Nat) (w : Bool × Bool × Bool) (I : Nat → Nat → Int32) (J : Nat → Nat → Int64) (x4 : Int32) (c1 c2 : Nat) (k : Nat) : nxt (am_run X (am_call X aP d) m_L_law_ n) (am_in X (am_call X aP d) m_L_law_ (am_run X (am_call X aP d) m_L_law_ n) k) (m_L_law_.1.drop 924) [some (.ref 1000000), some (.ref 0), some (.ref 132), some (.ref 158), some (.int x4), none, none, none] [] (c1, c2) (mkS w I J) = aR X d m_L_law_ n 924 [some (.ref 1000000), some (.ref 0), some (.ref 132), some (.ref 158), some (.int x4), none, none, none] (c1, c2) (mkS w I J) := rfl
set_option maxRecDepth 100000 in
set_option maxHeartbeats 4000000 in
theorem f_law_t21 : dropTo 1596 m_L_law_.1 = m_L_law_.1.drop 959 := srt_drop m_L_law_.1 0 959 1596 (1596, some [true, true, true, true, true, false, false, false], .aload_n 1, 1, 0) (m_L_law_.1.drop 960) srt_law rfl rfl
set_option maxRecDepth 100000 in
set_option maxHeartbeats 4000000 in
theorem f_law_n21 (X : Nat × (Nat → Int32)) (d n : Nat) (w : Bool × Bool × Bool) (I : Nat → Nat → Int32) (J : Nat → Nat → Int64) (x4 : Int32) (c1 c2 : Nat) (k : Nat) : nxt (am_run X (am_call X aP d) m_L_law_ n) (am_in X (am_call X aP d) m_L_law_ (am_run X (am_call X aP d) m_L_law_ n) k) (m_L_law_.1.drop 959) [some (.ref 1000000), some (.ref 0), some (.ref 132), some (.ref 158), some (.int x4), none, none, none] [] (c1, c2) (mkS w I J) = aR X d m_L_law_ n 959 [some (.ref 1000000), some (.ref 0), some (.ref 132), some (.ref 158), some (.int x4), none, none, none] (c1, c2) (mkS w I J) := rfl
set_option maxRecDepth 100000 in
set_option maxHeartbeats 4000000 in
theorem f_law_t22 : dropTo 1652 m_L_law_.1 = m_L_law_.1.drop 994 := srt_drop m_L_law_.1 0 994 1652 (1652, some [true, true, true, true, true, false, false, false], .aload_n 1, 1, 0) (m_L_law_.1.drop 995) srt_law rfl rfl
set_option maxRecDepth 100000 in
set_option maxHeartbeats 4000000 in
theorem f_law_n22 (X : Nat × (Nat → Int32)) (d n : Nat) (w : Bool × Bool × Bool) (I : Nat → Nat → Int32) (J : Nat → Nat → Int64) (x4 : Int32) (c1 c2 : Nat) (k : Nat) : nxt (am_run X (am_call X aP d) m_L_law_ n) (am_in X (am_call X aP d) m_L_law_ (am_run X (am_call X aP d) m_L_law_ n) k) (m_L_law_.1.drop 994) [some (.ref 1000000), some (.ref 0), some (.ref 132), some (.ref 158), some (.int x4), none, none, none] [] (c1, c2) (mkS w I J) = aR X d m_L_law_ n 994 [some (.ref 1000000), some (.ref 0), some (.ref 132), some (.ref 158), some (.int x4), none, none, none] (c1, c2) (mkS w I J) := rfl
set_option maxRecDepth 100000 in
set_option maxHeartbeats 4000000 in
theorem f_law_t23 : dropTo 1708 m_L_law_.1 = m_L_law_.1.drop 1029 := srt_drop m_L_law_.1 0 1029 1708 (1708, some [true, true, true, true, true, false, false, false], .aload_n 1, 1, 0) (m_L_law_.1.drop 1030) srt_law rfl rfl
set_option maxRecDepth 100000 in
set_option maxHeartbeats 4000000 in
theorem f_law_n23 (X : Nat × (Nat → Int32)) (d n : Nat) (w : Bool × Bool × Bool) (I : Nat → Nat → Int32) (J : Nat → Nat → Int64) (x4 : Int32) (c1 c2 : Nat) (k : Nat) : nxt (am_run X (am_call X aP d) m_L_law_ n) (am_in X (am_call X aP d) m_L_law_ (am_run X (am_call X aP d) m_L_law_ n) k) (m_L_law_.1.drop 1029) [some (.ref 1000000), some (.ref 0), some (.ref 132), some (.ref 158), some (.int x4), none, none, none] [] (c1, c2) (mkS w I J) = aR X d m_L_law_ n 1029 [some (.ref 1000000), some (.ref 0), some (.ref 132), some (.ref 158), some (.int x4), none, none, none] (c1, c2) (mkS w I J) := rfl
set_option maxRecDepth 100000 in
set_option maxHeartbeats 4000000 in
theorem f_law_t24 : dropTo 1776 m_L_law_.1 = m_L_law_.1.drop 1074 := srt_drop m_L_law_.1 0 1074 1776 (1776, some [true, true, true, true, true, false, false, false], .aload_n 1, 1, 0) (m_L_law_.1.drop 1075) srt_law rfl rfl
set_option maxRecDepth 100000 in
set_option maxHeartbeats 4000000 in
theorem f_law_n24 (X : Nat × (Nat → Int32)) (d n : Nat) (w : Bool × Bool × Bool) (I : Nat → Nat → Int32) (J : Nat → Nat → Int64) (x4 : Int32) (c1 c2 : Nat) (k : Nat) : nxt (am_run X (am_call X aP d) m_L_law_ n) (am_in X (am_call X aP d) m_L_law_ (am_run X (am_call X aP d) m_L_law_ n) k) (m_L_law_.1.drop 1074) [some (.ref 1000000), some (.ref 0), some (.ref 132), some (.ref 158), some (.int x4), none, none, none] [] (c1, c2) (mkS w I J) = aR X d m_L_law_ n 1074 [some (.ref 1000000), some (.ref 0), some (.ref 132), some (.ref 158), some (.int x4), none, none, none] (c1, c2) (mkS w I J) := rfl
set_option maxRecDepth 100000 in
set_option maxHeartbeats 4000000 in
theorem f_law_t25 : dropTo 1856 m_L_law_.1 = m_L_law_.1.drop 1129 := srt_drop m_L_law_.1 0 1129 1856 (1856, some [true, true, true, true, true, false, false, false], .aload_n 1, 1, 0) (m_L_law_.1.drop 1130) srt_law rfl rfl
set_option maxRecDepth 100000 in
set_option maxHeartbeats 4000000 in
theorem f_law_n25 (X : Nat × (Nat → Int32)) (d n : Nat) (w : Bool × Bool × Bool) (I : Nat → Nat → Int32) (J : Nat → Nat → Int64) (x4 : Int32) (c1 c2 : Nat) (k : Nat) : nxt (am_run X (am_call X aP d) m_L_law_ n) (am_in X (am_call X aP d) m_L_law_ (am_run X (am_call X aP d) m_L_law_ n) k) (m_L_law_.1.drop 1129) [some (.ref 1000000), some (.ref 0), some (.ref 132), some (.ref 158), some (.int x4), none, none, none] [] (c1, c2) (mkS w I J) = aR X d m_L_law_ n 1129 [some (.ref 1000000), some (.ref 0), some (.ref 132), some (.ref 158), some (.int x4), none, none, none] (c1, c2) (mkS w I J) := rfl
set_option maxRecDepth 100000 in
set_option maxHeartbeats 4000000 in
theorem f_law_t26 : dropTo 1947 m_L_law_.1 = m_L_law_.1.drop 1193 := srt_drop m_L_law_.1 0 1193 1947 (1947, some [true, true, true, true, true, false, false, false], .aload_n 1, 1, 0) (m_L_law_.1.drop 1194) srt_law rfl rfl
set_option maxRecDepth 100000 in
set_option maxHeartbeats 4000000 in
theorem f_law_n26 (X : Nat × (Nat → Int32)) (d n : Nat) (w : Bool × Bool × Bool) (I : Nat → Nat → Int32) (J : Nat → Nat → Int64) (x4 : Int32) (c1 c2 : Nat) (k : Nat) : nxt (am_run X (am_call X aP d) m_L_law_ n) (am_in X (am_call X aP d) m_L_law_ (am_run X (am_call X aP d) m_L_law_ n) k) (m_L_law_.1.drop 1193) [some (.ref 1000000), some (.ref 0), some (.ref 132), some (.ref 158), some (.int x4), none, none, none] [] (c1, c2) (mkS w I J) = aR X d m_L_law_ n 1193 [some (.ref 1000000), some (.ref 0), some (.ref 132), some (.ref 158), some (.int x4), none, none, none] (c1, c2) (mkS w I J) := rfl
set_option maxRecDepth 100000 in
set_option maxHeartbeats 4000000 in
theorem f_law_t27 : dropTo 2027 m_L_law_.1 = m_L_law_.1.drop 1248 := srt_drop m_L_law_.1 0 1248 2027 (2027, some [true, true, true, true, true, false, false, false], .aload_n 1, 1, 0) (m_L_law_.1.drop 1249) srt_law rfl rfl
set_option maxRecDepth 100000 in
set_option maxHeartbeats 4000000 in
theorem f_law_n27 (X : Nat × (Nat → Int32)) (d n : Nat) (w : Bool × Bool × Bool) (I : Nat → Nat → Int32) (J : Nat → Nat → Int64) (x4 : Int32) (c1 c2 : Nat) (k : Nat) : nxt (am_run X (am_call X aP d) m_L_law_ n) (am_in X (am_call X aP d) m_L_law_ (am_run X (am_call X aP d) m_L_law_ n) k) (m_L_law_.1.drop 1248) [some (.ref 1000000), some (.ref 0), some (.ref 132), some (.ref 158), some (.int x4), none, none, none] [] (c1, c2) (mkS w I J) = aR X d m_L_law_ n 1248 [some (.ref 1000000), some (.ref 0), some (.ref 132), some (.ref 158), some (.int x4), none, none, none] (c1, c2) (mkS w I J) := rfl
set_option maxRecDepth 100000 in
set_option maxHeartbeats 4000000 in
theorem f_law_t28 : dropTo 2083 m_L_law_.1 = m_L_law_.1.drop 1283 := srt_drop m_L_law_.1 0 1283 2083 (2083, some [true, true, true, true, true, false, false, false], .aload_n 1, 1, 0) (m_L_law_.1.drop 1284) srt_law rfl rfl
set_option maxRecDepth 100000 in
set_option maxHeartbeats 4000000 in
theorem f_law_n28 (X : Nat × (Nat → Int32)) (d n : Nat) (w : Bool × Bool × Bool) (I : Nat → Nat → Int32) (J : Nat → Nat → Int64) (x4 : Int32) (c1 c2 : Nat) (k : Nat) : nxt (am_run X (am_call X aP d) m_L_law_ n) (am_in X (am_call X aP d) m_L_law_ (am_run X (am_call X aP d) m_L_law_ n) k) (m_L_law_.1.drop 1283) [some (.ref 1000000), some (.ref 0), some (.ref 132), some (.ref 158), some (.int x4), none, none, none] [] (c1, c2) (mkS w I J) = aR X d m_L_law_ n 1283 [some (.ref 1000000), some (.ref 0), some (.ref 132), some (.ref 158), some (.int x4), none, none, none] (c1, c2) (mkS w I J) := rfl
set_option maxRecDepth 100000 in
set_option maxHeartbeats 4000000 in
theorem f_law_t29 : dropTo 2139 m_L_law_.1 = m_L_law_.1.drop 1318 := srt_drop m_L_law_.1 0 1318 2139 (2139, some [true, true, true, true, true, false, false, false], .aload_n 1, 1, 0) (m_L_law_.1.drop 1319) srt_law rfl rfl
set_option maxRecDepth 100000 in
set_option maxHeartbeats 4000000 in
theorem f_law_n29 (X : Nat × (Nat → Int32)) (d n : Nat) (w : Bool × Bool × Bool) (I : Nat → Nat → Int32) (J : Nat → Nat → Int64) (x4 : Int32) (c1 c2 : Nat) (k : Nat) : nxt (am_run X (am_call X aP d) m_L_law_ n) (am_in X (am_call X aP d) m_L_law_ (am_run X (am_call X aP d) m_L_law_ n) k) (m_L_law_.1.drop 1318) [some (.ref 1000000), some (.ref 0), some (.ref 132), some (.ref 158), some (.int x4), none, none, none] [] (c1, c2) (mkS w I J) = aR X d m_L_law_ n 1318 [some (.ref 1000000), some (.ref 0), some (.ref 132), some (.ref 158), some (.int x4), none, none, none] (c1, c2) (mkS w I J) := rfl
set_option maxRecDepth 100000 in
set_option maxHeartbeats 4000000 in
theorem f_law_t30 : dropTo 2207 m_L_law_.1 = m_L_law_.1.drop 1363 := srt_drop m_L_law_.1 0 1363 2207 (2207, some [true, true, true, true, true, false, false, false], .aload_n 1, 1, 0) (m_L_law_.1.drop 1364) srt_law rfl rfl
set_option maxRecDepth 100000 in
set_option maxHeartbeats 4000000 in
theorem f_law_n30 (X : Nat × (Nat → Int32)) (d n : Nat) (w : Bool × Bool × Bool) (I : Nat → Nat → Int32) (J : Nat → Nat → Int64) (x4 : Int32) (c1 c2 : Nat) (k : Nat) : nxt (am_run X (am_call X aP d) m_L_law_ n) (am_in X (am_call X aP d) m_L_law_ (am_run X (am_call X aP d) m_L_law_ n) k) (m_L_law_.1.drop 1363) [some (.ref 1000000), some (.ref 0), some (.ref 132), some (.ref 158), some (.int x4), none, none, none] [] (c1, c2) (mkS w I J) = aR X d m_L_law_ n 1363 [some (.ref 1000000), some (.ref 0), some (.ref 132), some (.ref 158), some (.int x4), none, none, none] (c1, c2) (mkS w I J) := rfl
set_option maxRecDepth 100000 in
set_option maxHeartbeats 4000000 in
theorem f_law_t31 : dropTo 2299 m_L_law_.1 = m_L_law_.1.drop 1428 := srt_drop m_L_law_.1 0 1428 2299 (2299, some [true, true, true, true, true, false, false, false], .aload_n 1, 1, 0) (m_L_law_.1.drop 1429) srt_law rfl rfl
set_option maxRecDepth 100000 in
set_option maxHeartbeats 4000000 in
theorem f_law_n31 (X : Nat × (Nat → Int32)) (d n : Nat) (w : Bool × Bool × Bool) (I : Nat → Nat → Int32) (J : Nat → Nat → Int64) (x4 : Int32) (c1 c2 : Nat) (k : Nat) : nxt (am_run X (am_call X aP d) m_L_law_ n) (am_in X (am_call X aP d) m_L_law_ (am_run X (am_call X aP d) m_L_law_ n) k) (m_L_law_.1.drop 1428) [some (.ref 1000000), some (.ref 0), some (.ref 132), some (.ref 158), some (.int x4), none, none, none] [] (c1, c2) (mkS w I J) = aR X d m_L_law_ n 1428 [some (.ref 1000000), some (.ref 0), some (.ref 132), some (.ref 158), some (.int x4), none, none, none] (c1, c2) (mkS w I J) := rfl
set_option maxRecDepth 100000 in
set_option maxHeartbeats 4000000 in
theorem f_law_t32 : dropTo 2417 m_L_law_.1 = m_L_law_.1.drop 1513 := srt_drop m_L_law_.1 0 1513 2417 (2417, some [true, true, true, true, true, false, false, false], .aload_n 1, 1, 0) (m_L_law_.1.drop 1514) srt_law rfl rfl
set_option maxRecDepth 100000 in
set_option maxHeartbeats 4000000 in
theorem f_law_n32 (X : Nat × (Nat → Int32)) (d n : Nat) (w : Bool × Bool × Bool) (I : Nat → Nat → Int32) (J : Nat → Nat → Int64) (x4 : Int32) (c1 c2 : Nat) (k : Nat) : nxt (am_run X (am_call X aP d) m_L_law_ n) (am_in X (am_call X aP d) m_L_law_ (am_run X (am_call X aP d) m_L_law_ n) k) (m_L_law_.1.drop 1513) [some (.ref 1000000), some (.ref 0), some (.ref 132), some (.ref 158), some (.int x4), none, none, none] [] (c1, c2) (mkS w I J) = aR X d m_L_law_ n 1513 [some (.ref 1000000), some (.ref 0), some (.ref 132), some (.ref 158), some (.int x4), none, none, none] (c1, c2) (mkS w I J) := rfl
set_option maxRecDepth 100000 in
set_option maxHeartbeats 4000000 in
theorem f_law_t33 : dropTo 2430 m_L_law_.1 = m_L_law_.1.drop 1520 := srt_drop m_L_law_.1 0 1520 2430 (2430, some [true, true, true, true, true, false, false, false], .aload_n 1, 1, 0) (m_L_law_.1.drop 1521) srt_law rfl rfl
set_option maxRecDepth 100000 in
set_option maxHeartbeats 4000000 in
theorem f_law_n33 (X : Nat × (Nat → Int32)) (d n : Nat) (w : Bool × Bool × Bool) (I : Nat → Nat → Int32) (J : Nat → Nat → Int64) (x4 : Int32) (c1 c2 : Nat) (k : Nat) : nxt (am_run X (am_call X aP d) m_L_law_ n) (am_in X (am_call X aP d) m_L_law_ (am_run X (am_call X aP d) m_L_law_ n) k) (m_L_law_.1.drop 1520) [some (.ref 1000000), some (.ref 0), some (.ref 132), some (.ref 158), some (.int x4), none, none, none] [] (c1, c2) (mkS w I J) = aR X d m_L_law_ n 1520 [some (.ref 1000000), some (.ref 0), some (.ref 132), some (.ref 158), some (.int x4), none, none, none] (c1, c2) (mkS w I J) := rfl
set_option maxRecDepth 100000 in
set_option maxHeartbeats 4000000 in
theorem f_law_t34 : dropTo 2443 m_L_law_.1 = m_L_law_.1.drop 1527 := srt_drop m_L_law_.1 0 1527 2443 (2443, some [true, true, true, true, true, false, false, false], .aload_n 1, 1, 0) (m_L_law_.1.drop 1528) srt_law rfl rfl
set_option maxRecDepth 100000 in
set_option maxHeartbeats 4000000 in
theorem f_law_n34 (X : Nat × (Nat → Int32)) (d n : Nat) (w : Bool × Bool × Bool) (I : Nat → Nat → Int32) (J : Nat → Nat → Int64) (x4 : Int32) (c1 c2 : Nat) (k : Nat) : nxt (am_run X (am_call X aP d) m_L_law_ n) (am_in X (am_call X aP d) m_L_law_ (am_run X (am_call X aP d) m_L_law_ n) k) (m_L_law_.1.drop 1527) [some (.ref 1000000), some (.ref 0), some (.ref 132), some (.ref 158), some (.int x4), none, none, none] [] (c1, c2) (mkS w I J) = aR X d m_L_law_ n 1527 [some (.ref 1000000), some (.ref 0), some (.ref 132), some (.ref 158), some (.int x4), none, none, none] (c1, c2) (mkS w I J) := rfl
set_option maxRecDepth 100000 in
set_option maxHeartbeats 4000000 in
theorem f_law_t35 : dropTo 2468 m_L_law_.1 = m_L_law_.1.drop 1544 := srt_drop m_L_law_.1 0 1544 2468 (2468, some [true, true, true, true, true, false, false, false], .aload_n 1, 1, 0) (m_L_law_.1.drop 1545) srt_law rfl rfl
set_option maxRecDepth 100000 in
set_option maxHeartbeats 4000000 in
theorem f_law_n35 (X : Nat × (Nat → Int32)) (d n : Nat) (w : Bool × Bool × Bool) (I : Nat → Nat → Int32) (J : Nat → Nat → Int64) (x4 : Int32) (c1 c2 : Nat) (k : Nat) : nxt (am_run X (am_call X aP d) m_L_law_ n) (am_in X (am_call X aP d) m_L_law_ (am_run X (am_call X aP d) m_L_law_ n) k) (m_L_law_.1.drop 1544) [some (.ref 1000000), some (.ref 0), some (.ref 132), some (.ref 158), some (.int x4), none, none, none] [] (c1, c2) (mkS w I J) = aR X d m_L_law_ n 1544 [some (.ref 1000000), some (.ref 0), some (.ref 132), some (.ref 158), some (.int x4), none, none, none] (c1, c2) (mkS w I J) := rfl
set_option maxRecDepth 100000 in
set_option maxHeartbeats 4000000 in
theorem f_law_t36 : dropTo 2493 m_L_law_.1 = m_L_law_.1.drop 1561 := srt_drop m_L_law_.1 0 1561 2493 (2493, some [true, true, true, true, true, false, false, false], .iinc 4 9, 4, 9) (m_L_law_.1.drop 1562) srt_law rfl rfl
set_option maxRecDepth 100000 in
set_option maxHeartbeats 4000000 in
theorem f_law_n36 (X : Nat × (Nat → Int32)) (d n : Nat) (w : Bool × Bool × Bool) (I : Nat → Nat → Int32) (J : Nat → Nat → Int64) (x4 : Int32) (c1 c2 : Nat) (k : Nat) : nxt (am_run X (am_call X aP d) m_L_law_ n) (am_in X (am_call X aP d) m_L_law_ (am_run X (am_call X aP d) m_L_law_ n) k) (m_L_law_.1.drop 1561) [some (.ref 1000000), some (.ref 0), some (.ref 132), some (.ref 158), some (.int x4), none, none, none] [] (c1, c2) (mkS w I J) = aR X d m_L_law_ n 1561 [some (.ref 1000000), some (.ref 0), some (.ref 132), some (.ref 158), some (.int x4), none, none, none] (c1, c2) (mkS w I J) := rfl
theorem f_law_sw (X : Nat × (Nat → Int32)) (d n : Nat) (w : Bool × Bool × Bool) (I : Nat → Nat → Int32) (J : Nat → Nat → Int64) (x4 : Int32) (c1 c2 : Nat) (k : Nat) {v : Nat} (hv : v < 64) : am_in X (am_call X aP d) m_L_law_ (am_run X (am_call X aP d) m_L_law_ n) (k + 1) (m_L_law_.1.drop 24) [some (.ref 1000000), some (.ref 0), some (.ref 132), some (.ref 158), some (.int x4), none, none, none] [.int (nI v)] (c1, c2) (mkS w I J) = aR X d m_L_law_ n (lawRow v) [some (.ref 1000000), some (.ref 0), some (.ref 132), some (.ref 158), some (.int x4), none, none, none] (c1, c2) (mkS w I J) := by
  rw [f_law_s, swg_get _ _ _ _ _ (Nat.zero_le _) (by omega) (by decide), Nat.sub_zero]
  by_cases h : v < 36
  · match v, h with
    | 0, _ => exact (congrArg (fun z => nxt (am_run X (am_call X aP d) m_L_law_ n) (am_in X (am_call X aP d) m_L_law_ (am_run X (am_call X aP d) m_L_law_ n) k) z [some (.ref 1000000), some (.ref 0), some (.ref 132), some (.ref 158), some (.int x4), none, none, none] [] (c1, c2) (mkS w I J)) f_law_t0).trans (f_law_n0 X d n w I J x4 c1 c2 k)
    | 1, _ => exact (congrArg (fun z => nxt (am_run X (am_call X aP d) m_L_law_ n) (am_in X (am_call X aP d) m_L_law_ (am_run X (am_call X aP d) m_L_law_ n) k) z [some (.ref 1000000), some (.ref 0), some (.ref 132), some (.ref 158), some (.int x4), none, none, none] [] (c1, c2) (mkS w I J)) f_law_t1).trans (f_law_n1 X d n w I J x4 c1 c2 k)
    | 2, _ => exact (congrArg (fun z => nxt (am_run X (am_call X aP d) m_L_law_ n) (am_in X (am_call X aP d) m_L_law_ (am_run X (am_call X aP d) m_L_law_ n) k) z [some (.ref 1000000), some (.ref 0), some (.ref 132), some (.ref 158), some (.int x4), none, none, none] [] (c1, c2) (mkS w I J)) f_law_t2).trans (f_law_n2 X d n w I J x4 c1 c2 k)
    | 3, _ => exact (congrArg (fun z => nxt (am_run X (am_call X aP d) m_L_law_ n) (am_in X (am_call X aP d) m_L_law_ (am_run X (am_call X aP d) m_L_law_ n) k) z [some (.ref 1000000), some (.ref 0), some (.ref 132), some (.ref 158), some (.int x4), none, none, none] [] (c1, c2) (mkS w I J)) f_law_t3).trans (f_law_n3 X d n w I J x4 c1 c2 k)
    | 4, _ => exact (congrArg (fun z => nxt (am_run X (am_call X aP d) m_L_law_ n) (am_in X (am_call X aP d) m_L_law_ (am_run X (am_call X aP d) m_L_law_ n) k) z [some (.ref 1000000), some (.ref 0), some (.ref 132), some (.ref 158), some (.int x4), none, none, none] [] (c1, c2) (mkS w I J)) f_law_t4).trans (f_law_n4 X d n w I J x4 c1 c2 k)
    | 5, _ => exact (congrArg (fun z => nxt (am_run X (am_call X aP d) m_L_law_ n) (am_in X (am_call X aP d) m_L_law_ (am_run X (am_call X aP d) m_L_law_ n) k) z [some (.ref 1000000), some (.ref 0), some (.ref 132), some (.ref 158), some (.int x4), none, none, none] [] (c1, c2) (mkS w I J)) f_law_t5).trans (f_law_n5 X d n w I J x4 c1 c2 k)
    | 6, _ => exact (congrArg (fun z => nxt (am_run X (am_call X aP d) m_L_law_ n) (am_in X (am_call X aP d) m_L_law_ (am_run X (am_call X aP d) m_L_law_ n) k) z [some (.ref 1000000), some (.ref 0), some (.ref 132), some (.ref 158), some (.int x4), none, none, none] [] (c1, c2) (mkS w I J)) f_law_t6).trans (f_law_n6 X d n w I J x4 c1 c2 k)
    | 7, _ => exact (congrArg (fun z => nxt (am_run X (am_call X aP d) m_L_law_ n) (am_in X (am_call X aP d) m_L_law_ (am_run X (am_call X aP d) m_L_law_ n) k) z [some (.ref 1000000), some (.ref 0), some (.ref 132), some (.ref 158), some (.int x4), none, none, none] [] (c1, c2) (mkS w I J)) f_law_t7).trans (f_law_n7 X d n w I J x4 c1 c2 k)
    | 8, _ => exact (congrArg (fun z => nxt (am_run X (am_call X aP d) m_L_law_ n) (am_in X (am_call X aP d) m_L_law_ (am_run X (am_call X aP d) m_L_law_ n) k) z [some (.ref 1000000), some (.ref 0), some (.ref 132), some (.ref 158), some (.int x4), none, none, none] [] (c1, c2) (mkS w I J)) f_law_t8).trans (f_law_n8 X d n w I J x4 c1 c2 k)
    | 9, _ => exact (congrArg (fun z => nxt (am_run X (am_call X aP d) m_L_law_ n) (am_in X (am_call X aP d) m_L_law_ (am_run X (am_call X aP d) m_L_law_ n) k) z [some (.ref 1000000), some (.ref 0), some (.ref 132), some (.ref 158), some (.int x4), none, none, none] [] (c1, c2) (mkS w I J)) f_law_t9).trans (f_law_n9 X d n w I J x4 c1 c2 k)
    | 10, _ => exact (congrArg (fun z => nxt (am_run X (am_call X aP d) m_L_law_ n) (am_in X (am_call X aP d) m_L_law_ (am_run X (am_call X aP d) m_L_law_ n) k) z [some (.ref 1000000), some (.ref 0), some (.ref 132), some (.ref 158), some (.int x4), none, none, none] [] (c1, c2) (mkS w I J)) f_law_t10).trans (f_law_n10 X d n w I J x4 c1 c2 k)
    | 11, _ => exact (congrArg (fun z => nxt (am_run X (am_call X aP d) m_L_law_ n) (am_in X (am_call X aP d) m_L_law_ (am_run X (am_call X aP d) m_L_law_ n) k) z [some (.ref 1000000), some (.ref 0), some (.ref 132), some (.ref 158), some (.int x4), none, none, none] [] (c1, c2) (mkS w I J)) f_law_t11).trans (f_law_n11 X d n w I J x4 c1 c2 k)
    | 12, _ => exact (congrArg (fun z => nxt (am_run X (am_call X aP d) m_L_law_ n) (am_in X (am_call X aP d) m_L_law_ (am_run X (am_call X aP d) m_L_law_ n) k) z [some (.ref 1000000), some (.ref 0), some (.ref 132), some (.ref 158), some (.int x4), none, none, none] [] (c1, c2) (mkS w I J)) f_law_t12).trans (f_law_n12 X d n w I J x4 c1 c2 k)
    | 13, _ => exact (congrArg (fun z => nxt (am_run X (am_call X aP d) m_L_law_ n) (am_in X (am_call X aP d) m_L_law_ (am_run X (am_call X aP d) m_L_law_ n) k) z [some (.ref 1000000), some (.ref 0), some (.ref 132), some (.ref 158), some (.int x4), none, none, none] [] (c1, c2) (mkS w I J)) f_law_t13).trans (f_law_n13 X d n w I J x4 c1 c2 k)
    | 14, _ => exact (congrArg (fun z => nxt (am_run X (am_call X aP d) m_L_law_ n) (am_in X (am_call X aP d) m_L_law_ (am_run X (am_call X aP d) m_L_law_ n) k) z [some (.ref 1000000), some (.ref 0), some (.ref 132), some (.ref 158), some (.int x4), none, none, none] [] (c1, c2) (mkS w I J)) f_law_t14).trans (f_law_n14 X d n w I J x4 c1 c2 k)
    | 15, _ => exact (congrArg (fun z => nxt (am_run X (am_call X aP d) m_L_law_ n) (am_in X (am_call X aP d) m_L_law_ (am_run X (am_call X aP d) m_L_law_ n) k) z [some (.ref 1000000), some (.ref 0), some (.ref 132), some (.ref 158), some (.int x4), none, none, none] [] (c1, c2) (mkS w I J)) f_law_t15).trans (f_law_n15 X d n w I J x4 c1 c2 k)
    | 16, _ => exact (congrArg (fun z => nxt (am_run X (am_call X aP d) m_L_law_ n) (am_in X (am_call X aP d) m_L_law_ (am_run X (am_call X aP d) m_L_law_ n) k) z [some (.ref 1000000), some (.ref 0), some (.ref 132), some (.ref 158), some (.int x4), none, none, none] [] (c1, c2) (mkS w I J)) f_law_t16).trans (f_law_n16 X d n w I J x4 c1 c2 k)
    | 17, _ => exact (congrArg (fun z => nxt (am_run X (am_call X aP d) m_L_law_ n) (am_in X (am_call X aP d) m_L_law_ (am_run X (am_call X aP d) m_L_law_ n) k) z [some (.ref 1000000), some (.ref 0), some (.ref 132), some (.ref 158), some (.int x4), none, none, none] [] (c1, c2) (mkS w I J)) f_law_t17).trans (f_law_n17 X d n w I J x4 c1 c2 k)
    | 18, _ => exact (congrArg (fun z => nxt (am_run X (am_call X aP d) m_L_law_ n) (am_in X (am_call X aP d) m_L_law_ (am_run X (am_call X aP d) m_L_law_ n) k) z [some (.ref 1000000), some (.ref 0), some (.ref 132), some (.ref 158), some (.int x4), none, none, none] [] (c1, c2) (mkS w I J)) f_law_t18).trans (f_law_n18 X d n w I J x4 c1 c2 k)
    | 19, _ => exact (congrArg (fun z => nxt (am_run X (am_call X aP d) m_L_law_ n) (am_in X (am_call X aP d) m_L_law_ (am_run X (am_call X aP d) m_L_law_ n) k) z [some (.ref 1000000), some (.ref 0), some (.ref 132), some (.ref 158), some (.int x4), none, none, none] [] (c1, c2) (mkS w I J)) f_law_t19).trans (f_law_n19 X d n w I J x4 c1 c2 k)
    | 20, _ => exact (congrArg (fun z => nxt (am_run X (am_call X aP d) m_L_law_ n) (am_in X (am_call X aP d) m_L_law_ (am_run X (am_call X aP d) m_L_law_ n) k) z [some (.ref 1000000), some (.ref 0), some (.ref 132), some (.ref 158), some (.int x4), none, none, none] [] (c1, c2) (mkS w I J)) f_law_t20).trans (f_law_n20 X d n w I J x4 c1 c2 k)
    | 21, _ => exact (congrArg (fun z => nxt (am_run X (am_call X aP d) m_L_law_ n) (am_in X (am_call X aP d) m_L_law_ (am_run X (am_call X aP d) m_L_law_ n) k) z [some (.ref 1000000), some (.ref 0), some (.ref 132), some (.ref 158), some (.int x4), none, none, none] [] (c1, c2) (mkS w I J)) f_law_t21).trans (f_law_n21 X d n w I J x4 c1 c2 k)
    | 22, _ => exact (congrArg (fun z => nxt (am_run X (am_call X aP d) m_L_law_ n) (am_in X (am_call X aP d) m_L_law_ (am_run X (am_call X aP d) m_L_law_ n) k) z [some (.ref 1000000), some (.ref 0), some (.ref 132), some (.ref 158), some (.int x4), none, none, none] [] (c1, c2) (mkS w I J)) f_law_t22).trans (f_law_n22 X d n w I J x4 c1 c2 k)
    | 23, _ => exact (congrArg (fun z => nxt (am_run X (am_call X aP d) m_L_law_ n) (am_in X (am_call X aP d) m_L_law_ (am_run X (am_call X aP d) m_L_law_ n) k) z [some (.ref 1000000), some (.ref 0), some (.ref 132), some (.ref 158), some (.int x4), none, none, none] [] (c1, c2) (mkS w I J)) f_law_t23).trans (f_law_n23 X d n w I J x4 c1 c2 k)
    | 24, _ => exact (congrArg (fun z => nxt (am_run X (am_call X aP d) m_L_law_ n) (am_in X (am_call X aP d) m_L_law_ (am_run X (am_call X aP d) m_L_law_ n) k) z [some (.ref 1000000), some (.ref 0), some (.ref 132), some (.ref 158), some (.int x4), none, none, none] [] (c1, c2) (mkS w I J)) f_law_t24).trans (f_law_n24 X d n w I J x4 c1 c2 k)
    | 25, _ => exact (congrArg (fun z => nxt (am_run X (am_call X aP d) m_L_law_ n) (am_in X (am_call X aP d) m_L_law_ (am_run X (am_call X aP d) m_L_law_ n) k) z [some (.ref 1000000), some (.ref 0), some (.ref 132), some (.ref 158), some (.int x4), none, none, none] [] (c1, c2) (mkS w I J)) f_law_t25).trans (f_law_n25 X d n w I J x4 c1 c2 k)
    | 26, _ => exact (congrArg (fun z => nxt (am_run X (am_call X aP d) m_L_law_ n) (am_in X (am_call X aP d) m_L_law_ (am_run X (am_call X aP d) m_L_law_ n) k) z [some (.ref 1000000), some (.ref 0), some (.ref 132), some (.ref 158), some (.int x4), none, none, none] [] (c1, c2) (mkS w I J)) f_law_t26).trans (f_law_n26 X d n w I J x4 c1 c2 k)
    | 27, _ => exact (congrArg (fun z => nxt (am_run X (am_call X aP d) m_L_law_ n) (am_in X (am_call X aP d) m_L_law_ (am_run X (am_call X aP d) m_L_law_ n) k) z [some (.ref 1000000), some (.ref 0), some (.ref 132), some (.ref 158), some (.int x4), none, none, none] [] (c1, c2) (mkS w I J)) f_law_t27).trans (f_law_n27 X d n w I J x4 c1 c2 k)
    | 28, _ => exact (congrArg (fun z => nxt (am_run X (am_call X aP d) m_L_law_ n) (am_in X (am_call X aP d) m_L_law_ (am_run X (am_call X aP d) m_L_law_ n) k) z [some (.ref 1000000), some (.ref 0), some (.ref 132), some (.ref 158), some (.int x4), none, none, none] [] (c1, c2) (mkS w I J)) f_law_t28).trans (f_law_n28 X d n w I J x4 c1 c2 k)
    | 29, _ => exact (congrArg (fun z => nxt (am_run X (am_call X aP d) m_L_law_ n) (am_in X (am_call X aP d) m_L_law_ (am_run X (am_call X aP d) m_L_law_ n) k) z [some (.ref 1000000), some (.ref 0), some (.ref 132), some (.ref 158), some (.int x4), none, none, none] [] (c1, c2) (mkS w I J)) f_law_t29).trans (f_law_n29 X d n w I J x4 c1 c2 k)
    | 30, _ => exact (congrArg (fun z => nxt (am_run X (am_call X aP d) m_L_law_ n) (am_in X (am_call X aP d) m_L_law_ (am_run X (am_call X aP d) m_L_law_ n) k) z [some (.ref 1000000), some (.ref 0), some (.ref 132), some (.ref 158), some (.int x4), none, none, none] [] (c1, c2) (mkS w I J)) f_law_t30).trans (f_law_n30 X d n w I J x4 c1 c2 k)
    | 31, _ => exact (congrArg (fun z => nxt (am_run X (am_call X aP d) m_L_law_ n) (am_in X (am_call X aP d) m_L_law_ (am_run X (am_call X aP d) m_L_law_ n) k) z [some (.ref 1000000), some (.ref 0), some (.ref 132), some (.ref 158), some (.int x4), none, none, none] [] (c1, c2) (mkS w I J)) f_law_t31).trans (f_law_n31 X d n w I J x4 c1 c2 k)
    | 32, _ => exact (congrArg (fun z => nxt (am_run X (am_call X aP d) m_L_law_ n) (am_in X (am_call X aP d) m_L_law_ (am_run X (am_call X aP d) m_L_law_ n) k) z [some (.ref 1000000), some (.ref 0), some (.ref 132), some (.ref 158), some (.int x4), none, none, none] [] (c1, c2) (mkS w I J)) f_law_t32).trans (f_law_n32 X d n w I J x4 c1 c2 k)
    | 33, _ => exact (congrArg (fun z => nxt (am_run X (am_call X aP d) m_L_law_ n) (am_in X (am_call X aP d) m_L_law_ (am_run X (am_call X aP d) m_L_law_ n) k) z [some (.ref 1000000), some (.ref 0), some (.ref 132), some (.ref 158), some (.int x4), none, none, none] [] (c1, c2) (mkS w I J)) f_law_t33).trans (f_law_n33 X d n w I J x4 c1 c2 k)
    | 34, _ => exact (congrArg (fun z => nxt (am_run X (am_call X aP d) m_L_law_ n) (am_in X (am_call X aP d) m_L_law_ (am_run X (am_call X aP d) m_L_law_ n) k) z [some (.ref 1000000), some (.ref 0), some (.ref 132), some (.ref 158), some (.int x4), none, none, none] [] (c1, c2) (mkS w I J)) f_law_t34).trans (f_law_n34 X d n w I J x4 c1 c2 k)
    | 35, _ => exact (congrArg (fun z => nxt (am_run X (am_call X aP d) m_L_law_ n) (am_in X (am_call X aP d) m_L_law_ (am_run X (am_call X aP d) m_L_law_ n) k) z [some (.ref 1000000), some (.ref 0), some (.ref 132), some (.ref 158), some (.int x4), none, none, none] [] (c1, c2) (mkS w I J)) f_law_t35).trans (f_law_n35 X d n w I J x4 c1 c2 k)
    | q + 36, hq => exact absurd hq (by omega)
  · have e1 : ([200, 273, 329, 385, 441, 497, 510, 523, 579, 647, 715, 783, 929, 997, 1077, 1169, 1261, 1341, 1397, 1460, 1540, 1596, 1652, 1708, 1776, 1856, 1947, 2027, 2083, 2139, 2207, 2299, 2417, 2430, 2443, 2468] : List Nat).getD v 2493 = 2493 := by
      rw [List.getD_eq_getElem?_getD, List.getElem?_eq_none (by show 36 ≤ v; omega)]
      rfl
    have e2 : lawRow v = 1561 := by
      unfold lawRow
      rw [List.getD_eq_getElem?_getD, List.getElem?_eq_none (by show 36 ≤ v; omega)]
      rfl
    rw [e1, e2]
    exact (congrArg (fun z => nxt (am_run X (am_call X aP d) m_L_law_ n) (am_in X (am_call X aP d) m_L_law_ (am_run X (am_call X aP d) m_L_law_ n) k) z [some (.ref 1000000), some (.ref 0), some (.ref 132), some (.ref 158), some (.int x4), none, none, none] [] (c1, c2) (mkS w I J)) f_law_t36).trans (f_law_n36 X d n w I J x4 c1 c2 k)
theorem e_L_law__13 (X : Nat × (Nat → Int32)) (d n : Nat) (w : Bool × Bool × Bool) (I : Nat → Nat → Int32) (J : Nat → Nat → Int64) (x4 : Int32) (c1 c2 : Nat) {v : Nat} (hv : v < 64) (hx : ((X.2 x4.toNatClampNeg) &&& (nI 63)) = nI v) : aR X d m_L_law_ (n + 1) 13 [some (.ref 1000000), some (.ref 0), some (.ref 132), some (.ref 158), some (.int x4), none, none, none] (c1, c2) (mkS w I J) =
  if ((nI X.1) - (nI 9)) < x4 then (rI (nI 1) (mkS w I J)) else if x4 < 0 ∨ X.1 ≤ x4.toNatClampNeg then none else aR X d m_L_law_ n (lawRow v) [some (.ref 1000000), some (.ref 0), some (.ref 132), some (.ref 158), some (.int x4), none, none, none] (c1, c2) (mkS w I J) := by
  show am_in X (am_call X aP d) m_L_law_ (am_run X (am_call X aP d) m_L_law_ n) (370 + 30) (m_L_law_.1.drop 13) [some (.ref 1000000), some (.ref 0), some (.ref 132), some (.ref 158), some (.int x4), none, none, none] [] (c1, c2) (mkS w I J) = _
  rw [f_law_a, hx, f_law_sw X d n w I J x4 c1 c2 388 hv]
