/-! WHERE THE LAW STARTS -/
noncomputable def nwL : List Cond := flatC (Jvm.Cond.and given_1 narrow_1)
noncomputable def pickN (ps : List Nat) : List Cond := ps.filterMap (fun i => nwL[i]?)
theorem pickN_in {ws : List Cond} {ps : List Nat} (h : ws = pickN ps) : ∀ w ∈ ws, w ∈ nwL := by
  intro w hw
  rw [h] at hw
  obtain ⟨i, -, hi⟩ := List.mem_filterMap.mp hw
  exact List.mem_of_getElem? hi
/-- what is given of a text -/
def litW (own : String) (ix k : Nat) : List Cond := [Cond.exactly (.string own ix) "java/lang/String", Cond.eq (.field (.string own ix) "java/lang/String" "coder" "B") (.int 0), Cond.arrayOf (.field (.string own ix) "java/lang/String" "value" "[B") .byte, Cond.eq (.length (.field (.string own ix) "java/lang/String" "value" "[B")) (.int (Int32.ofNat (aStr k).length))] ++ (List.range (aStr k).length).map (fun j => Cond.eq (.elem (.field (.string own ix) "java/lang/String" "value" "[B") (.int (Int32.ofNat j))) (.int (nI ((aStr k).getD j 0))))
def repT : List (Nat × Nat) := [(1, 54), (1, 63), (1, 68), (2, 71), (2, 80), (2, 89), (2, 91), (2, 93), (2, 95), (2, 97), (2, 99), (2, 101), (5, 61), (5, 79), (5, 94), (5, 98), (8, 373), (8, 380)]
set_option maxRecDepth 100000 in
theorem lit_in0 : ∀ w ∈ litW (ownN 1) 54 0, w ∈ nwL := pickN_in (ps := [61, 62, 63, 64, 65, 66, 67, 68]) (by decide +kernel)
set_option maxRecDepth 100000 in
theorem lit_in1 : ∀ w ∈ litW (ownN 1) 63 1, w ∈ nwL := pickN_in (ps := [69, 70, 71, 72, 73, 74, 75, 76]) (by decide +kernel)
set_option maxRecDepth 100000 in
theorem lit_in2 : ∀ w ∈ litW (ownN 1) 68 2, w ∈ nwL := pickN_in (ps := [77, 78, 79, 80, 81, 82, 83, 84, 85, 86]) (by decide +kernel)
set_option maxRecDepth 100000 in
theorem lit_in3 : ∀ w ∈ litW (ownN 2) 71 3, w ∈ nwL := pickN_in (ps := [87, 88, 89, 90, 91, 92, 93, 94, 95]) (by decide +kernel)
set_option maxRecDepth 100000 in
theorem lit_in4 : ∀ w ∈ litW (ownN 2) 80 4, w ∈ nwL := pickN_in (ps := [96, 97, 98, 99, 100, 101, 102, 103]) (by decide +kernel)
set_option maxRecDepth 100000 in
theorem lit_in5 : ∀ w ∈ litW (ownN 2) 89 5, w ∈ nwL := pickN_in (ps := [104, 105, 106, 107, 108, 109, 110, 111, 112, 113]) (by decide +kernel)
set_option maxRecDepth 100000 in
theorem lit_in6 : ∀ w ∈ litW (ownN 2) 91 6, w ∈ nwL := pickN_in (ps := [114, 115, 116, 117, 118, 119, 120, 121, 122]) (by decide +kernel)
set_option maxRecDepth 100000 in
theorem lit_in7 : ∀ w ∈ litW (ownN 2) 93 7, w ∈ nwL := pickN_in (ps := [123, 124, 125, 126, 127, 128, 129, 130]) (by decide +kernel)
set_option maxRecDepth 100000 in
theorem lit_in8 : ∀ w ∈ litW (ownN 2) 95 8, w ∈ nwL := pickN_in (ps := [131, 132, 133, 134, 135, 136, 137, 138]) (by decide +kernel)
set_option maxRecDepth 100000 in
theorem lit_in9 : ∀ w ∈ litW (ownN 2) 97 9, w ∈ nwL := pickN_in (ps := [139, 140, 141, 142, 143, 144, 145, 146]) (by decide +kernel)
set_option maxRecDepth 100000 in
theorem lit_in10 : ∀ w ∈ litW (ownN 2) 99 10, w ∈ nwL := pickN_in (ps := [147, 148, 149, 150, 151, 152, 153]) (by decide +kernel)
set_option maxRecDepth 100000 in
theorem lit_in11 : ∀ w ∈ litW (ownN 2) 101 11, w ∈ nwL := pickN_in (ps := [154, 155, 156, 157, 158, 159, 160, 161]) (by decide +kernel)
set_option maxRecDepth 100000 in
theorem lit_in12 : ∀ w ∈ litW (ownN 5) 61 12, w ∈ nwL := pickN_in (ps := [171, 172, 173, 174, 175, 176, 177]) (by decide +kernel)
set_option maxRecDepth 100000 in
theorem lit_in13 : ∀ w ∈ litW (ownN 5) 79 13, w ∈ nwL := pickN_in (ps := [178, 179, 180, 181, 182, 183, 184, 185]) (by decide +kernel)
set_option maxRecDepth 100000 in
theorem lit_in14 : ∀ w ∈ litW (ownN 5) 94 14, w ∈ nwL := pickN_in (ps := [195, 196, 197, 198, 199, 200, 201]) (by decide +kernel)
set_option maxRecDepth 100000 in
theorem lit_in15 : ∀ w ∈ litW (ownN 5) 98 15, w ∈ nwL := pickN_in (ps := [211, 212, 213, 214, 215, 216, 217, 218, 219]) (by decide +kernel)
set_option maxRecDepth 100000 in
theorem lit_in16 : ∀ w ∈ litW (ownN 8) 373 16, w ∈ nwL := pickN_in (ps := [33, 34, 35, 36, 37, 38, 39, 40, 41, 42, 43, 44, 45, 46, 47, 48, 49, 50, 51, 52, 53, 54, 55, 56, 57, 58, 59, 60]) (by decide +kernel)
set_option maxRecDepth 100000 in
theorem lit_in17 : ∀ w ∈ litW (ownN 8) 380 17, w ∈ nwL := pickN_in (ps := [220, 221, 222, 223, 224, 225, 226, 227, 228, 229, 230, 231, 232, 233, 234, 235, 236, 237, 238, 239, 240, 241]) (by decide +kernel)
theorem lit_in : ∀ k, k < 18 → ∀ w ∈ litW (ownN (repT.getD k (0, 0)).1) (repT.getD k (0, 0)).2 k, w ∈ nwL
  | 0, _ => lit_in0
  | 1, _ => lit_in1
  | 2, _ => lit_in2
  | 3, _ => lit_in3
  | 4, _ => lit_in4
  | 5, _ => lit_in5
  | 6, _ => lit_in6
  | 7, _ => lit_in7
  | 8, _ => lit_in8
  | 9, _ => lit_in9
  | 10, _ => lit_in10
  | 11, _ => lit_in11
  | 12, _ => lit_in12
  | 13, _ => lit_in13
  | 14, _ => lit_in14
  | 15, _ => lit_in15
  | 16, _ => lit_in16
  | 17, _ => lit_in17
  | k + 18, h => by omega
def othT : List (Nat × Nat × Nat) := [(2, 103, 1), (5, 92, 7), (5, 96, 9), (9, 182, 0), (9, 188, 1), (9, 189, 2), (9, 251, 5), (9, 252, 6), (9, 254, 7), (9, 256, 8), (9, 258, 9), (9, 260, 10), (9, 262, 11), (9, 264, 3), (9, 269, 4), (9, 284, 12), (9, 286, 13), (9, 288, 14), (9, 290, 15)]
set_option maxRecDepth 100000 in
theorem oth_in : ∀ w ∈ othT.map (fun t => Cond.eq (.string (ownN (repT.getD t.2.2 (0, 0)).1) (repT.getD t.2.2 (0, 0)).2) (.string (ownN t.1) t.2.1)), w ∈ nwL := pickN_in (ps := [170, 194, 210, 250, 259, 271, 301, 311, 320, 330, 339, 348, 357, 281, 290, 365, 374, 382, 392]) (by decide +kernel)
theorem strT_all : ∀ t ∈ strT, t ∈ othT ∨ (t.2.2 < 18 ∧ (t.1, t.2.1) = repT.getD t.2.2 (0, 0)) := by decide +kernel
def txT : List String := ["town", "road", "carter", "least", "most", "length", "tired", "load", "many", "hour", "day", "week", "set", "turn", "off", "again", "an argument is none such", "there is none such"]
set_option maxRecDepth 100000 in
theorem sref_in : ∀ w ∈ strT.map (fun t => Cond.stringRef (ownN t.1) t.2.1 (txT.getD t.2.2 "")), w ∈ lw_tbl := pick_in (ps := [645, 709, 732, 802, 808, 812, 813, 814, 815, 816, 817, 818, 819, 843, 854, 855, 856, 857, 858, 598, 1013, 1557, 1563, 1564, 1638, 1639, 1640, 1641, 1642, 1643, 1644, 1628, 1633, 1656, 1657, 1658, 1659]) (by decide +kernel)
theorem startW_in : ∀ w ∈ ([Cond.laysStatic "java/lang/Throwable" "UNASSIGNED_STACK" "[Ljava/lang/StackTraceElement;", Cond.laysStatic "java/lang/Throwable" "SUPPRESSED_SENTINEL" "Ljava/util/List;", Cond.laysStatic "java/lang/String" "COMPACT_STRINGS" "Z", Cond.laysStatic "jdk/internal/util/Preconditions" "SIOOBE_FORMATTER" "Ljava/util/function/BiFunction;", Cond.initialized "java/lang/Throwable", Cond.initialized "java/lang/String", Cond.initialized "jdk/internal/util/Preconditions", Cond.arrayOver (.array .int)] : List Cond), w ∈ lw_tbl := pick_in (ps := [585, 587, 662, 678, 120, 124, 126, 271]) (by decide +kernel)
theorem startN_in : ∀ w ∈ ([Cond.isRef (.static "java/lang/Throwable" "UNASSIGNED_STACK" "[Ljava/lang/StackTraceElement;"), Cond.isRef (.static "java/lang/Throwable" "SUPPRESSED_SENTINEL" "Ljava/util/List;"), Cond.eq (.static "java/lang/String" "COMPACT_STRINGS" "Z") (.int 1), Cond.isRef (.static "jdk/internal/util/Preconditions" "SIOOBE_FORMATTER" "Ljava/util/function/BiFunction;"), Cond.not (.castable (exN 1) (exN 2)), Cond.not (.castable (exN 2) (exN 1))] : List Cond), w ∈ nwL := pickN_in (ps := [4, 5, 6, 7, 21, 32]) (by decide +kernel)
set_option maxRecDepth 100000 in
theorem exNw_in : ∀ w ∈ exNw, w ∈ lw_tbl := pick_in (ps := [1006, 560, 562, 564, 566, 141, 180, 213, 266, 292, 318, 398]) (by decide +kernel)
theorem lit_one {args : Array Value} {s : State} {own : String} {ix k : Nat} {A : Nat → Prop} (hk : k < 18) (hw : ∀ w ∈ litW own ix k, w.before args s = true) (hA : ∀ a : Nat, a < s.heap.size → ¬ A a) : ∃ q : Nat × Nat, (Term.string own ix).eval args s none [] s = some (.ref q.1) ∧ va_O "java/lang/String" q.1 A s s.heap ∧ va_OF "java/lang/String" "coder" "B" (.int 0) q.1 A s s.heap ∧ va_OF "java/lang/String" "value" "[B" (.ref q.2) q.1 A s s.heap ∧ va_T .byte q.2 (aStr k).length (fun j => .int (nI ((aStr k).getD j 0))) A s s.heap := by
  have hlen := aStr_len k hk
  have h0 : ∀ w ∈ ([Cond.exactly (.string own ix) "java/lang/String", Cond.eq (.field (.string own ix) "java/lang/String" "coder" "B") (.int 0), Cond.arrayOf (.field (.string own ix) "java/lang/String" "value" "[B") .byte, Cond.eq (.length (.field (.string own ix) "java/lang/String" "value" "[B")) (.int (Int32.ofNat (aStr k).length))] : List Cond), w.before args s = true := fun w h => hw w (List.mem_append_left _ h)
  obtain ⟨a, c, cA, kA, q1, q2, q3, q4, q5, q6, -⟩ := Cond.exactly_spec (args := args) (first := s) (o := none) (s := s) (idx := []) (t := .string own ix) (cls := "java/lang/String") (h0 _ (List.mem_of_getElem? (i := 0) rfl))
  obtain ⟨t, ht, hT⟩ := va_Tof (f := fun j => .int (nI ((aStr k).getD j 0))) (A := A) (N := (aStr k).length) (by omega) (h0 _ (List.mem_of_getElem? (i := 2) rfl)) (va_eqt (h0 _ (List.mem_of_getElem? (i := 3) rfl))) (fun j hj => va_eqt (hw _ (List.mem_append_right _ (List.mem_map.mpr ⟨j, List.mem_range.mpr hj, rfl⟩)))) hA
  exact ⟨(a, t), q1, ⟨cA, q3, q5, by rw [q6]; exact q2, hA a (Array.getElem?_eq_some_iff.mp q3).1⟩, vk_OFof q1 (va_eqt (h0 _ (List.mem_of_getElem? (i := 1) rfl))) hA, vk_OFof q1 ht hA, hT⟩
theorem ex_start {args : Array Value} {s : State} {b L : Nat} {xs : Nat → Int32} {A : Nat → Prop} (hts : ∀ w ∈ lw_tbl, w.before args s = true) (hgv : (Jvm.Cond.and given_1 narrow_1).before args s = true) (hX : va_X b L xs s s.heap) (hbl : b < s.heap.size) (hL : L ≤ 4608) (hA : ∀ a : Nat, a < s.heap.size → ¬ A a) : ∃ ad : Nat → Nat, ad 1000000 = b ∧ exX (L, xs) ad A s s.heap := by
  have hnw : ∀ w ∈ nwL, w.before args s = true := flat_of_before _ hgv
  have h0 : ∀ k : Nat, ∃ q : Nat × Nat, k < 18 → (Term.string (ownN (repT.getD k (0, 0)).1) (repT.getD k (0, 0)).2).eval args s none [] s = some (.ref q.1) ∧ va_O "java/lang/String" q.1 A s s.heap ∧ va_OF "java/lang/String" "coder" "B" (.int 0) q.1 A s s.heap ∧ va_OF "java/lang/String" "value" "[B" (.ref q.2) q.1 A s s.heap ∧ va_T .byte q.2 (aStr k).length (fun j => .int (nI ((aStr k).getD j 0))) A s s.heap := by
    intro k
    by_cases hk : k < 18
    · obtain ⟨q, hq⟩ := lit_one (args := args) (s := s) hk (fun w hw => hnw w (lit_in k hk w hw)) hA
      exact ⟨q, fun _ => hq⟩
    · exact ⟨(0, 0), fun h => absurd h hk⟩
  obtain ⟨f, hf⟩ := Classical.axiomOfChoice h0
  have e0 : (fun i : Nat => if i = 1000000 then b else (f (i - 2000000)).1) 1000000 = b := if_pos rfl
  have e1 : ∀ k : Nat, (fun i : Nat => if i = 1000000 then b else (f (i - 2000000)).1) (2000000 + k) = (f k).1 := fun k => by
    show (if 2000000 + k = 1000000 then b else (f (2000000 + k - 2000000)).1) = _
    rw [if_neg (by omega), show 2000000 + k - 2000000 = k by omega]
  generalize (fun i : Nat => if i = 1000000 then b else (f (i - 2000000)).1) = ad at e0 e1
  have wl : ∀ w ∈ ([Cond.laysStatic "java/lang/Throwable" "UNASSIGNED_STACK" "[Ljava/lang/StackTraceElement;", Cond.laysStatic "java/lang/Throwable" "SUPPRESSED_SENTINEL" "Ljava/util/List;", Cond.laysStatic "java/lang/String" "COMPACT_STRINGS" "Z", Cond.laysStatic "jdk/internal/util/Preconditions" "SIOOBE_FORMATTER" "Ljava/util/function/BiFunction;", Cond.initialized "java/lang/Throwable", Cond.initialized "java/lang/String", Cond.initialized "jdk/internal/util/Preconditions", Cond.arrayOver (.array .int)] : List Cond), w.before args s = true := fun w h => hts w (startW_in w h)
  have wn : ∀ w ∈ ([Cond.isRef (.static "java/lang/Throwable" "UNASSIGNED_STACK" "[Ljava/lang/StackTraceElement;"), Cond.isRef (.static "java/lang/Throwable" "SUPPRESSED_SENTINEL" "Ljava/util/List;"), Cond.eq (.static "java/lang/String" "COMPACT_STRINGS" "Z") (.int 1), Cond.isRef (.static "jdk/internal/util/Preconditions" "SIOOBE_FORMATTER" "Ljava/util/function/BiFunction;"), Cond.not (.castable (exN 1) (exN 2)), Cond.not (.castable (exN 2) (exN 1))] : List Cond), w.before args s = true := fun w h => hnw w (startN_in w h)
  have ev : ∀ t ∈ strT, (Term.string (ownN t.1) t.2.1).eval args s none [] s = some (.ref (ad (2000000 + t.2.2))) ∧ t.2.2 < 18 := by
    intro t ht
    rcases strT_all t ht with h | ⟨h1, h2⟩
    · have hk : t.2.2 < 18 := (show ∀ t ∈ othT, t.2.2 < 18 by decide) t h
      have hw := hnw _ (oth_in _ (List.mem_map.mpr ⟨t, h, rfl⟩))
      obtain ⟨y, h3, h4⟩ := Cond.eq_one (show (Cond.eq (.string (ownN (repT.getD t.2.2 (0, 0)).1) (repT.getD t.2.2 (0, 0)).2) (.string (ownN t.1) t.2.1)).holds args s none s [] = true from hw)
      have h5 := (hf t.2.2 hk).1
      rw [h5] at h3
      rw [e1]
      exact ⟨h4.trans h3.symm, hk⟩
    · refine ⟨?_, h1⟩
      have h5 := (hf t.2.2 h1).1
      rw [← h2] at h5
      rw [e1]
      exact h5
  refine ⟨ad, e0, ⟨by rw [e0]; exact hX, hL, by rw [e0]; exact hA b hbl⟩, fun t ht => ⟨txT.getD t.2.2 "", vk_R.of (hts _ (sref_in _ (List.mem_map.mpr ⟨t, ht, rfl⟩))) (ev t ht).1⟩, fun k hk => ?_, vx_Zqof (wl _ (List.mem_of_getElem? (i := 0) rfl)) (wl _ (List.mem_of_getElem? (i := 4) rfl)) (wn _ (List.mem_of_getElem? (i := 0) rfl)) hA, vx_Zqof (wl _ (List.mem_of_getElem? (i := 1) rfl)) (wl _ (List.mem_of_getElem? (i := 4) rfl)) (wn _ (List.mem_of_getElem? (i := 1) rfl)) hA, va_Zof (wl _ (List.mem_of_getElem? (i := 2) rfl)) (wl _ (List.mem_of_getElem? (i := 5) rfl)) (va_eqt (wn _ (List.mem_of_getElem? (i := 2) rfl))) hA, va_Zqof (wl _ (List.mem_of_getElem? (i := 3) rfl)) (wl _ (List.mem_of_getElem? (i := 6) rfl)) (wn _ (List.mem_of_getElem? (i := 3) rfl)) hA, fun w hw => va_Nw.of (exNw_tab w hw) (hts w (exNw_in w hw)), va_Nc.of (wn _ (List.mem_of_getElem? (i := 4) rfl)), va_Nc.of (wn _ (List.mem_of_getElem? (i := 5) rfl)), va_AOA.of (wl _ (List.mem_of_getElem? (i := 7) rfl))⟩
  obtain ⟨h1, h2, h3, h4, h5⟩ := hf k hk
  unfold exS
  rw [e1]
  exact ⟨h2, h3, (f k).2, h4, h5⟩
theorem kn_start {args : Array Value} {s : State} (hts : ∀ w ∈ lw_tbl, w.before args s = true) : ∃ (D : va_G) (cy : Nat → ClassId), va_K D clL (tysL cy) s := by
  have h0 : ∀ c : Nat, ∃ q : ClassId × (Nat → Nat), c < 10 → u_Kn s (cC c) (cT c) (cN c) q.1 q.2 := by
    intro c
    by_cases hc : c < 10
    · obtain ⟨a, i, h⟩ := u_known (C := cC c) (T := cT c) (N := cN c) (n := cN c) hts (fun w hw => (List.mem_filter.mp (lay_in c hc w hw)).1) (hts _ (ins_in _ (List.mem_map.mpr ⟨c, List.mem_range.mpr hc, rfl⟩)))
      exact ⟨(a, i), fun _ => h⟩
    · exact ⟨(0, fun _ => 0), fun h => absurd h hc⟩
  obtain ⟨f, hf⟩ := Classical.axiomOfChoice h0
  obtain ⟨c0, k0, p0, a0, a1, a2⟩ := Cond.arrayClass_spec (type := .int) (show (Cond.arrayClass .int).holds args s none s [] = true from hts _ (acwW_in _ (List.mem_of_getElem? (i := 3) rfl)))
  obtain ⟨c1, k1, p1, b0, b1, b2⟩ := Cond.arrayClass_spec (type := .long) (show (Cond.arrayClass .long).holds args s none s [] = true from hts _ (acwW_in _ (List.mem_of_getElem? (i := 4) rfl)))
  obtain ⟨p2, c2, k2, d0, d1, d2, d3, d4⟩ := arrayOver_specB (t := .int) (show (Cond.arrayOver (.array .int)).holds args s none s [] = true from hts _ (startW_in _ (List.mem_of_getElem? (i := 7) rfl)))
  refine ⟨(fun c => (f c).1, fun c => (f c).2), fun i => if i = 0 then c0 else if i = 1 then c1 else c2, fun c q hq => ?_, fun k q hq => ?_⟩
  · have hc : c < 10 := by
      have := (List.getElem?_eq_some_iff.mp hq).1
      exact this
    rw [clL_at c hc] at hq
    cases hq
    exact hf c hc
  · match k, hq with
    | 0, hq => cases hq; exact ⟨fun n z => ⟨(fun q hq => by cases hq), k0, a1, p0, a2⟩, a0⟩
    | 1, hq => cases hq; exact ⟨fun n z => ⟨(fun q hq => by cases hq), k1, b1, p1, b2⟩, b0⟩
    | 2, hq => cases hq; exact ⟨fun n z => ⟨(fun q hq => by cases hq), k2, d2, p2, d3⟩, d4⟩
    | k + 3, hq => simp at hq
/-- nothing is made yet -/
def st00 : aSt := (0, fun _ _ => 0, fun _ _ => 0, fun _ _ => none)
