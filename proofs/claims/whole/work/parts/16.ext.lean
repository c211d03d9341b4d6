/-! WHAT LIES OUTSIDE THE WORLD: the script, the texts, a few statics, words that are no good ones; and how it goes along -/
def exS (ad : Nat → Nat) (A : Nat → Prop) (U : State) (H : Heap) (k : Nat) : Prop :=
  va_O "java/lang/String" (ad (2000000 + k)) A U H ∧ va_OF "java/lang/String" "coder" "B" (.int 0) (ad (2000000 + k)) A U H ∧ ∃ v : Nat, va_OF "java/lang/String" "value" "[B" (.ref v) (ad (2000000 + k)) A U H ∧ va_T .byte v (aStr k).length (fun j => .int (nI ((aStr k).getD j 0))) A U H
def exDe : List MethodName := [Bundle.initS "java/lang/RuntimeException", Bundle.initS "java/lang/Exception", Bundle.initS Bundle.tN]
noncomputable def exNw : List Cond := [.castable (exN 1) (exN 1), .castable (exN 2) (exN 2)] ++ exDe.map (fun y => Cond.declares y) ++ nestT.map (fun t => Cond.methodLinkNest (ownN t.1) t.2.1 (yN t.2.2) "RoadHolidays")
noncomputable def exX (X : Nat × (Nat → Int32)) (ad : Nat → Nat) (A : Nat → Prop) (U : State) (H : Heap) : Prop :=
  (va_X (ad 1000000) X.1 X.2 U H ∧ X.1 ≤ 4608 ∧ ¬ A (ad 1000000)) ∧ (∀ t ∈ strT, ∃ tx, vk_R (ownN t.1) t.2.1 tx (ad (2000000 + t.2.2)) U) ∧ (∀ k, k < 18 → exS ad A U H k) ∧
  vx_Zq Bundle.tN "UNASSIGNED_STACK" Bundle.steD A U H ∧ vx_Zq Bundle.tN "SUPPRESSED_SENTINEL" Bundle.listD A U H ∧ va_Z "java/lang/String" "COMPACT_STRINGS" "Z" (.int 1) A U H ∧ va_Zq "jdk/internal/util/Preconditions" "SIOOBE_FORMATTER" "Ljava/util/function/BiFunction;" A U H ∧
  (∀ w ∈ exNw, va_Nw w U) ∧ va_Nc (exN 1) (exN 2) U ∧ va_Nc (exN 2) (exN 1) U ∧ va_AOA .int U
theorem exNw_warm {s U : State} (hW : s.WarmedH U.vm) : ∀ w ∈ exNw, va_Nw w s → va_Nw w U := by
  intro w hw h
  rcases List.mem_append.mp hw with hw | hw
  · rcases List.mem_cons.mp hw with rfl | hw
    · exact va_Nw.warmC hW h
    · rcases List.mem_cons.mp hw with rfl | hw
      · exact va_Nw.warmC hW h
      · obtain ⟨t, -, rfl⟩ := List.mem_map.mp (show w ∈ exDe.map (fun y => Cond.declares y) from hw)
        exact va_Nw.warmD hW h
  · obtain ⟨t, -, rfl⟩ := List.mem_map.mp hw
    exact va_Nw.warmM hW h
theorem exNw_tab : ∀ w ∈ exNw, w.onTables = true := by
  intro w hw
  rcases List.mem_append.mp hw with hw | hw
  · rcases List.mem_cons.mp hw with rfl | hw
    · rfl
    · rcases List.mem_cons.mp hw with rfl | hw
      · rfl
      · obtain ⟨t, -, rfl⟩ := List.mem_map.mp (show w ∈ exDe.map (fun y => Cond.declares y) from hw)
        rfl
  · obtain ⟨t, -, rfl⟩ := List.mem_map.mp hw
    rfl
theorem va_X.moved9 {b L : Nat} {xs : Nat → Int32} {u U : State} {H : Heap} (hvm : u.vm.Alike U.vm) (h : va_X b L xs u H) : va_X b L xs U H := by
  obtain ⟨scr, h1, h2, h3⟩ := h
  exact ⟨scr, h1, State.isArrayOf_alike hvm h2, h3⟩
theorem va_X.kept9 {b L : Nat} {xs : Nat → Int32} {U : State} {H H1 : Heap} {A : Nat → Prop} (hb : ¬ A b) (hq : ∀ a : Nat, a < H.size → ¬ A a → H1[a]? = H[a]?) (h : va_X b L xs U H) : va_X b L xs U H1 := by
  obtain ⟨scr, h1, h2⟩ := h
  exact ⟨scr, by rw [hq b (Array.getElem?_eq_some_iff.mp h1).1 hb]; exact h1, h2⟩
theorem exX_ok (X : Nat × (Nat → Int32)) : ExOk (exX X) := by
  refine ⟨?_, ?_, ?_, ?_, ?_⟩
  · intro ad A s U H hW h
    obtain ⟨⟨h1, h2, h3⟩, h4, h5, h6, h7, h8, h9, h10, h11, h12, h13⟩ := h
    have hv := hW.alike
    exact ⟨⟨h1.moved9 hv, h2, h3⟩, fun t ht => (h4 t ht).elim (fun tx z => ⟨tx, z.warm hW⟩), fun k hk => ⟨(h5 k hk).1.moved hv, (h5 k hk).2.1.moved hv, (h5 k hk).2.2.elim (fun v z => ⟨v, z.1.moved hv, z.2.moved hv⟩)⟩, ⟨h6.1.moved hv, h6.2.moved hv⟩, ⟨h7.1.moved hv, h7.2.moved hv⟩, h8.moved hv, h9.moved hv, fun w hw => exNw_warm hW w hw (h10 w hw), h11.moved hv, h12.moved hv, h13.moved hv⟩
  · intro ad A U H H1 hq h
    obtain ⟨⟨h1, h2, h3⟩, h4, h5, h6, h7, h8, h9, h10, h11, h12, h13⟩ := h
    exact ⟨⟨h1.kept9 h3 hq, h2, h3⟩, h4, fun k hk => ⟨(h5 k hk).1.kept hq, (h5 k hk).2.1.kept hq, (h5 k hk).2.2.elim (fun v z => ⟨v, z.1.kept hq, z.2.kept hq⟩)⟩, ⟨h6.1.kept hq, h6.2.kept hq⟩, ⟨h7.1.kept hq, h7.2.kept hq⟩, h8.kept hq, h9.kept hq, h10, h11, h12, h13⟩
  · intro ad A B U H hAB h
    obtain ⟨⟨h1, h2, h3⟩, h4, h5, h6, h7, h8, h9, h10, h11, h12, h13⟩ := h
    exact ⟨⟨h1, h2, fun z => h3 (hAB _ z)⟩, h4, fun k hk => ⟨(h5 k hk).1.narrow hAB, (h5 k hk).2.1.narrow hAB, (h5 k hk).2.2.elim (fun v z => ⟨v, z.1.narrow hAB, z.2.narrow hAB⟩)⟩, ⟨h6.1.narrow hAB, h6.2.narrow hAB⟩, ⟨h7.1.narrow hAB, h7.2.narrow hAB⟩, h8.narrow hAB, h9.narrow hAB, h10, h11, h12, h13⟩
  · intro n ad ad' A U H hx h
    have e0 : ad' 1000000 = ad 1000000 := hx _ (Or.inr (Nat.le_refl _))
    have e1 : ∀ k, ad' (2000000 + k) = ad (2000000 + k) := fun k => hx _ (Or.inr (by omega))
    unfold exX exS at h ⊢
    simp only [e0, e1]
    exact h
  · intro ad A U H g mk a h
    obtain ⟨⟨h1, h2, h3⟩, h4, h5, h6, h7, h8, h9, h10, h11, h12, h13⟩ := h
    have hv : U.vm.Alike (U.calling g mk a).vm := Vm.Alike.refl U.vm
    exact ⟨⟨h1.moved9 hv, h2, h3⟩, fun t ht => (h4 t ht).elim (fun tx z => ⟨tx, z.same rfl⟩), fun k hk => ⟨(h5 k hk).1.moved hv, (h5 k hk).2.1.moved hv, (h5 k hk).2.2.elim (fun v z => ⟨v, z.1.moved hv, z.2.moved hv⟩)⟩, ⟨h6.1.moved hv, h6.2.moved hv⟩, ⟨h7.1.moved hv, h7.2.moved hv⟩, h8.moved hv, h9.moved hv, fun w hw => va_Nw.same (u := U) (U := U.calling g mk a) (exNw_tab w hw) rfl (h10 w hw), h11.moved hv, h12.moved hv, h13.moved hv⟩
theorem exL_2 : (vx_atS RX9 375 "java/lang/IllegalArgumentException" ["java/lang/RuntimeException", "java/lang/Exception"]).filter (fun w => !goodWord w) = exDe.map (fun y => Cond.declares y) ++ [.castable "java/lang/IllegalArgumentException" "java/lang/IllegalArgumentException"] := by decide +kernel
theorem exL_1 : (vx_atS RX9 382 "java/util/NoSuchElementException" ["java/lang/RuntimeException", "java/lang/Exception"]).filter (fun w => !goodWord w) = exDe.map (fun y => Cond.declares y) ++ [.castable "java/util/NoSuchElementException" "java/util/NoSuchElementException"] := by decide +kernel
