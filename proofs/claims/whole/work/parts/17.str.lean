/-! length() AND charAt(int) of the texts -/
set_option maxRecDepth 100000 in
theorem cw_J0_isLatin1_aae02 : Cond.code yJ0_isLatin1_aae02 cJ0_isLatin1_aae02 1 (some .boolean) ∈ lw_tbl := tables_1_3_in _ (List.mem_of_getElem? (i := 84) rfl)
set_option maxRecDepth 100000 in
theorem cw_J0_coder_7d493 : Cond.code yJ0_coder_7d493 cJ0_coder_7d493 1 (some .byte) ∈ lw_tbl := tables_1_3_in _ (List.mem_of_getElem? (i := 74) rfl)
set_option maxRecDepth 100000 in
theorem cw_J0_checkIndex_df160 : Cond.code yJ0_checkIndex_df160 cJ0_checkIndex_df160 2 none ∈ lw_tbl := tables_1_3_in _ (List.mem_of_getElem? (i := 90) rfl)
set_option maxRecDepth 100000 in
theorem cw_J3_checkIndex_8e157 : Cond.code yJ3_checkIndex_8e157 cJ3_checkIndex_8e157 3 (some .int) ∈ lw_tbl := tables_1_3_in _ (List.mem_of_getElem? (i := 95) rfl)
set_option maxRecDepth 100000 in
theorem cw_J1_charAt_3b067 : Cond.code yJ1_charAt_3b067 cJ1_charAt_3b067 2 (some .char) ∈ lw_tbl := tables_1_3_in _ (List.mem_of_getElem? (i := 87) rfl)
set_option maxRecDepth 100000 in
theorem cw_J0_length_8abf5 : Cond.code yJ0_length_8abf5 cJ0_length_8abf5 1 (some .int) ∈ lw_tbl := tables_1_3_in _ (List.mem_of_getElem? (i := 70) rfl)
set_option maxRecDepth 100000 in
theorem cw_J0_charAt_5068e : Cond.code yJ0_charAt_5068e cJ0_charAt_5068e 2 (some .char) ∈ lw_tbl := tables_1_3_in _ (List.mem_of_getElem? (i := 80) rfl)
set_option maxRecDepth 100000 in
set_option maxHeartbeats 4000000 in
def sW : List Cond := [Cond.fieldLink RJ0 38 "java/lang/String" "COMPACT_STRINGS" "Z", Cond.fieldLink RJ0 15 "java/lang/String" "coder" "B", Cond.fieldLink RJ0 9 "java/lang/String" "value" "[B", Cond.fieldLink RJ0 1053 "jdk/internal/util/Preconditions" "SIOOBE_FORMATTER" "Ljava/util/function/BiFunction;", Cond.methodLink RJ0 492 yJ0_isLatin1_aae02, Cond.methodLink RJ0 335 yJ0_coder_7d493, Cond.methodLink RJ0 495 yJ1_charAt_3b067, Cond.methodLink RJ1 9 yJ0_checkIndex_df160, Cond.methodLink RJ0 1059 yJ3_checkIndex_8e157, Cond.instanceMethod yJ0_isLatin1_aae02, Cond.selects RJ0 yJ0_isLatin1_aae02 yJ0_isLatin1_aae02, Cond.instanceMethod yJ0_coder_7d493, Cond.selects RJ0 yJ0_coder_7d493 yJ0_coder_7d493, Cond.instanceMethod yJ0_length_8abf5, Cond.selects RJ0 yJ0_length_8abf5 yJ0_length_8abf5, Cond.instanceMethod yJ0_charAt_5068e, Cond.selects RJ0 yJ0_charAt_5068e yJ0_charAt_5068e, Cond.static yJ0_checkIndex_df160, Cond.static yJ3_checkIndex_8e157, Cond.static yJ1_charAt_3b067, Cond.initialized RJ0, Cond.initialized RJ1, Cond.initialized RJ3, Cond.methodLink RX7 58 yJ0_length_8abf5, Cond.methodLink RX7 64 yJ0_charAt_5068e, Cond.methodLink RX10 122 yJ0_length_8abf5, Cond.methodLink RX10 127 yJ0_charAt_5068e]
set_option maxRecDepth 100000 in
set_option maxHeartbeats 4000000 in
theorem sW_in : ∀ w ∈ sW, w ∈ lw_tbl := pick_in (ps := [661, 1987, 1986, 677, 667, 657, 671, 674, 679, 668, 669, 658, 659, 654, 655, 664, 665, 675, 680, 672, 124, 125, 126, 653, 663, 1561, 1562]) (by decide +kernel)
theorem sW_good : ∀ w ∈ sW, goodWord w = true := by decide +kernel
theorem sW_t {s : State} {args : Array Value} (hts : ∀ w ∈ Tw, w.before args s = true) {w : Cond} (i : Nat) (h : sW[i]? = some w) : w.before args s = true := hts w (tw_of (sW_in w (List.mem_of_getElem? h)) (sW_good w (List.mem_of_getElem? h)))
theorem dJ0_isLatin1_aae02_0 : decode cJ0_isLatin1_aae02 0 = .ok (.getstatic 38, 3) := by decide +kernel
theorem dJ0_isLatin1_aae02_3 : decode cJ0_isLatin1_aae02 3 = .ok (.ifCond .eq 14, 3) := by decide +kernel
theorem dJ0_isLatin1_aae02_6 : decode cJ0_isLatin1_aae02 6 = .ok (.aload_n 0, 1) := by decide +kernel
theorem dJ0_isLatin1_aae02_7 : decode cJ0_isLatin1_aae02 7 = .ok (.getfield 15, 3) := by decide +kernel
theorem dJ0_isLatin1_aae02_10 : decode cJ0_isLatin1_aae02 10 = .ok (.ifCond .ne 7, 3) := by decide +kernel
theorem dJ0_isLatin1_aae02_13 : decode cJ0_isLatin1_aae02 13 = .ok (.iconst 1, 1) := by decide +kernel
theorem dJ0_isLatin1_aae02_14 : decode cJ0_isLatin1_aae02 14 = .ok (.goto 4, 3) := by decide +kernel
theorem dJ0_isLatin1_aae02_17 : decode cJ0_isLatin1_aae02 17 = .ok (.iconst 0, 1) := by decide +kernel
theorem dJ0_isLatin1_aae02_18 : decode cJ0_isLatin1_aae02 18 = .ok (.ireturn, 1) := by decide +kernel
theorem dJ0_coder_7d493_0 : decode cJ0_coder_7d493 0 = .ok (.getstatic 38, 3) := by decide +kernel
theorem dJ0_coder_7d493_3 : decode cJ0_coder_7d493 3 = .ok (.ifCond .eq 10, 3) := by decide +kernel
theorem dJ0_coder_7d493_6 : decode cJ0_coder_7d493 6 = .ok (.aload_n 0, 1) := by decide +kernel
theorem dJ0_coder_7d493_7 : decode cJ0_coder_7d493 7 = .ok (.getfield 15, 3) := by decide +kernel
theorem dJ0_coder_7d493_10 : decode cJ0_coder_7d493 10 = .ok (.goto 4, 3) := by decide +kernel
theorem dJ0_coder_7d493_13 : decode cJ0_coder_7d493 13 = .ok (.iconst 1, 1) := by decide +kernel
theorem dJ0_coder_7d493_14 : decode cJ0_coder_7d493 14 = .ok (.ireturn, 1) := by decide +kernel
theorem dJ0_checkIndex_df160_0 : decode cJ0_checkIndex_df160 0 = .ok (.iload_n 0, 1) := by decide +kernel
theorem dJ0_checkIndex_df160_1 : decode cJ0_checkIndex_df160 1 = .ok (.iload_n 1, 1) := by decide +kernel
theorem dJ0_checkIndex_df160_2 : decode cJ0_checkIndex_df160 2 = .ok (.getstatic 1053, 3) := by decide +kernel
theorem dJ0_checkIndex_df160_5 : decode cJ0_checkIndex_df160 5 = .ok (.invokestatic 1059, 3) := by decide +kernel
theorem dJ0_checkIndex_df160_8 : decode cJ0_checkIndex_df160 8 = .ok (.pop, 1) := by decide +kernel
theorem dJ0_checkIndex_df160_9 : decode cJ0_checkIndex_df160 9 = .ok (.return_, 1) := by decide +kernel
theorem dJ3_checkIndex_8e157_0 : decode cJ3_checkIndex_8e157 0 = .ok (.iload_n 0, 1) := by decide +kernel
theorem dJ3_checkIndex_8e157_1 : decode cJ3_checkIndex_8e157 1 = .ok (.ifCond .lt 8, 3) := by decide +kernel
theorem dJ3_checkIndex_8e157_4 : decode cJ3_checkIndex_8e157 4 = .ok (.iload_n 0, 1) := by decide +kernel
theorem dJ3_checkIndex_8e157_5 : decode cJ3_checkIndex_8e157 5 = .ok (.iload_n 1, 1) := by decide +kernel
theorem dJ3_checkIndex_8e157_6 : decode cJ3_checkIndex_8e157 6 = .ok (.if_icmp .lt 10, 3) := by decide +kernel
theorem dJ3_checkIndex_8e157_9 : decode cJ3_checkIndex_8e157 9 = .ok (.aload_n 2, 1) := by decide +kernel
theorem dJ3_checkIndex_8e157_10 : decode cJ3_checkIndex_8e157 10 = .ok (.iload_n 0, 1) := by decide +kernel
theorem dJ3_checkIndex_8e157_11 : decode cJ3_checkIndex_8e157 11 = .ok (.iload_n 1, 1) := by decide +kernel
theorem dJ3_checkIndex_8e157_12 : decode cJ3_checkIndex_8e157 12 = .ok (.invokestatic 95, 3) := by decide +kernel
theorem dJ3_checkIndex_8e157_15 : decode cJ3_checkIndex_8e157 15 = .ok (.athrow, 1) := by decide +kernel
theorem dJ3_checkIndex_8e157_16 : decode cJ3_checkIndex_8e157 16 = .ok (.iload_n 0, 1) := by decide +kernel
theorem dJ3_checkIndex_8e157_17 : decode cJ3_checkIndex_8e157 17 = .ok (.ireturn, 1) := by decide +kernel
theorem dJ1_charAt_3b067_0 : decode cJ1_charAt_3b067 0 = .ok (.iload_n 1, 1) := by decide +kernel
theorem dJ1_charAt_3b067_1 : decode cJ1_charAt_3b067 1 = .ok (.aload_n 0, 1) := by decide +kernel
theorem dJ1_charAt_3b067_2 : decode cJ1_charAt_3b067 2 = .ok (.arraylength, 1) := by decide +kernel
theorem dJ1_charAt_3b067_3 : decode cJ1_charAt_3b067 3 = .ok (.invokestatic 9, 3) := by decide +kernel
theorem dJ1_charAt_3b067_6 : decode cJ1_charAt_3b067 6 = .ok (.aload_n 0, 1) := by decide +kernel
theorem dJ1_charAt_3b067_7 : decode cJ1_charAt_3b067 7 = .ok (.iload_n 1, 1) := by decide +kernel
theorem dJ1_charAt_3b067_8 : decode cJ1_charAt_3b067 8 = .ok (.baload, 1) := by decide +kernel
theorem dJ1_charAt_3b067_9 : decode cJ1_charAt_3b067 9 = .ok (.sipush 255, 3) := by decide +kernel
theorem dJ1_charAt_3b067_12 : decode cJ1_charAt_3b067 12 = .ok (.iand, 1) := by decide +kernel
theorem dJ1_charAt_3b067_13 : decode cJ1_charAt_3b067 13 = .ok (.i2c, 1) := by decide +kernel
theorem dJ1_charAt_3b067_14 : decode cJ1_charAt_3b067 14 = .ok (.ireturn, 1) := by decide +kernel
theorem dJ0_length_8abf5_0 : decode cJ0_length_8abf5 0 = .ok (.aload_n 0, 1) := by decide +kernel
theorem dJ0_length_8abf5_1 : decode cJ0_length_8abf5 1 = .ok (.getfield 9, 3) := by decide +kernel
theorem dJ0_length_8abf5_4 : decode cJ0_length_8abf5 4 = .ok (.arraylength, 1) := by decide +kernel
theorem dJ0_length_8abf5_5 : decode cJ0_length_8abf5 5 = .ok (.aload_n 0, 1) := by decide +kernel
theorem dJ0_length_8abf5_6 : decode cJ0_length_8abf5 6 = .ok (.invokevirtual 335, 3) := by decide +kernel
theorem dJ0_length_8abf5_9 : decode cJ0_length_8abf5 9 = .ok (.ishr, 1) := by decide +kernel
theorem dJ0_length_8abf5_10 : decode cJ0_length_8abf5 10 = .ok (.ireturn, 1) := by decide +kernel
theorem dJ0_charAt_5068e_0 : decode cJ0_charAt_5068e 0 = .ok (.aload_n 0, 1) := by decide +kernel
theorem dJ0_charAt_5068e_1 : decode cJ0_charAt_5068e 1 = .ok (.invokevirtual 492, 3) := by decide +kernel
theorem dJ0_charAt_5068e_4 : decode cJ0_charAt_5068e 4 = .ok (.ifCond .eq 12, 3) := by decide +kernel
theorem dJ0_charAt_5068e_7 : decode cJ0_charAt_5068e 7 = .ok (.aload_n 0, 1) := by decide +kernel
theorem dJ0_charAt_5068e_8 : decode cJ0_charAt_5068e 8 = .ok (.getfield 9, 3) := by decide +kernel
theorem dJ0_charAt_5068e_11 : decode cJ0_charAt_5068e 11 = .ok (.iload_n 1, 1) := by decide +kernel
theorem dJ0_charAt_5068e_12 : decode cJ0_charAt_5068e 12 = .ok (.invokestatic 495, 3) := by decide +kernel
theorem dJ0_charAt_5068e_15 : decode cJ0_charAt_5068e 15 = .ok (.ireturn, 1) := by decide +kernel
theorem dJ0_charAt_5068e_16 : decode cJ0_charAt_5068e 16 = .ok (.aload_n 0, 1) := by decide +kernel
theorem dJ0_charAt_5068e_17 : decode cJ0_charAt_5068e 17 = .ok (.getfield 9, 3) := by decide +kernel
theorem dJ0_charAt_5068e_20 : decode cJ0_charAt_5068e 20 = .ok (.iload_n 1, 1) := by decide +kernel
theorem dJ0_charAt_5068e_21 : decode cJ0_charAt_5068e 21 = .ok (.invokestatic 498, 3) := by decide +kernel
theorem dJ0_charAt_5068e_24 : decode cJ0_charAt_5068e 24 = .ok (.ireturn, 1) := by decide +kernel
/-- where these methods start: the world, what lies outside, the bytes v of the k-th text -/
noncomputable def sP (X : Nat × (Nat → Int32)) (D : va_G) (cy : Nat → ClassId) (ad : Nat → Nat) (st : aSt) (sz v k : Nat) (as : List Value) : Array Value → State → Prop :=
  va_Pc as (fun U => (U.heap.size = sz ∧ va_P D clL (wsOf cy ad st) U.heap ∧ va_K D clL (tysL cy) U ∧ va_D (fun _ => True) (wsOf cy ad st) ∧ exX X ad (va_A (wsOf cy ad st) sz) U U.heap) ∧ va_T .byte v (aStr k).length (fun j => .int (nI ((aStr k).getD j 0))) (va_A (wsOf cy ad st) sz) U U.heap)
theorem sP_blind {X : Nat × (Nat → Int32)} {D : va_G} {cy : Nat → ClassId} {ad : Nat → Nat} {st : aSt} {sz v k : Nat} {as : List Value} : FrameBlind (sP X D cy ad st sz v k as) := by
  intro a U g mk h
  obtain ⟨h0, ⟨h1, h2, h3, h4, h5⟩, h6⟩ := h
  exact ⟨h0, ⟨h1, h2, va_K.moved (u := U) (U := U.calling g mk a) (Vm.Alike.refl U.vm) h3, h4, (exX_ok X).2.2.2.2 _ _ _ _ g mk a h5⟩, va_T.moved (u := U) (U := U.calling g mk a) (Vm.Alike.refl U.vm) h6⟩
def rmS (f n : Nat) : Room := { frames := f, cells := 0, slots := 0, locals := n }
section STR
variable {p : Program} {l : Launch} {e : Env} {R : Room} {s : State} {m : MethodId} {args : Array Value} {below : List Frame} {meth : Method} {c : Code} {Q : State → Prop} {cc : ByteArray} {D : va_G} {cy : Nat → ClassId} {A : Nat → Prop} {nL : Nat} {own : String}
variable {X : Nat × (Nat → Int32)} {pc : Nat} {cn : Nat × Nat} {st : aSt} {ad : Nat → Nat} {H : Heap} {locs : List Loc}
theorem sP_at {v k : Nat} {as : List Value} (hK : va_K D clL (tysL cy) s) (hA : ∀ q, s.heap.size ≤ q → A q) (hX : exX X ad A s s.heap) (hT : va_T .byte v (aStr k).length (fun j => .int (nI ((aStr k).getD j 0))) A s s.heap) (hP : va_P D clL (wsOf cy ad st) H) (hD : va_D A (wsOf cy ad st)) (hS : va_S A s.heap H locs) : ∀ U : State, U.heap = H → s.WarmedH U.vm → sP X D cy ad st H.size v k as as.toArray U := by
  intro U hU hW
  refine ⟨rfl, ⟨by rw [hU], by rw [hU]; exact hP, va_K.moved hW.alike hK, hD.weaken (fun _ _ _ _ => trivial), ?_⟩, ?_⟩
  · rw [hU]
    exact (exX_ok X).1 _ _ _ _ _ hW ((exX_ok X).2.2.1 _ _ _ _ _ (wsA hD hS hA) ((exX_ok X).2.1 _ _ _ _ _ (fun a h1 h2 => hS.2.1 a h1 h2) hX))
  · rw [hU]
    exact ((hT.kept (fun a h1 h2 => hS.2.1 a h1 h2)).narrow (wsA hD hS hA)).moved hW.alike
theorem s_ret {x : Int32} {ty : FieldType} {n0 : Nat} {ad0 : Nat → Nat} {XC : String → State → State → Prop} {jl : Array Slot} (hx : p.tables.exec = Jvm.exec) (hb : c.code = cc) (hr : meth.sig.returnType = some ty) (hn : narrow ty (.int x) = .int x) (hlocks : meth.locks = false) (d : decode cc pc = .ok (.ireturn, 1)) (hK : va_K D clL (tysL cy) s) (hx9 : AdX n0 ad0 ad) (hP : va_P D clL (wsOf cy ad st) H) (hD : va_D A (wsOf cy ad st)) (hS : va_S A s.heap H locs) :
    W p l e R s m args below meth c H locs 0 0 (vx_MQ below (cQ D cy A n0 ad0 (.inl (some (.int x)), st)) XC args s 0 0 A) (F0 m pc jl [.int x]) :=
  vx_ret (W.zret hx hb hr hn (fun t ht hW => ⟨⟨some (.int x), ad, rfl, rfl, hx9, by rw [ht]; exact hP, hD, va_K.moved hW.alike hK⟩, hS.F ht⟩) hS.2.2 d hlocks)
theorem s_vret {n0 : Nat} {ad0 : Nat → Nat} {XC : String → State → State → Prop} {jl : Array Slot} (hx : p.tables.exec = Jvm.exec) (hb : c.code = cc) (hr : meth.sig.returnType = none) (hlocks : meth.locks = false) (d : decode cc pc = .ok (.return_, 1)) (hK : va_K D clL (tysL cy) s) (hx9 : AdX n0 ad0 ad) (hP : va_P D clL (wsOf cy ad st) H) (hD : va_D A (wsOf cy ad st)) (hS : va_S A s.heap H locs) :
    W p l e R s m args below meth c H locs 0 0 (vx_MQ below (cQ D cy A n0 ad0 (.inl none, st)) XC args s 0 0 A) (F0 m pc jl []) :=
  vx_ret (W.vret hx hb hr (fun t ht hW => ⟨⟨none, ad, rfl, rfl, hx9, by rw [ht]; exact hP, hD, va_K.moved hW.alike hK⟩, hS.F ht⟩) hS.2.2 d hlocks)
end STR
theorem ty_char : ∀ c, c < 128 → (((nI c &&& 255).toUInt32 % 65536).toInt32 = nI c ∧ narrow .char (.int (nI c)) = .int (nI c)) := by decide +kernel
theorem aStr_ascii : ∀ k, k < 18 → ∀ c ∈ aStr k, c < 128 := by decide +kernel
theorem aStr_len : ∀ k, k < 18 → (aStr k).length < 60 := by decide +kernel
theorem ch_at {k j : Nat} (hk : k < 18) (hj : j < (aStr k).length) : (aStr k).getD j 0 < 128 := by
  rw [List.getD_eq_getElem?_getD, List.getElem?_eq_getElem hj]
  exact aStr_ascii k hk _ (List.getElem_mem hj)
section STRC
variable (l : Launch) (X : Nat × (Nat → Int32)) (D : va_G) (cy : Nat → ClassId) (ad : Nat → Nat) (st : aSt) (sz v k : Nat)
theorem c_isLatin1 (hk : k < 18) : vx_Met l yJ0_isLatin1_aae02 (Cond.code yJ0_isLatin1_aae02 cJ0_isLatin1_aae02 1 (some .boolean) :: Tw) (rmS 0 0) (sP X D cy ad st sz v k [.ref (ad (2000000 + k))]) (cQ D cy (va_A (wsOf cy ad st) sz) (gN st) ad (.inl (some (.int 1)), st)) (cX D cy (va_A (wsOf cy ad st) sz) (gN st) ad (.inl (some (.int 1)), st)) 0 0 (va_A (wsOf cy ad st) sz) := by
  refine vx_ofW (cc := cJ0_isLatin1_aae02) (maxL := 1) (ret := some .boolean) (by decide) rfl ?_
  intro p e s m args below meth c s₁ B hml htab hv
  obtain ⟨rfl, ⟨hsz, hP, hK, hD0, hE⟩, hT⟩ := hv
  have hx := B.exec
  have hb := B.bytes
  have hr := B.returns
  have hts0 := atoms_spec (ws := Cond.code yJ0_isLatin1_aae02 cJ0_isLatin1_aae02 1 (some .boolean) :: Tw) B.pre
  have hts : ∀ w ∈ Tw, w.before _ s = true := fun w hw => hts0 w (List.mem_cons_of_mem _ hw)
  have hown : s.vm.findClass RJ0 = some m.cls := findClass_of_methodNamed B.named
  have hlocks := B.notSynchronized
  subst hsz
  have hD := hD0.self (sz := s.heap.size)
  generalize hAe : va_A (wsOf cy ad st) s.heap.size = A at hD hE hT ⊢
  have hS : va_S A s.heap s.heap [] := va_S.rf
  have hl := lv_entry ([.ref (ad (2000000 + k))]) (n := 1) (Nat.le_of_ble_eq_true rfl)
  rw [lg_entry_eq]
  generalize (lg_sl ([.ref (ad (2000000 + k))]) ++ List.replicate (1 - (lg_sl ([.ref (ad (2000000 + k))])).length) Slot.unset).toArray = ls at hl ⊢
  have hl : lv_has ls 1 [(0, .ref (ad (2000000 + k)))] := hl
  refine va_gets hx hb hE.2.2.2.2.2.1 hS hown (sW_t hts 0 rfl : (Cond.fieldLink RJ0 38 "java/lang/String" "COMPACT_STRINGS" "Z").before _ s = true) (fun _ h9 => h9) dJ0_isLatin1_aae02_0 ?_
  refine lv_if_eq (tgt := 17) hx hb dJ0_isLatin1_aae02_3 (by decide) (fun h => absurd h (by decide)) (fun _ => ?_)
  refine lv_aload_n hx hb dJ0_isLatin1_aae02_6 rfl (lv_at hl 0 rfl) ?_
  refine vk_getf hx hb (hE.2.2.1 k hk).2.1 hS hown (sW_t hts 1 rfl : (Cond.fieldLink RJ0 15 "java/lang/String" "coder" "B").before _ s = true) (fun _ h9 => h9) dJ0_isLatin1_aae02_7 ?_
  refine lv_if_ne (tgt := 17) hx hb dJ0_isLatin1_aae02_10 (by decide) (fun h => absurd rfl h) (fun _ => ?_)
  refine lv_iconst (v := 1) hx hb dJ0_isLatin1_aae02_13 (by decide) ?_
  refine lv_goto (tgt := 18) hx hb dJ0_isLatin1_aae02_14 (by decide) ?_
  exact s_ret hx hb hr rfl hlocks dJ0_isLatin1_aae02_18 hK (AdX.rf _ _) hP hD hS
theorem c_coder (hk : k < 18) : vx_Met l yJ0_coder_7d493 (Cond.code yJ0_coder_7d493 cJ0_coder_7d493 1 (some .byte) :: Tw) (rmS 0 0) (sP X D cy ad st sz v k [.ref (ad (2000000 + k))]) (cQ D cy (va_A (wsOf cy ad st) sz) (gN st) ad (.inl (some (.int 0)), st)) (cX D cy (va_A (wsOf cy ad st) sz) (gN st) ad (.inl (some (.int 0)), st)) 0 0 (va_A (wsOf cy ad st) sz) := by
  refine vx_ofW (cc := cJ0_coder_7d493) (maxL := 1) (ret := some .byte) (by decide) rfl ?_
  intro p e s m args below meth c s₁ B hml htab hv
  obtain ⟨rfl, ⟨hsz, hP, hK, hD0, hE⟩, hT⟩ := hv
  have hx := B.exec
  have hb := B.bytes
  have hr := B.returns
  have hts0 := atoms_spec (ws := Cond.code yJ0_coder_7d493 cJ0_coder_7d493 1 (some .byte) :: Tw) B.pre
  have hts : ∀ w ∈ Tw, w.before _ s = true := fun w hw => hts0 w (List.mem_cons_of_mem _ hw)
  have hown : s.vm.findClass RJ0 = some m.cls := findClass_of_methodNamed B.named
  have hlocks := B.notSynchronized
  subst hsz
  have hD := hD0.self (sz := s.heap.size)
  generalize hAe : va_A (wsOf cy ad st) s.heap.size = A at hD hE hT ⊢
  have hS : va_S A s.heap s.heap [] := va_S.rf
  have hl := lv_entry ([.ref (ad (2000000 + k))]) (n := 1) (Nat.le_of_ble_eq_true rfl)
  rw [lg_entry_eq]
  generalize (lg_sl ([.ref (ad (2000000 + k))]) ++ List.replicate (1 - (lg_sl ([.ref (ad (2000000 + k))])).length) Slot.unset).toArray = ls at hl ⊢
  have hl : lv_has ls 1 [(0, .ref (ad (2000000 + k)))] := hl
  refine va_gets hx hb hE.2.2.2.2.2.1 hS hown (sW_t hts 0 rfl : (Cond.fieldLink RJ0 38 "java/lang/String" "COMPACT_STRINGS" "Z").before _ s = true) (fun _ h9 => h9) dJ0_coder_7d493_0 ?_
  refine lv_if_eq (tgt := 13) hx hb dJ0_coder_7d493_3 (by decide) (fun h => absurd h (by decide)) (fun _ => ?_)
  refine lv_aload_n hx hb dJ0_coder_7d493_6 rfl (lv_at hl 0 rfl) ?_
  refine vk_getf hx hb (hE.2.2.1 k hk).2.1 hS hown (sW_t hts 1 rfl : (Cond.fieldLink RJ0 15 "java/lang/String" "coder" "B").before _ s = true) (fun _ h9 => h9) dJ0_coder_7d493_7 ?_
  refine lv_goto (tgt := 14) hx hb dJ0_coder_7d493_10 (by decide) ?_
  exact s_ret hx hb hr rfl hlocks dJ0_coder_7d493_14 hK (AdX.rf _ _) hP hD hS
set_option maxHeartbeats 2000000 in
theorem c_preIndexN {i n : Int32} (hi : ¬ i < 0) (hin : i < n) : vx_Met l yJ3_checkIndex_8e157 (Cond.code yJ3_checkIndex_8e157 cJ3_checkIndex_8e157 3 (some .int) :: Tw) (rmS 0 0) (sP X D cy ad st sz v k [.int i, .int n, .null]) (cQ D cy (va_A (wsOf cy ad st) sz) (gN st) ad (.inl (some (.int i)), st)) (cX D cy (va_A (wsOf cy ad st) sz) (gN st) ad (.inl (some (.int i)), st)) 0 0 (va_A (wsOf cy ad st) sz) := by
  refine vx_ofW (cc := cJ3_checkIndex_8e157) (maxL := 3) (ret := some .int) (by decide) rfl ?_
  intro p e s m args below meth c s₁ B hml htab hv
  obtain ⟨rfl, ⟨hsz, hP, hK, hD0, hE⟩, hT⟩ := hv
  have hx := B.exec
  have hb := B.bytes
  have hr := B.returns
  have hts0 := atoms_spec (ws := Cond.code yJ3_checkIndex_8e157 cJ3_checkIndex_8e157 3 (some .int) :: Tw) B.pre
  have hts : ∀ w ∈ Tw, w.before _ s = true := fun w hw => hts0 w (List.mem_cons_of_mem _ hw)
  have hown : s.vm.findClass RJ3 = some m.cls := findClass_of_methodNamed B.named
  have hlocks := B.notSynchronized
  subst hsz
  have hD := hD0.self (sz := s.heap.size)
  generalize hAe : va_A (wsOf cy ad st) s.heap.size = A at hD hE hT ⊢
  have hA : ∀ q : Nat, s.heap.size ≤ q → A q := fun q h => by rw [← hAe]; exact Or.inr h
  have hS : va_S A s.heap s.heap [] := va_S.rf
  have hl := lv_entry ([.int i, .int n, .null]) (n := 3) (Nat.le_of_ble_eq_true rfl)
  rw [lg_entry_eq]
  generalize (lg_sl ([.int i, .int n, .null]) ++ List.replicate (3 - (lg_sl ([.int i, .int n, .null])).length) Slot.unset).toArray = ls at hl ⊢
  have hl : lv_has ls 3 [(0, .int i), (1, .int n), (2, .null)] := hl
  refine lv_iload_n hx hb dJ3_checkIndex_8e157_0 rfl (lv_at hl 0 rfl) ?_
  refine lv_if_lt (tgt := 9) hx hb dJ3_checkIndex_8e157_1 (by decide) (fun h => absurd h hi) (fun _ => ?_)
  refine lv_iload_n hx hb dJ3_checkIndex_8e157_4 rfl (lv_at hl 0 rfl) ?_
  refine lv_iload_n hx hb dJ3_checkIndex_8e157_5 rfl (lv_at hl 1 rfl) ?_
  refine lv_icmp_lt (tgt := 16) hx hb dJ3_checkIndex_8e157_6 (by decide) (fun _ => ?_) (fun h => absurd hin h)
  refine lv_iload_n hx hb dJ3_checkIndex_8e157_16 rfl (lv_at hl 0 rfl) ?_
  exact s_ret hx hb hr rfl hlocks dJ3_checkIndex_8e157_17 hK (AdX.rf _ _) hP hD hS
set_option maxHeartbeats 2000000 in
theorem c_preIndexR {i n : Int32} (hi : ¬ i < 0) (hin : i < n) (t : Nat) : vx_Met l yJ3_checkIndex_8e157 (Cond.code yJ3_checkIndex_8e157 cJ3_checkIndex_8e157 3 (some .int) :: Tw) (rmS 0 0) (sP X D cy ad st sz v k [.int i, .int n, .ref t]) (cQ D cy (va_A (wsOf cy ad st) sz) (gN st) ad (.inl (some (.int i)), st)) (cX D cy (va_A (wsOf cy ad st) sz) (gN st) ad (.inl (some (.int i)), st)) 0 0 (va_A (wsOf cy ad st) sz) := by
  refine vx_ofW (cc := cJ3_checkIndex_8e157) (maxL := 3) (ret := some .int) (by decide) rfl ?_
  intro p e s m args below meth c s₁ B hml htab hv
  obtain ⟨rfl, ⟨hsz, hP, hK, hD0, hE⟩, hT⟩ := hv
  have hx := B.exec
  have hb := B.bytes
  have hr := B.returns
  have hts0 := atoms_spec (ws := Cond.code yJ3_checkIndex_8e157 cJ3_checkIndex_8e157 3 (some .int) :: Tw) B.pre
  have hts : ∀ w ∈ Tw, w.before _ s = true := fun w hw => hts0 w (List.mem_cons_of_mem _ hw)
  have hown : s.vm.findClass RJ3 = some m.cls := findClass_of_methodNamed B.named
  have hlocks := B.notSynchronized
  subst hsz
  have hD := hD0.self (sz := s.heap.size)
  generalize hAe : va_A (wsOf cy ad st) s.heap.size = A at hD hE hT ⊢
  have hA : ∀ q : Nat, s.heap.size ≤ q → A q := fun q h => by rw [← hAe]; exact Or.inr h
  have hS : va_S A s.heap s.heap [] := va_S.rf
  have hl := lv_entry ([.int i, .int n, .ref t]) (n := 3) (Nat.le_of_ble_eq_true rfl)
  rw [lg_entry_eq]
  generalize (lg_sl ([.int i, .int n, .ref t]) ++ List.replicate (3 - (lg_sl ([.int i, .int n, .ref t])).length) Slot.unset).toArray = ls at hl ⊢
  have hl : lv_has ls 3 [(0, .int i), (1, .int n), (2, .ref t)] := hl
  refine lv_iload_n hx hb dJ3_checkIndex_8e157_0 rfl (lv_at hl 0 rfl) ?_
  refine lv_if_lt (tgt := 9) hx hb dJ3_checkIndex_8e157_1 (by decide) (fun h => absurd h hi) (fun _ => ?_)
  refine lv_iload_n hx hb dJ3_checkIndex_8e157_4 rfl (lv_at hl 0 rfl) ?_
  refine lv_iload_n hx hb dJ3_checkIndex_8e157_5 rfl (lv_at hl 1 rfl) ?_
  refine lv_icmp_lt (tgt := 16) hx hb dJ3_checkIndex_8e157_6 (by decide) (fun _ => ?_) (fun h => absurd hin h)
  refine lv_iload_n hx hb dJ3_checkIndex_8e157_16 rfl (lv_at hl 0 rfl) ?_
  exact s_ret hx hb hr rfl hlocks dJ3_checkIndex_8e157_17 hK (AdX.rf _ _) hP hD hS
set_option maxHeartbeats 2000000 in
theorem c_strIndex {i n : Int32} (hi : ¬ i < 0) (hin : i < n) : vx_Met l yJ0_checkIndex_df160 (Cond.code yJ0_checkIndex_df160 cJ0_checkIndex_df160 2 none :: Tw) (rmS 1 40) (sP X D cy ad st sz v k [.int i, .int n]) (cQ D cy (va_A (wsOf cy ad st) sz) (gN st) ad (.inl none, st)) (cX D cy (va_A (wsOf cy ad st) sz) (gN st) ad (.inl none, st)) 0 0 (va_A (wsOf cy ad st) sz) := by
  refine vx_ofW (cc := cJ0_checkIndex_df160) (maxL := 2) (ret := none) (by decide) rfl ?_
  intro p e s m args below meth c s₁ B hml htab hv
  obtain ⟨rfl, ⟨hsz, hP, hK, hD0, hE⟩, hT⟩ := hv
  have hx := B.exec
  have hb := B.bytes
  have hr := B.returns
  have hts0 := atoms_spec (ws := Cond.code yJ0_checkIndex_df160 cJ0_checkIndex_df160 2 none :: Tw) B.pre
  have hts : ∀ w ∈ Tw, w.before _ s = true := fun w hw => hts0 w (List.mem_cons_of_mem _ hw)
  have hown : s.vm.findClass RJ0 = some m.cls := findClass_of_methodNamed B.named
  have hlocks := B.notSynchronized
  subst hsz
  have hD := hD0.self (sz := s.heap.size)
  generalize hAe : va_A (wsOf cy ad st) s.heap.size = A at hD hE hT ⊢
  have hA : ∀ q : Nat, s.heap.size ≤ q → A q := fun q h => by rw [← hAe]; exact Or.inr h
  have hS : va_S A s.heap s.heap [] := va_S.rf
  have hl := lv_entry ([.int i, .int n]) (n := 2) (Nat.le_of_ble_eq_true rfl)
  rw [lg_entry_eq]
  generalize (lg_sl ([.int i, .int n]) ++ List.replicate (2 - (lg_sl ([.int i, .int n])).length) Slot.unset).toArray = ls at hl ⊢
  have hl : lv_has ls 2 [(0, .int i), (1, .int n)] := hl
  refine lv_iload_n hx hb dJ0_checkIndex_df160_0 rfl (lv_at hl 0 rfl) ?_
  refine lv_iload_n hx hb dJ0_checkIndex_df160_1 rfl (lv_at hl 1 rfl) ?_
  rcases hE.2.2.2.2.2.2.1 with hZ | ⟨t, hZ⟩
  · refine va_gets hx hb hZ hS hown (sW_t hts 3 rfl : (Cond.fieldLink RJ0 1053 "jdk/internal/util/Preconditions" "SIOOBE_FORMATTER" "Ljava/util/function/BiFunction;").before _ s = true) (fun _ h9 => h9) dJ0_checkIndex_df160_2 ?_
    refine si_run (vx_runS (Ts := Tw) (As := [.int i, .int n, .null]) (rest := []) (bytes := cJ3_checkIndex_8e157) (maxL := 3) (ret := some .int) (n := 3) (own := RJ0) (index := 1059) ⟨hx, hb, hml, hown, hts⟩ (c_preIndexN l X D cy ad st s.heap.size v k hi hin) ⟨⟨rfl, rfl, Nat.le_of_ble_eq_true rfl, Nat.le_of_ble_eq_true rfl, ws_pay hts (tw_of cw_J3_checkIndex_8e157 rfl), List.mem_cons_self, hts _ (tw_of cw_J3_checkIndex_8e157 rfl), (sW_t hts 22 rfl : (Cond.initialized RJ3).before _ s = true), ⟨by decide, by decide⟩, fun sig h => ?_, (sW_t hts 8 rfl : (Cond.methodLink RJ0 1059 yJ3_checkIndex_8e157).before _ s = true)⟩, (sW_t hts 18 rfl : (Cond.static yJ3_checkIndex_8e157).before _ s = true)⟩ ⟨sP_blind, sP_at (k := k) hK hA hE hT hP hD hS⟩ rfl rfl hl.1 rfl (lv_room (Nat.le_of_ble_eq_true rfl)) dJ0_checkIndex_df160_5 ⟨Nat.le_of_ble_eq_true rfl, Nat.le_of_ble_eq_true rfl⟩) hS (wsA hD hS hA) (fun v1 ad1 H1 locs1 hv1 hx1 hP1 hD1 hS1 => ?_) (fun k9 ad1 H1 locs1 q9 ce hv1 => by cases hv1)
    · have e9 : (parseMethodDescriptor yJ3_checkIndex_8e157.desc).map (fun d => d.parameters.length) = some 3 := by decide +kernel
      rw [h] at e9
      exact (Option.some.inj e9).symm
    cases hv1
    replace hE := (exX_ok X).2.2.2.1 _ _ _ _ _ _ hx1 hE
    refine lv_pop hx hb dJ0_checkIndex_df160_8 rfl ?_
    exact s_vret hx hb hr hlocks dJ0_checkIndex_df160_9 hK hx1 hP1 hD1 hS1
  · refine va_gets hx hb hZ hS hown (sW_t hts 3 rfl : (Cond.fieldLink RJ0 1053 "jdk/internal/util/Preconditions" "SIOOBE_FORMATTER" "Ljava/util/function/BiFunction;").before _ s = true) (fun _ h9 => h9) dJ0_checkIndex_df160_2 ?_
    refine si_run (vx_runS (Ts := Tw) (As := [.int i, .int n, .ref t]) (rest := []) (bytes := cJ3_checkIndex_8e157) (maxL := 3) (ret := some .int) (n := 3) (own := RJ0) (index := 1059) ⟨hx, hb, hml, hown, hts⟩ (c_preIndexR l X D cy ad st s.heap.size v k hi hin t) ⟨⟨rfl, rfl, Nat.le_of_ble_eq_true rfl, Nat.le_of_ble_eq_true rfl, ws_pay hts (tw_of cw_J3_checkIndex_8e157 rfl), List.mem_cons_self, hts _ (tw_of cw_J3_checkIndex_8e157 rfl), (sW_t hts 22 rfl : (Cond.initialized RJ3).before _ s = true), ⟨by decide, by decide⟩, fun sig h => ?_, (sW_t hts 8 rfl : (Cond.methodLink RJ0 1059 yJ3_checkIndex_8e157).before _ s = true)⟩, (sW_t hts 18 rfl : (Cond.static yJ3_checkIndex_8e157).before _ s = true)⟩ ⟨sP_blind, sP_at (k := k) hK hA hE hT hP hD hS⟩ rfl rfl hl.1 rfl (lv_room (Nat.le_of_ble_eq_true rfl)) dJ0_checkIndex_df160_5 ⟨Nat.le_of_ble_eq_true rfl, Nat.le_of_ble_eq_true rfl⟩) hS (wsA hD hS hA) (fun v1 ad1 H1 locs1 hv1 hx1 hP1 hD1 hS1 => ?_) (fun k9 ad1 H1 locs1 q9 ce hv1 => by cases hv1)
    · have e9 : (parseMethodDescriptor yJ3_checkIndex_8e157.desc).map (fun d => d.parameters.length) = some 3 := by decide +kernel
      rw [h] at e9
      exact (Option.some.inj e9).symm
    cases hv1
    replace hE := (exX_ok X).2.2.2.1 _ _ _ _ _ _ hx1 hE
    refine lv_pop hx hb dJ0_checkIndex_df160_8 rfl ?_
    exact s_vret hx hb hr hlocks dJ0_checkIndex_df160_9 hK hx1 hP1 hD1 hS1
set_option maxHeartbeats 2000000 in
theorem c_l1char {j : Nat} (hk : k < 18) (hj : j < (aStr k).length) : vx_Met l yJ1_charAt_3b067 (Cond.code yJ1_charAt_3b067 cJ1_charAt_3b067 2 (some .char) :: Tw) (rmS 2 80) (sP X D cy ad st sz v k [.ref v, .int (nI j)]) (cQ D cy (va_A (wsOf cy ad st) sz) (gN st) ad (.inl (some (.int (nI ((aStr k).getD j 0)))), st)) (cX D cy (va_A (wsOf cy ad st) sz) (gN st) ad (.inl (some (.int (nI ((aStr k).getD j 0)))), st)) 0 0 (va_A (wsOf cy ad st) sz) := by
  have hlen := aStr_len k hk
  have hch := ty_char _ (ch_at hk hj)
  refine vx_ofW (cc := cJ1_charAt_3b067) (maxL := 2) (ret := some .char) (by decide) rfl ?_
  intro p e s m args below meth c s₁ B hml htab hv
  obtain ⟨rfl, ⟨hsz, hP, hK, hD0, hE⟩, hT⟩ := hv
  have hx := B.exec
  have hb := B.bytes
  have hr := B.returns
  have hts0 := atoms_spec (ws := Cond.code yJ1_charAt_3b067 cJ1_charAt_3b067 2 (some .char) :: Tw) B.pre
  have hts : ∀ w ∈ Tw, w.before _ s = true := fun w hw => hts0 w (List.mem_cons_of_mem _ hw)
  have hown : s.vm.findClass RJ1 = some m.cls := findClass_of_methodNamed B.named
  have hlocks := B.notSynchronized
  subst hsz
  have hD := hD0.self (sz := s.heap.size)
  generalize hAe : va_A (wsOf cy ad st) s.heap.size = A at hD hE hT ⊢
  have hA : ∀ q : Nat, s.heap.size ≤ q → A q := fun q h => by rw [← hAe]; exact Or.inr h
  have hS : va_S A s.heap s.heap [] := va_S.rf
  have hl := lv_entry ([.ref v, .int (nI j)]) (n := 2) (Nat.le_of_ble_eq_true rfl)
  rw [lg_entry_eq]
  generalize (lg_sl ([.ref v, .int (nI j)]) ++ List.replicate (2 - (lg_sl ([.ref v, .int (nI j)])).length) Slot.unset).toArray = ls at hl ⊢
  have hl : lv_has ls 2 [(0, .ref v), (1, .int (nI j))] := hl
  refine lv_iload_n hx hb dJ1_charAt_3b067_0 rfl (lv_at hl 1 rfl) ?_
  refine lv_aload_n hx hb dJ1_charAt_3b067_1 rfl (lv_at hl 0 rfl) ?_
  refine va_tlen hx hb hT hS (v := nI (aStr k).length) rfl dJ1_charAt_3b067_2 ?_
  refine si_run (vx_runS (Ts := Tw) (As := [.int (nI j), .int (nI (aStr k).length)]) (rest := []) (bytes := cJ0_checkIndex_df160) (maxL := 2) (ret := none) (n := 2) (own := RJ1) (index := 9) ⟨hx, hb, hml, hown, hts⟩ (c_strIndex l X D cy ad st s.heap.size v k (nI_pos (by omega)) (nI_lt hj (by omega))) ⟨⟨rfl, rfl, Nat.le_of_ble_eq_true rfl, Nat.le_of_ble_eq_true rfl, ws_pay hts (tw_of cw_J0_checkIndex_df160 rfl), List.mem_cons_self, hts _ (tw_of cw_J0_checkIndex_df160 rfl), (sW_t hts 20 rfl : (Cond.initialized RJ0).before _ s = true), ⟨by decide, by decide⟩, fun sig h => ?_, (sW_t hts 7 rfl : (Cond.methodLink RJ1 9 yJ0_checkIndex_df160).before _ s = true)⟩, (sW_t hts 17 rfl : (Cond.static yJ0_checkIndex_df160).before _ s = true)⟩ ⟨sP_blind, sP_at (k := k) hK hA hE hT hP hD hS⟩ rfl rfl hl.1 rfl (lv_room (Nat.le_of_ble_eq_true rfl)) dJ1_charAt_3b067_3 ⟨Nat.le_of_ble_eq_true rfl, Nat.le_of_ble_eq_true rfl⟩) hS (wsA hD hS hA) (fun v1 ad1 H1 locs1 hv1 hx1 hP1 hD1 hS1 => ?_) (fun k9 ad1 H1 locs1 q9 ce hv1 => by cases hv1)
  · have e9 : (parseMethodDescriptor yJ0_checkIndex_df160.desc).map (fun d => d.parameters.length) = some 2 := by decide +kernel
    rw [h] at e9
    exact (Option.some.inj e9).symm
  cases hv1
  replace hE := (exX_ok X).2.2.2.1 _ _ _ _ _ _ hx1 hE
  refine lv_aload_n hx hb dJ1_charAt_3b067_6 rfl (lv_at hl 0 rfl) ?_
  refine lv_iload_n hx hb dJ1_charAt_3b067_7 rfl (lv_at hl 1 rfl) ?_
  refine va_tb hx hb hT hS1 (i := nI j) (vp_in_nI hj (by omega)) (v := .int (nI ((aStr k).getD j 0))) (by rw [nI_clamp (by omega)]) dJ1_charAt_3b067_8 ?_
  refine lv_sipush (v := 255) hx hb dJ1_charAt_3b067_9 (by decide) ?_
  refine lv_iand hx hb dJ1_charAt_3b067_12 ?_
  refine lv_i2c (v := nI ((aStr k).getD j 0)) hx hb dJ1_charAt_3b067_13 hch.1 ?_
  exact s_ret hx hb hr hch.2 hlocks dJ1_charAt_3b067_14 hK hx1 hP1 hD1 hS1
set_option maxHeartbeats 2000000 in
theorem c_length (hk : k < 18) : vx_Met l yJ0_length_8abf5 (Cond.code yJ0_length_8abf5 cJ0_length_8abf5 1 (some .int) :: Tw) (rmS 3 120) (cP (exX X) D cy ad st sz [.ref (2000000 + k)]) (cQ D cy (va_A (wsOf cy ad st) sz) (gN st) ad (.inl (some (.int (nI (aStr k).length))), st)) (cX D cy (va_A (wsOf cy ad st) sz) (gN st) ad (.inl (some (.int (nI (aStr k).length))), st)) 0 0 (va_A (wsOf cy ad st) sz) := by
  have hlen := aStr_len k hk
  refine vx_ofW (cc := cJ0_length_8abf5) (maxL := 1) (ret := some .int) (by decide) rfl ?_
  intro p e s m args below meth c s₁ B hml htab hv
  obtain ⟨rfl, hsz, hP, hK, hD0, hE⟩ := hv
  have hx := B.exec
  have hb := B.bytes
  have hr := B.returns
  have hts0 := atoms_spec (ws := Cond.code yJ0_length_8abf5 cJ0_length_8abf5 1 (some .int) :: Tw) B.pre
  have hts : ∀ w ∈ Tw, w.before _ s = true := fun w hw => hts0 w (List.mem_cons_of_mem _ hw)
  have hown : s.vm.findClass RJ0 = some m.cls := findClass_of_methodNamed B.named
  have hlocks := B.notSynchronized
  subst hsz
  have hD := hD0.self (sz := s.heap.size)
  generalize hAe : va_A (wsOf cy ad st) s.heap.size = A at hD hE ⊢
  have hA : ∀ q : Nat, s.heap.size ≤ q → A q := fun q h => by rw [← hAe]; exact Or.inr h
  have hS : va_S A s.heap s.heap [] := va_S.rf
  have hl := lv_entry ([.ref (ad (2000000 + k))]) (n := 1) (Nat.le_of_ble_eq_true rfl)
  show W _ _ _ _ _ _ _ _ _ _ _ _ _ _ _ (entryFrame m ([.ref (ad (2000000 + k))] : List Value).toArray 1)
  rw [lg_entry_eq]
  generalize (lg_sl ([.ref (ad (2000000 + k))]) ++ List.replicate (1 - (lg_sl ([.ref (ad (2000000 + k))])).length) Slot.unset).toArray = ls at hl ⊢
  have hl : lv_has ls 1 [(0, .ref (ad (2000000 + k)))] := hl
  obtain ⟨w9, hw, hT⟩ := (hE.2.2.1 k hk).2.2
  refine lv_aload_n hx hb dJ0_length_8abf5_0 rfl (lv_at hl 0 rfl) ?_
  refine vk_getf hx hb hw hS hown (sW_t hts 2 rfl : (Cond.fieldLink RJ0 9 "java/lang/String" "value" "[B").before _ s = true) (fun _ h9 => h9) dJ0_length_8abf5_1 ?_
  refine va_tlen hx hb hT hS (v := nI (aStr k).length) rfl dJ0_length_8abf5_4 ?_
  refine lv_aload_n hx hb dJ0_length_8abf5_5 rfl (lv_at hl 0 rfl) ?_
  refine si_run (vx_runV (C := RJ0) (b := ad (2000000 + k)) (Ts := Tw) (As := []) (rest := [.int (nI (aStr k).length)]) (bytes := cJ0_coder_7d493) (maxL := 1) (ret := some .byte) (n := 0) (own := RJ0) (index := 335) ⟨hx, hb, hml, hown, hts⟩ (c_coder l X D cy ad st s.heap.size w9 k hk) ⟨⟨rfl, rfl, Nat.le_of_ble_eq_true rfl, Nat.le_of_ble_eq_true rfl, ws_pay hts (tw_of cw_J0_coder_7d493 rfl), List.mem_cons_self, hts _ (tw_of cw_J0_coder_7d493 rfl), (sW_t hts 20 rfl : (Cond.initialized RJ0).before _ s = true), ⟨by decide, by decide⟩, fun sig h => ?_, (sW_t hts 5 rfl : (Cond.methodLink RJ0 335 yJ0_coder_7d493).before _ s = true)⟩, (sW_t hts 11 rfl : (Cond.instanceMethod yJ0_coder_7d493).before _ s = true), (sW_t hts 12 rfl : (Cond.selects RJ0 yJ0_coder_7d493 yJ0_coder_7d493).before _ s = true)⟩ ⟨sP_blind, (by obtain ⟨ce, z1, z2, z3, z4⟩ := (hE.2.2.1 k hk).1; exact ⟨ce, by rw [hS.2.1 _ (Array.getElem?_eq_some_iff.mp z1).1 z4]; exact z1, z2, z3⟩), sP_at (k := k) hK hA hE hT hP hD hS⟩ rfl rfl hl.1 rfl (lv_room (Nat.le_of_ble_eq_true rfl)) dJ0_length_8abf5_6 ⟨Nat.le_of_ble_eq_true rfl, Nat.le_of_ble_eq_true rfl⟩) hS (wsA hD hS hA) (fun v1 ad1 H1 locs1 hv1 hx1 hP1 hD1 hS1 => ?_) (fun k9 ad1 H1 locs1 q9 ce hv1 => by cases hv1)
  · have e9 : (parseMethodDescriptor yJ0_coder_7d493.desc).map (fun d => d.parameters.length) = some 0 := by decide +kernel
    rw [h] at e9
    exact (Option.some.inj e9).symm
  cases hv1
  replace hE := (exX_ok X).2.2.2.1 _ _ _ _ _ _ hx1 hE
  refine lv_ishr hx hb dJ0_length_8abf5_9 ?_
  rw [show nI (aStr k).length >>> ((0 : Int32) &&& 31) = nI (aStr k).length from sc_shr0 (by omega)]
  exact s_ret hx hb hr rfl hlocks dJ0_length_8abf5_10 hK hx1 hP1 hD1 hS1
set_option maxHeartbeats 2000000 in
theorem c_charAt {j : Nat} (hk : k < 18) (hj : j < (aStr k).length) : vx_Met l yJ0_charAt_5068e (Cond.code yJ0_charAt_5068e cJ0_charAt_5068e 2 (some .char) :: Tw) (rmS 3 120) (cP (exX X) D cy ad st sz [.ref (2000000 + k), .int (nI j)]) (cQ D cy (va_A (wsOf cy ad st) sz) (gN st) ad (.inl (some (.int (nI ((aStr k).getD j 0)))), st)) (cX D cy (va_A (wsOf cy ad st) sz) (gN st) ad (.inl (some (.int (nI ((aStr k).getD j 0)))), st)) 0 0 (va_A (wsOf cy ad st) sz) := by
  have hlen := aStr_len k hk
  have hch := ty_char _ (ch_at hk hj)
  refine vx_ofW (cc := cJ0_charAt_5068e) (maxL := 2) (ret := some .char) (by decide) rfl ?_
  intro p e s m args below meth c s₁ B hml htab hv
  obtain ⟨rfl, hsz, hP, hK, hD0, hE⟩ := hv
  have hx := B.exec
  have hb := B.bytes
  have hr := B.returns
  have hts0 := atoms_spec (ws := Cond.code yJ0_charAt_5068e cJ0_charAt_5068e 2 (some .char) :: Tw) B.pre
  have hts : ∀ w ∈ Tw, w.before _ s = true := fun w hw => hts0 w (List.mem_cons_of_mem _ hw)
  have hown : s.vm.findClass RJ0 = some m.cls := findClass_of_methodNamed B.named
  have hlocks := B.notSynchronized
  subst hsz
  have hD := hD0.self (sz := s.heap.size)
  generalize hAe : va_A (wsOf cy ad st) s.heap.size = A at hD hE ⊢
  have hA : ∀ q : Nat, s.heap.size ≤ q → A q := fun q h => by rw [← hAe]; exact Or.inr h
  have hS : va_S A s.heap s.heap [] := va_S.rf
  have hl := lv_entry ([.ref (ad (2000000 + k)), .int (nI j)]) (n := 2) (Nat.le_of_ble_eq_true rfl)
  show W _ _ _ _ _ _ _ _ _ _ _ _ _ _ _ (entryFrame m ([.ref (ad (2000000 + k)), .int (nI j)] : List Value).toArray 2)
  rw [lg_entry_eq]
  generalize (lg_sl ([.ref (ad (2000000 + k)), .int (nI j)]) ++ List.replicate (2 - (lg_sl ([.ref (ad (2000000 + k)), .int (nI j)])).length) Slot.unset).toArray = ls at hl ⊢
  have hl : lv_has ls 2 [(0, .ref (ad (2000000 + k))), (1, .int (nI j))] := hl
  obtain ⟨w9, hw, hT⟩ := (hE.2.2.1 k hk).2.2
  refine lv_aload_n hx hb dJ0_charAt_5068e_0 rfl (lv_at hl 0 rfl) ?_
  refine si_run (vx_runV (C := RJ0) (b := ad (2000000 + k)) (Ts := Tw) (As := []) (rest := []) (bytes := cJ0_isLatin1_aae02) (maxL := 1) (ret := some .boolean) (n := 0) (own := RJ0) (index := 492) ⟨hx, hb, hml, hown, hts⟩ (c_isLatin1 l X D cy ad st s.heap.size w9 k hk) ⟨⟨rfl, rfl, Nat.le_of_ble_eq_true rfl, Nat.le_of_ble_eq_true rfl, ws_pay hts (tw_of cw_J0_isLatin1_aae02 rfl), List.mem_cons_self, hts _ (tw_of cw_J0_isLatin1_aae02 rfl), (sW_t hts 20 rfl : (Cond.initialized RJ0).before _ s = true), ⟨by decide, by decide⟩, fun sig h => ?_, (sW_t hts 4 rfl : (Cond.methodLink RJ0 492 yJ0_isLatin1_aae02).before _ s = true)⟩, (sW_t hts 9 rfl : (Cond.instanceMethod yJ0_isLatin1_aae02).before _ s = true), (sW_t hts 10 rfl : (Cond.selects RJ0 yJ0_isLatin1_aae02 yJ0_isLatin1_aae02).before _ s = true)⟩ ⟨sP_blind, (by obtain ⟨ce, z1, z2, z3, z4⟩ := (hE.2.2.1 k hk).1; exact ⟨ce, by rw [hS.2.1 _ (Array.getElem?_eq_some_iff.mp z1).1 z4]; exact z1, z2, z3⟩), sP_at (k := k) hK hA hE hT hP hD hS⟩ rfl rfl hl.1 rfl (lv_room (Nat.le_of_ble_eq_true rfl)) dJ0_charAt_5068e_1 ⟨Nat.le_of_ble_eq_true rfl, Nat.le_of_ble_eq_true rfl⟩) hS (wsA hD hS hA) (fun v1 ad1 H1 locs1 hv1 hx1 hP1 hD1 hS1 => ?_) (fun k9 ad1 H1 locs1 q9 ce hv1 => by cases hv1)
  · have e9 : (parseMethodDescriptor yJ0_isLatin1_aae02.desc).map (fun d => d.parameters.length) = some 0 := by decide +kernel
    rw [h] at e9
    exact (Option.some.inj e9).symm
  cases hv1
  replace hE := (exX_ok X).2.2.2.1 _ _ _ _ _ _ hx1 hE
  refine lv_if_eq (tgt := 16) hx hb dJ0_charAt_5068e_4 (by decide) (fun h => absurd h (by decide)) (fun _ => ?_)
  refine lv_aload_n hx hb dJ0_charAt_5068e_7 rfl (lv_at hl 0 rfl) ?_
  refine vk_getf hx hb hw hS1 hown (sW_t hts 2 rfl : (Cond.fieldLink RJ0 9 "java/lang/String" "value" "[B").before _ s = true) (fun _ h9 => h9) dJ0_charAt_5068e_8 ?_
  refine lv_iload_n hx hb dJ0_charAt_5068e_11 rfl (lv_at hl 1 rfl) ?_
  refine si_run (vx_runS (Ts := Tw) (As := [.ref w9, .int (nI j)]) (rest := []) (bytes := cJ1_charAt_3b067) (maxL := 2) (ret := some .char) (n := 2) (own := RJ0) (index := 495) ⟨hx, hb, hml, hown, hts⟩ (c_l1char l X D cy ad1 st H1.size w9 k hk hj) ⟨⟨rfl, rfl, Nat.le_of_ble_eq_true rfl, Nat.le_of_ble_eq_true rfl, ws_pay hts (tw_of cw_J1_charAt_3b067 rfl), List.mem_cons_self, hts _ (tw_of cw_J1_charAt_3b067 rfl), (sW_t hts 21 rfl : (Cond.initialized RJ1).before _ s = true), ⟨by decide, by decide⟩, fun sig h => ?_, (sW_t hts 6 rfl : (Cond.methodLink RJ0 495 yJ1_charAt_3b067).before _ s = true)⟩, (sW_t hts 19 rfl : (Cond.static yJ1_charAt_3b067).before _ s = true)⟩ ⟨sP_blind, sP_at (k := k) hK hA hE hT hP1 hD1 hS1⟩ rfl rfl hl.1 rfl (lv_room (Nat.le_of_ble_eq_true rfl)) dJ0_charAt_5068e_12 ⟨Nat.le_of_ble_eq_true rfl, Nat.le_of_ble_eq_true rfl⟩) hS1 (wsA hD1 hS1 hA) (fun v1 ad2 H2 locs2 hv2 hx2 hP2 hD2 hS2 => ?_) (fun k9 ad2 H2 locs2 q9 ce hv2 => by cases hv2)
  · have e9 : (parseMethodDescriptor yJ1_charAt_3b067.desc).map (fun d => d.parameters.length) = some 2 := by decide +kernel
    rw [h] at e9
    exact (Option.some.inj e9).symm
  cases hv2
  replace hE := (exX_ok X).2.2.2.1 _ _ _ _ _ _ hx2 hE
  exact s_ret hx hb hr hch.2 hlocks dJ0_charAt_5068e_15 hK (hx1.trans hx2 (Nat.le_refl _)) hP2 hD2 hS2
end STRC
