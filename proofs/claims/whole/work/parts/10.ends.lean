/-! ENDS of a body, throwing and catching, new things -/
section SIME
variable {p : Program} {l : Launch} {e : Env} {R : Room} {s : State} {m : MethodId} {args : Array Value} {below : List Frame} {meth : Method} {c : Code} {cc : ByteArray} {D : va_G} {cy : Nat → ClassId} {A : Nat → Prop} {nL : Nat} {Ts : List Cond} {own : String}
variable {pc : Nat} {ls : aL} {r : List Value} {cn : Nat × Nat} {st : aSt} {n0 mc ms : Nat} {ad0 : Nat → Nat} {Q : State → Prop} {XC : String → State → State → Prop}
theorem si_ireturn (hx : p.tables.exec = Jvm.exec) (hb : c.code = cc) {x : Int32} {ty : FieldType} (hr : meth.sig.returnType = some ty) (hn : narrow ty (.int x) = .int x) (hlocks : meth.locks = false) (d : decode cc pc = .ok (.ireturn, 1)) (h1 : cn.1 ≤ mc) (h2 : cn.2 ≤ ms) (hK : va_K D clL (tysL cy) s) :
    Gp p l e R s m args below meth c (vx_MQ below (cQ D cy A n0 ad0 (.inl (some (.int x)), st)) XC args s mc ms A) D clL cy A nL (AdX n0 ad0) pc ls [.int x] cn st := by
  intro ad jl H locs ha hL hV hP hD hS
  exact W.widen h1 h2 (vx_ret (W.zret hx hb hr hn (fun t ht hW => ⟨⟨some (.int x), ad, rfl, rfl, ha, by rw [ht]; exact hP, hD, va_K.moved hW.alike hK⟩, hS.F ht⟩) hS.2.2 d hlocks))
theorem si_lreturn (hx : p.tables.exec = Jvm.exec) (hb : c.code = cc) {x : Int64} (hr : meth.sig.returnType = some .long) (hlocks : meth.locks = false) (d : decode cc pc = .ok (.lreturn, 1)) (h1 : cn.1 ≤ mc) (h2 : cn.2 ≤ ms) (hK : va_K D clL (tysL cy) s) :
    Gp p l e R s m args below meth c (vx_MQ below (cQ D cy A n0 ad0 (.inl (some (.long x)), st)) XC args s mc ms A) D clL cy A nL (AdX n0 ad0) pc ls [.long x] cn st := by
  intro ad jl H locs ha hL hV hP hD hS
  exact W.widen h1 h2 (vx_ret (W.lret hx hb hr (fun t ht hW => ⟨⟨some (.long x), ad, rfl, rfl, ha, by rw [ht]; exact hP, hD, va_K.moved hW.alike hK⟩, hS.F ht⟩) hS.2.2 d hlocks))
theorem si_return (hx : p.tables.exec = Jvm.exec) (hb : c.code = cc) (hr : meth.sig.returnType = none) (hlocks : meth.locks = false) (d : decode cc pc = .ok (.return_, 1)) (h1 : cn.1 ≤ mc) (h2 : cn.2 ≤ ms) (hK : va_K D clL (tysL cy) s) :
    Gp p l e R s m args below meth c (vx_MQ below (cQ D cy A n0 ad0 (.inl none, st)) XC args s mc ms A) D clL cy A nL (AdX n0 ad0) pc ls [] cn st := by
  intro ad jl H locs ha hL hV hP hD hS
  exact W.widen h1 h2 (vx_ret (W.vret hx hb hr (fun t ht hW => ⟨⟨none, ad, rfl, rfl, ha, by rw [ht]; exact hP, hD, va_K.moved hW.alike hK⟩, hS.F ht⟩) hS.2.2 d hlocks))
/-- not caught here -/
theorem si_out {k : Nat} {Qc : Array Value → State → Outcome → State → Prop} (hout : ∀ x ∈ c.exceptionTable.toList, covers x pc = false) (hlocks : meth.locks = false) (h1 : cn.1 ≤ mc) (h2 : cn.2 ≤ ms) (hK : va_K D clL (tysL cy) s) :
    Gx p l e R s m args below meth c (vx_MQ below Qc (cX D cy A n0 ad0 (.inr k, st)) args s mc ms A) D cy A nL (AdX n0 ad0) pc ls r cn st k := by
  intro ad jl H locs q9 ce ha hL hV hP hD hS hc hv hcl
  exact vx_out (E := exN k) hout hlocks hc hv hcl (fun t ht hvm => ⟨⟨k, ad, rfl, rfl, ha, by rw [ht]; exact hP, hD, va_K.moved hvm hK⟩, hS.F ht⟩) hS.2.2 h1 h2
/-- throw new E("text"), from 'new' on -/
theorem si_throw {k : Nat} {Qc : Array Value → State → Outcome → State → Prop} (hx : p.tables.exec = Jvm.exec) (hb : c.code = cc) (hml : c.maxLocals = nL) (hl : l.stackTraces = false) {text : String} {names : List String} {ik is ic q : Nat} (hown : s.vm.findClass own = some m.cls) (hcls : Bundle.fit (exN k) = true) (hnames : ∀ n ∈ names, Bundle.fit n = true)
    (hk : (Cond.classLink own ik (exN k)).before args s = true) (hini : (Cond.initialized (exN k)).before args s = true) (hstr : ∀ ad, AdX n0 ad0 ad → vk_R own is text (ad q) s) (hat : ∀ w ∈ vx_atS own ic (exN k) names, w.before args s = true)
    (hgood : ∀ w ∈ Cond.classLink own ik (exN k) :: Cond.initialized (exN k) :: vx_atS own ic (exN k) names, vx_ot w = true)
    (hU : vx_Zq Bundle.tN "UNASSIGNED_STACK" Bundle.steD A s s.heap) (hN : vx_Zq Bundle.tN "SUPPRESSED_SENTINEL" Bundle.listD A s s.heap)
    (d0 : decode cc pc = .ok (.new ik, 3)) (d3 : decode cc (pc + 3) = .ok (.dup, 1)) (d4 : decode cc (pc + 4) = .ok (.ldc_w is, 3)) (d7 : decode cc (pc + 7) = .ok (.invokespecial ic, 3)) (d10 : decode cc (pc + 10) = .ok (.athrow, 1))
    (hout : ∀ x ∈ c.exceptionTable.toList, covers x (pc + 10) = false) (hRf : names.length + 3 < R.frames) (hRl : 13 * (names.length + 1) + 43 ≤ R.locals) (hRc : cn.1 + 1 ≤ R.cells) (hRs : cn.2 + 6 ≤ R.slots) (hlocks : meth.locks = false) (h1 : cn.1 + 1 ≤ mc) (h2 : cn.2 + 6 ≤ ms) (hK : va_K D clL (tysL cy) s) :
    Gp p l e R s m args below meth c (vx_MQ below Qc (cX D cy A n0 ad0 (.inr k, st)) args s mc ms A) D clL cy A nL (AdX n0 ad0) pc ls [] cn st := by
  intro ad jl H locs ha hL hV hP hD hS
  refine vx_throwSW hx hb hl hown hcls hnames hk hini (hstr ad ha) hat hgood hU hN hS (by rw [hml]; exact hL.1) d0 d3 d4 d7 d10 hout hRf (by simpa using hRl) hRc hRs hlocks (fun t hvm hz hq => ?_) hS.2.2 h1 h2
  refine ⟨⟨k, ad, rfl, rfl, ha, hP.kept (fun k9 x hx9 => hq x.1 ((hP k9 x hx9).lt)), hD, va_K.moved hvm hK⟩, Nat.le_trans hS.1 hz, fun q9 hq1 hq2 => ?_⟩
  rw [hq q9 (Nat.lt_of_lt_of_le hq1 hS.1)]
  exact hS.2.1 q9 hq1 hq2
theorem lno_ne : ∀ (l : aL) (i j : Nat) (w : Value), (lno l i)[j]? = some (some w) → j ≠ i ∧ l[j]? = some (some w)
  | [], i, j, w, h => by simp [lno] at h
  | a :: l, 0, 0, w, h => by simp [lno] at h
  | a :: l, 0, j + 1, w, h => ⟨by omega, by simpa [lno] using h⟩
  | a :: l, i + 1, 0, w, h => ⟨by omega, by simpa [lno] using h⟩
  | a :: l, i + 1, j + 1, w, h => by
    rw [lno, List.getElem?_cons_succ] at h
    obtain ⟨h1, h2⟩ := lno_ne l i j w h
    exact ⟨by omega, by rw [List.getElem?_cons_succ]; exact h2⟩
theorem LH.cat {jl' : Array Slot} {ad : Nat → Nat} {i : Nat} {u : Value} (h' : lv_has jl' nL ((i, u) :: (held ad 0 ls).filter (fun q => !(q.1 == i) && !(q.1 + 1 == i && q.2.category == 2)))) : LH jl' nL ad (lno (lclr ls i) i) := by
  refine ⟨h'.1, h'.2.1, fun q hq => ?_⟩
  obtain ⟨w, h1, h2⟩ := held_mem0.mp (show (q.1, q.2) ∈ held ad 0 (lno (lclr ls i) i) from hq)
  refine h'.2.2 q ?_
  obtain ⟨e1, e2⟩ := lno_ne _ i q.1 w h1
  obtain ⟨e2, e3⟩ := lclr_at ls i q.1 w e2
  refine List.mem_cons_of_mem _ (List.mem_filter.mpr ⟨held_mem0.mpr ⟨w, e2, h2⟩, ?_⟩)
  have h3 : ¬ (q.1 + 1 = i ∧ q.2.category = 2) := by rw [h2, trv_cat]; exact e3
  simp only [Bool.and_eq_true, Bool.not_eq_true', beq_eq_false_iff_ne, Bool.and_eq_false_iff]
  refine ⟨e1, ?_⟩
  by_cases h4 : q.1 + 1 = i
  · exact Or.inr (fun h5 => h3 ⟨h4, h5⟩)
  · exact Or.inl h4
theorem VOk.cat {i : Nat} (h : VOk st ls r) : VOk st (lno (lclr ls i) i) [] := ⟨h.1, fun j o hj => h.2.1 j o (lclr_at ls i j _ (lno_ne _ i j _ hj).2).1, fun o ho => by simp at ho⟩
/-- caught here: the handler begins by laying it aside -/
theorem si_catch (hx : p.tables.exec = Jvm.exec) (hb : c.code = cc) {Ad : (Nat → Nat) → Prop} {k i : Nat} {name : String} (hown : s.vm.findClass own = some m.cls) (pre : List ExceptionTableEntry) (x : ExceptionTableEntry) (suf : List ExceptionTableEntry) (hsplit : c.exceptionTable.toList = pre ++ x :: suf)
    (hpass : ∀ z ∈ pre, covers z pc = false ∨ (z.catchType ≠ 0 ∧ ∃ nm : String, (Cond.classLink own z.catchType nm).before args s = true ∧ va_Nc (exN k) nm s)) (hcv : covers x pc = true) (h0 : x.catchType ≠ 0)
    (hlink : (Cond.classLink own x.catchType name).before args s = true) (hcast : (Cond.castable (exN k) name).before args s = true) (hn : i < nL) (d : decode cc x.handlerPc = .ok (.astore i, 2))
    (kk : Gp p l e R s m args below meth c Q D clL cy A nL Ad (x.handlerPc + 2) (lno (lclr ls i) i) [] cn st) : Gx p l e R s m args below meth c Q D cy A nL Ad pc ls r cn st k := by
  intro ad jl H locs q9 ce ha hL hV hP hD hS hc hv hcl
  refine vx_catch (E := exN k) hown pre x suf hsplit hpass hcv h0 hlink hcast hc hv hcl ?_
  exact lv_astore hx hb d hL hn rfl (fun jl2 hl2 => kk ad jl2 H locs ha (LH.cat hl2) hV.cat hP hD hS)
theorem si_catch_n (hx : p.tables.exec = Jvm.exec) (hb : c.code = cc) {Ad : (Nat → Nat) → Prop} {k i : Nat} {j : Fin 4} {name : String} (hown : s.vm.findClass own = some m.cls) (pre : List ExceptionTableEntry) (x : ExceptionTableEntry) (suf : List ExceptionTableEntry) (hsplit : c.exceptionTable.toList = pre ++ x :: suf)
    (hpass : ∀ z ∈ pre, covers z pc = false ∨ (z.catchType ≠ 0 ∧ ∃ nm : String, (Cond.classLink own z.catchType nm).before args s = true ∧ va_Nc (exN k) nm s)) (hcv : covers x pc = true) (h0 : x.catchType ≠ 0)
    (hlink : (Cond.classLink own x.catchType name).before args s = true) (hcast : (Cond.castable (exN k) name).before args s = true) (hn : i < nL) (d : decode cc x.handlerPc = .ok (.astore_n j, 1)) (hi : (j : Nat) = i)
    (kk : Gp p l e R s m args below meth c Q D clL cy A nL Ad (x.handlerPc + 1) (lno (lclr ls i) i) [] cn st) : Gx p l e R s m args below meth c Q D cy A nL Ad pc ls r cn st k := by
  intro ad jl H locs q9 ce ha hL hV hP hD hS hc hv hcl
  refine vx_catch (E := exN k) hown pre x suf hsplit hpass hcv h0 hlink hcast hc hv hcl ?_
  exact lv_astore_n hx hb d hi hL hn rfl (fun jl2 hl2 => kk ad jl2 H locs ha (LH.cat hl2) hV.cat hP hD hS)
end SIME
/-! new things -/
theorem mkNew_cell {cy : Nat → ClassId} {ad : Nat → Nat} {st : aSt} {q i : Nat} (hc : Cl st) (hi : i < gN st) : cellOf cy (va_up ad (gN st) q) (mkNew st) i = cellOf cy ad st i := by
  have hne : i ≠ gN st := by omega
  have e1 : gI (mkNew st) i = gI st i := va_up_ne _ _ hne
  have e2 : gJ (mkNew st) i = gJ st i := va_up_ne _ _ hne
  have e3 : gR (mkNew st) i = gR st i := va_up_ne _ _ hne
  have e4 : ∀ k, (gR st i k).map (va_up ad (gN st) q) = (gR st i k).map ad := by
    intro k
    cases h : gR st i k with
    | none => rfl
    | some r =>
      have := hc.2 i k r hi h
      exact congrArg some (va_up_ne _ _ (by omega))
  unfold cellOf fsOf
  simp only [e1, e2, e3, e4]
theorem wsOf_new {cy : Nat → ClassId} {ad : Nat → Nat} {st : aSt} {q : Nat} (hc : Cl st) : wsOf cy (va_up ad (gN st) q) (mkNew st) = wsOf cy ad st ++ [(q, cellOf cy (va_up ad (gN st) q) (mkNew st) (gN st))] := by
  have hn : gN (mkNew st) = gN st + 1 := rfl
  unfold wsOf
  rw [hn, List.range_succ, List.map_append, List.map_cons, List.map_nil, va_up_self]
  congr 1
  apply List.map_congr_left
  intro i hi
  have hi := List.mem_range.mp hi
  rw [mkNew_cell hc hi, va_up_ne _ _ (by omega)]
theorem Cl_new {st : aSt} (h : Cl st) (h9 : gN st + 1 < 1000000) : Cl (mkNew st) := by
  refine ⟨h9, fun i k r hi hr => ?_⟩
  have hr : va_up st.2.2.2 st.1 (fun _ => none) i k = some r := hr
  by_cases e : i = st.1
  · subst e; rw [va_up_self] at hr; cases hr
  · rw [va_up_ne _ _ e] at hr
    have hi2 : i < gN st + 1 := hi
    have : i ≠ gN st := e
    have := h.2 i k r (by omega) hr
    show r < gN st + 1
    omega
theorem AdX_new {n : Nat} {ad : Nat → Nat} {st : aSt} {q : Nat} (h : n ≤ gN st) (h9 : gN st < 1000000) : AdX n ad (va_up ad (gN st) q) := fun i hi => va_up_ne _ _ (by omega)
section SIMN
variable {p : Program} {l : Launch} {e : Env} {R : Room} {s : State} {m : MethodId} {args : Array Value} {below : List Frame} {meth : Method} {c : Code} {cc : ByteArray} {D : va_G} {cy : Nat → ClassId} {A : Nat → Prop} {nL : Nat} {Ts : List Cond} {own : String} {Ad : (Nat → Nat) → Prop} {Q : State → Prop}
variable {pc : Nat} {ls : aL} {r : List Value} {cn : Nat × Nat} {st : aSt}
theorem VOk.new {stk : List Value} (h : VOk st ls stk) (h9 : gN st + 1 < 1000000) : VOk (mkNew st) ls (.ref (gN st) :: stk) := by
  have up : ∀ o, okr (gN st) o → okr (gN (mkNew st)) o := fun o h => h.elim (fun q => Or.inl (Nat.lt_succ_of_lt q)) Or.inr
  refine ⟨Cl_new h.1 h9, fun j o hj => up o (h.2.1 j o hj), fun o ho => ?_⟩
  rcases List.mem_cons.mp ho with e | e
  · cases e; exact Or.inl (Nat.lt_succ_self _)
  · exact up o (h.2.2 o e)
theorem fs_new {ad : Nat → Nat} (c : Nat) (hc : c < 10) (hk : KK (gN st) = c) (j : Nat) (hj : j < cN c) : defaultValue (cTy c j) = vp_V (fsOf ad (mkNew st) (gN st)) j := by
  have hj2 : j < nFl (KK (gN st)) := by rw [hk, ← cN_nFl c hc]; exact hj
  have e : vp_V (fsOf ad (mkNew st) (gN st)) j = (if iFl (KK (gN st)) j = true then .int (gI (mkNew st) (gN st) j) else va_rf ((gR (mkNew st) (gN st) j).map ad)) := by
    unfold vp_V
    rw [List.getD_eq_getElem?_getD, fsOf_at hj2]
    rfl
  have e1 : gI (mkNew st) (gN st) j = 0 := congrFun (va_up_self st.2.1 st.1 (fun _ => (0 : Int32))) j
  have e2 : gR (mkNew st) (gN st) j = none := congrFun (va_up_self st.2.2.2 st.1 (fun _ => (none : Option Nat))) j
  rw [e, e1, e2, hk]
  cases hi : iFl c j with
  | true => rw [if_pos rfl, cTy_int c hc j hj hi]; rfl
  | false =>
    rw [if_neg (by decide)]
    have := cTy_ref c hc j hj hi
    cases h : cTy c j <;> rw [h] at this <;> first | rfl | (simp [isRT] at this)
theorem fs_ad {a1 a2 : Nat → Nat} : fsOf a1 (mkNew st) (gN st) = fsOf a2 (mkNew st) (gN st) := by
  have e2 : ∀ j, gR (mkNew st) (gN st) j = none := fun j => congrFun (va_up_self st.2.2.2 st.1 (fun _ => (none : Option Nat))) j
  unfold fsOf
  simp only [e2]
  rfl
theorem si_new (hx : p.tables.exec = Jvm.exec) (hb : c.code = cc) (hts : ∀ w ∈ Ts, w.before args s = true) (hK : va_K D clL (tysL cy) s) (hown : s.vm.findClass own = some m.cls) (hA : ∀ q, s.heap.size ≤ q → A q) (hAd : ∀ ad ad', AdX (gN st) ad ad' → Ad ad → Ad ad') {ci ix : Nat} (hci : ci < 10) (hin : ∀ w ∈ u_ws (cC ci) (cT ci) (cN ci), w ∈ Ts) (hKo : KK (gN st) = ci)
    (hcl : (Cond.classLink own ix (cC ci)).before args s = true) (hinst : (Cond.instantiable (cC ci) (cN ci)).before args s = true) (hini : (Cond.initialized (cC ci)).before args s = true) (h9 : gN st + 1 < 1000000) (hRc : cn.1 + 1 ≤ R.cells) (hRs : cn.2 + cN ci ≤ R.slots) (d : decode cc pc = .ok (.new ix, 3))
    (kk : Gp p l e R s m args below meth c Q D clL cy A nL Ad (pc + 3) ls (.ref (gN st) :: r) (cn.1 + 1, cn.2 + cN ci) (mkNew st)) : Gp p l e R s m args below meth c Q D clL cy A nL Ad pc ls r cn st := by
  intro ad jl H locs ha hL hV hP hD hS
  refine va_new (ci := ci) (fs := fsOf (va_up ad (gN st) H.size) (mkNew st) (gN st)) hx hb hts hin (cTy ci) (cty_ok ci hci) hown hcl hinst hini hK hP hD hS hA (clL_at ci hci) (fun j hj => fs_new ci hci hKo j hj) hRc hRs d (fun q H1 hP1 hD1 hS1 => ?_)
  have e1 : wsOf cy (va_up ad (gN st) q) (mkNew st) = wsOf cy ad st ++ [(q, .inr (ci, fsOf (va_up ad (gN st) H.size) (mkNew st) (gN st)))] := by
    rw [wsOf_new hV.1, cell_obj (by omega), hKo, fs_ad (a1 := va_up ad (gN st) q) (a2 := va_up ad (gN st) H.size)]
  rw [← e1] at hP1 hD1
  have hx1 : AdX (gN st) ad (va_up ad (gN st) q) := AdX_new (Nat.le_refl _) (by omega)
  have h := kk (va_up ad (gN st) q) jl H1 locs (hAd _ _ hx1 ha) (hL.ad hx1 hV.2.1) (hV.new h9) hP1 hD1 hS1
  have e2 : ((.ref (gN st) :: r : List Value)).map (trv (va_up ad (gN st) q)) = .ref q :: r.map (trv ad) := by
    rw [List.map_cons, map_ad hx1 hV.2.2]
    exact congrArg (fun z => Value.ref z :: _) (va_up_self _ _ _)
  rw [e2] at h
  exact h
theorem LL_le (o : Nat) : LL o ≤ 3000 := by
  unfold LL
  repeat' split
  all_goals decide
theorem arr_same {U : State} {tys : List (ClassId × FieldType)} {cA cB : ClassId} {ty : FieldType} (hK : va_K D clL (tys ++ [(cA, ty)]) U) {i : Nat} (hi : tys[i]? = some (cB, ty)) (ht : ty = .int ∨ ty = .long) : cA = cB := by
  have h1 := (hK.2 tys.length (cA, ty) (by rw [List.getElem?_append_right (Nat.le_refl _), Nat.sub_self]; rfl)).2
  have h2 := (hK.2 i (cB, ty) (by rw [List.getElem?_append_left (List.getElem?_eq_some_iff.mp hi).1]; exact hi)).2
  rcases ht with rfl | rfl
  · exact Option.some.inj (h1.symm.trans h2)
  · exact Option.some.inj (h1.symm.trans h2)
theorem si_newI (hx : p.tables.exec = Jvm.exec) (hb : c.code = cc) (hK : va_K D clL (tysL cy) s) (hA : ∀ q, s.heap.size ≤ q → A q) (hAd : ∀ ad ad', AdX (gN st) ad ad' → Ad ad → Ad ad') (harr : (Cond.arrayClass .int).before args s = true) {n : Int32} (hKo : KK (gN st) = 10) (hn : ¬ n < 0) (hN : n.toNatClampNeg = LL (gN st)) (h9 : gN st + 1 < 1000000) (hRc : cn.1 + 1 ≤ R.cells) (hRs : cn.2 + LL (gN st) ≤ R.slots) (d : decode cc pc = .ok (.newarray .int, 2))
    (kk : Gp p l e R s m args below meth c Q D clL cy A nL Ad (pc + 2) ls (.ref (gN st) :: r) (cn.1 + 1, cn.2 + LL (gN st)) (mkNew st)) : Gp p l e R s m args below meth c Q D clL cy A nL Ad pc ls (.int n :: r) cn st := by
  intro ad jl H locs ha hL hV hP hD hS
  refine va_newa (atype := .int) (ty := .int) (a0 := (LL (gN st), .inl (fun _ => 0))) hx hb harr rfl hK hP hD hS hA (fun cA => rfl) hn hN (by have := LL_le (gN st); show LL (gN st) * 4 ≤ 536870912; omega) hRc hRs d (fun q cA H1 hK1 hP1 hD1 hS1 => ?_)
  have ec := arr_same hK1 (i := 0) (cB := cy 0) rfl (Or.inl rfl)
  subst ec
  have e1 : wsOf cy (va_up ad (gN st) q) (mkNew st) = wsOf cy ad st ++ [(q, .inl (cy 0, LL (gN st), .inl (fun _ => 0)))] := by
    rw [wsOf_new hV.1, cell_ints hKo]
    have e3 : gI (mkNew st) (gN st) = fun _ => 0 := va_up_self _ _ _
    rw [e3]
  rw [← e1] at hP1 hD1
  have hx1 : AdX (gN st) ad (va_up ad (gN st) q) := AdX_new (Nat.le_refl _) (by omega)
  have hV1 : VOk st ls r := hV.stk (fun o ho => List.mem_cons_of_mem _ ho)
  have h := kk (va_up ad (gN st) q) jl H1 locs (hAd _ _ hx1 ha) (hL.ad hx1 hV.2.1) (hV1.new h9) hP1 hD1 hS1
  have e2 : ((.ref (gN st) :: r : List Value)).map (trv (va_up ad (gN st) q)) = .ref q :: r.map (trv ad) := by
    rw [List.map_cons, map_ad hx1 hV1.2.2]
    exact congrArg (fun z => Value.ref z :: _) (va_up_self _ _ _)
  rw [e2] at h
  exact h
theorem si_newJ (hx : p.tables.exec = Jvm.exec) (hb : c.code = cc) (hK : va_K D clL (tysL cy) s) (hA : ∀ q, s.heap.size ≤ q → A q) (hAd : ∀ ad ad', AdX (gN st) ad ad' → Ad ad → Ad ad') (harr : (Cond.arrayClass .long).before args s = true) {n : Int32} (hKo : KK (gN st) = 11) (hn : ¬ n < 0) (hN : n.toNatClampNeg = LL (gN st)) (h9 : gN st + 1 < 1000000) (hRc : cn.1 + 1 ≤ R.cells) (hRs : cn.2 + LL (gN st) ≤ R.slots) (d : decode cc pc = .ok (.newarray .long, 2))
    (kk : Gp p l e R s m args below meth c Q D clL cy A nL Ad (pc + 2) ls (.ref (gN st) :: r) (cn.1 + 1, cn.2 + LL (gN st)) (mkNew st)) : Gp p l e R s m args below meth c Q D clL cy A nL Ad pc ls (.int n :: r) cn st := by
  intro ad jl H locs ha hL hV hP hD hS
  refine va_newa (atype := .long) (ty := .long) (a0 := (LL (gN st), .inr (.inl (fun _ => 0)))) hx hb harr rfl hK hP hD hS hA (fun cA => rfl) hn hN (by have := LL_le (gN st); show LL (gN st) * 8 ≤ 536870912; omega) hRc hRs d (fun q cA H1 hK1 hP1 hD1 hS1 => ?_)
  have ec := arr_same hK1 (i := 1) (cB := cy 1) rfl (Or.inr rfl)
  subst ec
  have e1 : wsOf cy (va_up ad (gN st) q) (mkNew st) = wsOf cy ad st ++ [(q, .inl (cy 1, LL (gN st), .inr (.inl (fun _ => 0))))] := by
    rw [wsOf_new hV.1, cell_longs hKo]
    have e3 : gJ (mkNew st) (gN st) = fun _ => 0 := va_up_self _ _ _
    rw [e3]
  rw [← e1] at hP1 hD1
  have hx1 : AdX (gN st) ad (va_up ad (gN st) q) := AdX_new (Nat.le_refl _) (by omega)
  have hV1 : VOk st ls r := hV.stk (fun o ho => List.mem_cons_of_mem _ ho)
  have h := kk (va_up ad (gN st) q) jl H1 locs (hAd _ _ hx1 ha) (hL.ad hx1 hV.2.1) (hV1.new h9) hP1 hD1 hS1
  have e2 : ((.ref (gN st) :: r : List Value)).map (trv (va_up ad (gN st) q)) = .ref q :: r.map (trv ad) := by
    rw [List.map_cons, map_ad hx1 hV1.2.2]
    exact congrArg (fun z => Value.ref z :: _) (va_up_self _ _ _)
  rw [e2] at h
  exact h
theorem si_aald (hx : p.tables.exec = Jvm.exec) (hb : c.code = cc) (hK : va_K D clL (tysL cy) s) {o q : Nat} {i : Int32} (hKo : KK o = 12) (hi : ¬ (i < 0 ∨ LL o ≤ i.toNatClampNeg)) (hq : gR st o i.toNatClampNeg = some q) (d : decode cc pc = .ok (.aaload, 1)) (kk : Gp p l e R s m args below meth c Q D clL cy A nL Ad (pc + 1) ls (.ref q :: r) cn st) : Gp p l e R s m args below meth c Q D clL cy A nL Ad pc ls (.int i :: .ref o :: r) cn st := by
  intro ad jl H locs ha hL hV hP hD hS
  have ho : o < gN st := okr_lt2 (hV.2.2 o (by simp)) (KK_sm (Or.inr hKo))
  have hqn : q < gN st := hV.1.2 o _ q ho hq
  have hlt : i.toNatClampNeg < LL o := Nat.not_le.mp fun q => hi (Or.inr q)
  have hce := hP o _ (by rw [wsOf_at ho, cell_refs hKo])
  exact W.aald (v := .ref (ad q)) (ty := .array .int) hx hb hce ((hK.2 2 _ rfl).1 (LL o) (fun j => va_rf ((gR st o j).map ad))) rfl (fun q => by cases q) (by show ¬ (i < 0 ∨ (arrV _ _ _).slots.size ≤ _); rw [arrV_size]; exact hi) (by show (arrV _ _ _).slots[_]? = _; rw [arrV_read _ _ hlt]; show some (va_rf ((gR st o i.toNatClampNeg).map ad)) = _; rw [hq]; rfl) rfl rfl d (kk ad jl H locs ha hL ⟨hV.1, hV.2.1, fun o2 ho2 => (List.mem_cons.mp ho2).elim (fun z => by cases z; exact Or.inl hqn) (fun z => hV.2.2 o2 (by simp; exact Or.inr z))⟩ hP hD hS)
end SIMN
