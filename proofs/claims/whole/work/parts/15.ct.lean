/-! CONTRACTS of the methods by their numbers, and their calls -/
/-- what lies outside the world (texts, statics, links): Ex, and how it goes along -/
def ExOk (Ex : (Nat → Nat) → (Nat → Prop) → State → Heap → Prop) : Prop :=
  (∀ (ad : Nat → Nat) (A : Nat → Prop) (s U : State) (H : Heap), s.WarmedH U.vm → Ex ad A s H → Ex ad A U H) ∧
  (∀ (ad : Nat → Nat) (A : Nat → Prop) (U : State) (H H1 : Heap), (∀ a : Nat, a < H.size → ¬ A a → H1[a]? = H[a]?) → Ex ad A U H → Ex ad A U H1) ∧
  (∀ (ad : Nat → Nat) (A B : Nat → Prop) (U : State) (H : Heap), (∀ q, B q → A q) → Ex ad A U H → Ex ad B U H) ∧
  (∀ (n : Nat) (ad ad' : Nat → Nat) (A : Nat → Prop) (U : State) (H : Heap), AdX n ad ad' → Ex ad A U H → Ex ad' A U H) ∧
  ∀ (ad : Nat → Nat) (A : Nat → Prop) (U : State) (H : Heap) (g : JFrame) (mk : MethodId) (a : Array Value), Ex ad A U H → Ex ad A (U.calling g mk a) H
def rmN (d : Nat) (B : Nat × Nat) : Room := { frames := d + 10, cells := B.1, slots := B.2, locals := 100 * d + 300 }
def cP (Ex : (Nat → Nat) → (Nat → Prop) → State → Heap → Prop) (D : va_G) (cy : Nat → ClassId) (ad : Nat → Nat) (st : aSt) (sz : Nat) (As : List Value) : Array Value → State → Prop :=
  va_Pc (As.map (trv ad)) (fun U => U.heap.size = sz ∧ va_P D clL (wsOf cy ad st) U.heap ∧ va_K D clL (tysL cy) U ∧ va_D (fun _ => True) (wsOf cy ad st) ∧ Ex ad (va_A (wsOf cy ad st) sz) U U.heap)
theorem cP_blind {Ex : (Nat → Nat) → (Nat → Prop) → State → Heap → Prop} (hE : ExOk Ex) {D : va_G} {cy : Nat → ClassId} {ad : Nat → Nat} {st : aSt} {sz : Nat} {As : List Value} : FrameBlind (cP Ex D cy ad st sz As) := by
  intro a U g mk h
  obtain ⟨h0, h1, h2, h3, h4, h5⟩ := h
  exact ⟨h0, h1, h2, va_K.moved (u := U) (U := U.calling g mk a) (Vm.Alike.refl U.vm) h3, h4, hE.2.2.2.2 _ _ _ _ g mk a h5⟩
/-- methods that make nothing and set no reference -/
def plainJ (j : Nat) : Prop := ∀ e ∈ (aP j).1, (match e.2.2.1 with
  | .new _ => decide (1000 ≤ e.2.2.2.2)
  | .newarray _ => false
  | .multianewarray _ _ => false
  | .putfield _ => decide (e.2.2.2.2 % 2 = 1)
  | .invokestatic _ => decide (e.2.2.2.2 / 4096 % 2 = 0)
  | .invokevirtual _ => decide (e.2.2.2.2 / 4096 % 2 = 0)
  | .invokespecial _ => decide (e.2.2.2.2 / 4096 % 2 = 0)
  | _ => true) = true
def plT (j : Nat) : Bool := !([0, 17, 27, 40, 46, 67, 78, 93, 102, 104, 105, 107, 155, 269, 270, 272, 302].contains j)
noncomputable def Ct (Ex : (Nat → Nat) → (Nat → Prop) → State → Heap → Prop) (X : Nat × (Nat → Int32)) (l : Launch) (d j : Nat) : Prop :=
  ∀ (As : List Value) (st : aSt) (res : (Option Value ⊕ Nat) × aSt), am_call X aP d j As st = some res → Cl st → (∀ o, Value.ref o ∈ As → okr (gN st) o) →
    ResOk st res ∧ (plT j = true → gN res.2 = gN st ∧ gR res.2 = gR st) ∧ ∀ (D : va_G) (cy : Nat → ClassId) (ad : Nat → Nat) (sz : Nat), vx_Met l (yN j) (cdW (inf j) :: Tw) (rmN d (aP j).2.2.2) (cP Ex D cy ad st sz As) (cQ D cy (va_A (wsOf cy ad st) sz) (gN st) ad res) (cX D cy (va_A (wsOf cy ad st) sz) (gN st) ad res) (aP j).2.2.2.1 (aP j).2.2.2.2 (va_A (wsOf cy ad st) sz)
theorem key1 {d f : Nat} (h : d + 11 ≤ f) : d + 10 + 1 ≤ f := by omega
theorem key2 {a d f : Nat} (h : a ≤ 60) (h2 : 100 * d + 400 ≤ f) : 8 + (a + 11) + (100 * d + 300) ≤ f := by
  generalize 100 * d = z at h2 ⊢
  refine Nat.le_trans ?_ h2
  rw [Nat.add_comm z 300, Nat.add_comm z 400, ← Nat.add_assoc]
  exact Nat.add_le_add_right (Nat.le_trans (Nat.add_le_add_right (Nat.add_le_add_left (Nat.add_le_add_right h 11) 8) 300) (Nat.le_of_ble_eq_true rfl)) z
section CT
variable {p : Program} {l : Launch} {e : Env} {R : Room} {s : State} {m : MethodId} {args : Array Value} {below : List Frame} {meth : Method} {c : Code} {Q : State → Prop} {cc : ByteArray} {D : va_G} {cy : Nat → ClassId} {A : Nat → Prop} {nL : Nat} {own : String}
variable {Ex : (Nat → Nat) → (Nat → Prop) → State → Heap → Prop} {X : Nat × (Nat → Int32)} {pc : Nat} {ls : aL} {r : List Value} {cn : Nat × Nat} {st : aSt}
/-- the words of a method hold wherever this frame comes to -/
theorem ws_pay (hts : ∀ w ∈ Tw, w.before args s = true) {w0 : Cond} (h0 : w0 ∈ Tw) : ∀ w ∈ w0 :: Tw, ∀ (a' : Array Value) (U : State), s.WarmedH U.vm → w.before a' U = true := by
  intro w hw a' U hW
  have hm : w ∈ Tw := (List.mem_cons.mp hw).elim (fun q => by rw [q]; exact h0) id
  exact word_at hW (good_of_word (List.mem_filter.mp hm).2) (hts w hm)
theorem pre_at (hE : ExOk Ex) (hK : va_K D clL (tysL cy) s) {ad : Nat → Nat} {H : Heap} {locs : List Loc} {As : List Value} (hA : ∀ q, s.heap.size ≤ q → A q) (hX : Ex ad A s s.heap) (hP : va_P D clL (wsOf cy ad st) H) (hD : va_D A (wsOf cy ad st)) (hS : va_S A s.heap H locs) : ∀ U : State, U.heap = H → s.WarmedH U.vm → cP Ex D cy ad st H.size As (As.map (trv ad)).toArray U := by
  intro U hU hW
  refine ⟨rfl, by rw [hU], by rw [hU]; exact hP, va_K.moved hW.alike hK, hD.weaken (fun _ _ _ _ => trivial), ?_⟩
  rw [hU]
  exact hE.1 _ _ _ _ _ hW (hE.2.2.1 _ _ _ _ _ (wsA hD hS hA) (hE.2.1 _ _ _ _ _ (fun a h1 h2 => hS.2.1 a h1 h2) hX))
/-- a static call of a method without handlers -/
theorem run_S (hE : ExOk Ex) (hx : p.tables.exec = Jvm.exec) (hb : c.code = cc) (hml : c.maxLocals = nL) (hown : s.vm.findClass own = some m.cls) (hts : ∀ w ∈ Tw, w.before args s = true) (hK : va_K D clL (tysL cy) s) (hA : ∀ q, s.heap.size ≤ q → A q) {d j ix n : Nat} {As : List Value} {res : (Option Value ⊕ Nat) × aSt}
    (hM : ∀ (ad : Nat → Nat) (sz : Nat), vx_Met l (yN j) (cdW (inf j) :: Tw) (rmN d (aP j).2.2.2) (cP Ex D cy ad st sz As) (cQ D cy (va_A (wsOf cy ad st) sz) (gN st) ad res) (cX D cy (va_A (wsOf cy ad st) sz) (gN st) ad res) (aP j).2.2.2.1 (aP j).2.2.2.2 (va_A (wsOf cy ad st) sz))
    (hc1 : cdW (inf j) = Cond.code (yN j) (inf j).2.1 (inf j).2.2.1 (inf j).2.2.2.1) (hc2 : cdW (inf j) ∈ Tw) (hl : Cond.methodLink own ix (yN j) ∈ Tw) (hst : Cond.static (yN j) ∈ Tw) (hin : Cond.initialized (yN j).cls ∈ Tw) (hy : (yN j).cls ≠ "java/lang/invoke/MethodHandle" ∧ (yN j).cls ≠ "java/lang/invoke/VarHandle") (hpd : (parseMethodDescriptor (yN j).desc).map (fun d => d.parameters.length) = some n) (hn : As.length = n) (hmx : (inf j).2.2.1 ≤ 60)
    (hRf : d + 11 ≤ R.frames) (hRl : 100 * d + 400 ≤ R.locals) (hrs : (r.map fun v => v.category).sum ≤ 8) (hcc : cn.1 + (aP j).2.2.2.1 ≤ R.cells ∧ cn.2 + (aP j).2.2.2.2 ≤ R.slots) (dd : decode cc pc = .ok (.invokestatic ix, 3)) {ad : Nat → Nat} {jl : Array Slot} {H : Heap} {locs : List Loc} (hsz : jl.size = nL) (hX : Ex ad A s s.heap) (hP : va_P D clL (wsOf cy ad st) H) (hD : va_D A (wsOf cy ad st)) (hS : va_S A s.heap H locs) :
    vx_Run p l e R s m args below meth c H locs cn.1 cn.2 (aP j).2.2.2.1 (aP j).2.2.2.2 (F0 m pc jl ((As.reverse ++ r).map (trv ad))) (r.map (trv ad)) (cQ D cy (va_A (wsOf cy ad st) H.size) (gN st) ad res ((As.map (trv ad)).toArray)) (cX D cy (va_A (wsOf cy ad st) H.size) (gN st) ad res) (va_A (wsOf cy ad st) H.size) := by
  have hb9 : ∀ w ∈ cdW (inf j) :: Tw, ∀ (a' : Array Value) (U : State), s.WarmedH U.vm → w.before a' U = true := ws_pay hts hc2
  refine vx_runS (Ts := Tw) (As := As.map (trv ad)) (rest := r.map (trv ad)) (bytes := (inf j).2.1) (maxL := (inf j).2.2.1) (ret := (inf j).2.2.2.1) (n := n) (own := own) (index := ix) ⟨hx, hb, hml, hown, hts⟩ (hM ad H.size) ⟨⟨rfl, rfl, ?_, ?_, hb9, by rw [← hc1]; exact List.mem_cons_self, by rw [← hc1]; exact hts _ hc2, hts _ hin, hy, fun sig h => ?_, hts _ hl⟩, hts _ hst⟩ ⟨cP_blind hE, pre_at hE hK hA hX hP hD hS⟩ rfl ?_ hsz ?_ ?_ dd hcc
  · exact key1 hRf
  · exact key2 hmx hRl
  · rw [h] at hpd
    exact (Option.some.inj hpd).symm
  · rw [List.length_map]; exact hn
  · show (As.reverse ++ r).map (trv ad) = (As.map (trv ad)).reverse ++ r.map (trv ad)
    rw [List.map_append, List.map_reverse]
  · refine lv_room ?_
    rw [List.map_map]
    rw [show (r.map ((fun v => v.category) ∘ trv ad)) = r.map (fun v => v.category) from List.map_congr_left (fun v _ => trv_cat ad v)]
    exact hrs
/-- a virtual call -/
theorem run_V (hE : ExOk Ex) (hx : p.tables.exec = Jvm.exec) (hb : c.code = cc) (hml : c.maxLocals = nL) (hown : s.vm.findClass own = some m.cls) (hts : ∀ w ∈ Tw, w.before args s = true) (hK : va_K D clL (tysL cy) s) (hA : ∀ q, s.heap.size ≤ q → A q) {d j ix n o ci : Nat} {As : List Value} (hV : VOk st ls ((.ref o :: As).reverse ++ r)) (hci : ci < 10) (hKo : KK o = ci) (hcl : (yN j).cls = cC ci) {res : (Option Value ⊕ Nat) × aSt}
    (hM : ∀ (ad : Nat → Nat) (sz : Nat), vx_Met l (yN j) (cdW (inf j) :: Tw) (rmN d (aP j).2.2.2) (cP Ex D cy ad st sz (.ref o :: As)) (cQ D cy (va_A (wsOf cy ad st) sz) (gN st) ad res) (cX D cy (va_A (wsOf cy ad st) sz) (gN st) ad res) (aP j).2.2.2.1 (aP j).2.2.2.2 (va_A (wsOf cy ad st) sz))
    (hc1 : cdW (inf j) = Cond.code (yN j) (inf j).2.1 (inf j).2.2.1 (inf j).2.2.2.1) (hc2 : cdW (inf j) ∈ Tw) (hl : Cond.methodLink own ix (yN j) ∈ Tw) (hst : Cond.instanceMethod (yN j) ∈ Tw) (hse : Cond.selects (cC ci) (yN j) (yN j) ∈ Tw) (hin : Cond.initialized (yN j).cls ∈ Tw) (hy : (yN j).cls ≠ "java/lang/invoke/MethodHandle" ∧ (yN j).cls ≠ "java/lang/invoke/VarHandle") (hpd : (parseMethodDescriptor (yN j).desc).map (fun d => d.parameters.length) = some n) (hn : As.length = n) (hmx : (inf j).2.2.1 ≤ 60)
    (hRf : d + 11 ≤ R.frames) (hRl : 100 * d + 400 ≤ R.locals) (hrs : (r.map fun v => v.category).sum ≤ 8) (hcc : cn.1 + (aP j).2.2.2.1 ≤ R.cells ∧ cn.2 + (aP j).2.2.2.2 ≤ R.slots) (dd : decode cc pc = .ok (.invokevirtual ix, 3)) {ad : Nat → Nat} {jl : Array Slot} {H : Heap} {locs : List Loc} (hsz : jl.size = nL) (hX : Ex ad A s s.heap) (hP : va_P D clL (wsOf cy ad st) H) (hD : va_D A (wsOf cy ad st)) (hS : va_S A s.heap H locs) :
    vx_Run p l e R s m args below meth c H locs cn.1 cn.2 (aP j).2.2.2.1 (aP j).2.2.2.2 (F0 m pc jl (((.ref o :: As).reverse ++ r).map (trv ad))) (r.map (trv ad)) (cQ D cy (va_A (wsOf cy ad st) H.size) (gN st) ad res (((.ref o :: As).map (trv ad)).toArray)) (cX D cy (va_A (wsOf cy ad st) H.size) (gN st) ad res) (va_A (wsOf cy ad st) H.size) := by
  have hb9 : ∀ w ∈ cdW (inf j) :: Tw, ∀ (a' : Array Value) (U : State), s.WarmedH U.vm → w.before a' U = true := ws_pay hts hc2
  have ho : o < gN st := okr_lt (hV.2.2 o (by simp)) (by rw [hKo]; exact hci)
  refine vx_runV (C := cC ci) (b := ad o) (Ts := Tw) (As := As.map (trv ad)) (rest := r.map (trv ad)) (bytes := (inf j).2.1) (maxL := (inf j).2.2.1) (ret := (inf j).2.2.2.1) (n := n) (own := own) (index := ix) ⟨hx, hb, hml, hown, hts⟩ (hM ad H.size) ⟨⟨rfl, rfl, ?_, ?_, hb9, by rw [← hc1]; exact List.mem_cons_self, by rw [← hc1]; exact hts _ hc2, hts _ hin, hy, fun sig h => ?_, hts _ hl⟩, hts _ hst, hts _ hse⟩ ⟨cP_blind hE, va_recv hK hP (clL_at ci hci) (q0 := o) (by rw [wsOf_at ho, cell_obj (by rw [hKo]; exact hci), hKo]), pre_at (As := .ref o :: As) hE hK hA hX hP hD hS⟩ rfl ?_ hsz ?_ ?_ dd hcc
  · exact key1 hRf
  · exact key2 hmx hRl
  · rw [h] at hpd
    exact (Option.some.inj hpd).symm
  · rw [List.length_map]; exact hn
  · show ((.ref o :: As).reverse ++ r).map (trv ad) = (As.map (trv ad)).reverse ++ .ref (ad o) :: r.map (trv ad)
    rw [List.reverse_cons, List.append_assoc, List.map_append, List.map_reverse]
    rfl
  · refine lv_room ?_
    rw [List.map_map]
    rw [show (r.map ((fun v => v.category) ∘ trv ad)) = r.map (fun v => v.category) from List.map_congr_left (fun v _ => trv_cat ad v)]
    exact hrs
/-- a constructor -/
theorem run_I (hE : ExOk Ex) (hx : p.tables.exec = Jvm.exec) (hb : c.code = cc) (hml : c.maxLocals = nL) (hown : s.vm.findClass own = some m.cls) (hts : ∀ w ∈ Tw, w.before args s = true) (hK : va_K D clL (tysL cy) s) (hA : ∀ q, s.heap.size ≤ q → A q) {d j ix n o ci : Nat} {As : List Value} (hV : VOk st ls ((.ref o :: As).reverse ++ r)) (hci : ci < 10) (hKo : KK o = ci) (hcl : (yN j).cls = cC ci) {res : (Option Value ⊕ Nat) × aSt}
    (hM : ∀ (ad : Nat → Nat) (sz : Nat), vx_Met l (yN j) (cdW (inf j) :: Tw) (rmN d (aP j).2.2.2) (cP Ex D cy ad st sz (.ref o :: As)) (cQ D cy (va_A (wsOf cy ad st) sz) (gN st) ad res) (cX D cy (va_A (wsOf cy ad st) sz) (gN st) ad res) (aP j).2.2.2.1 (aP j).2.2.2.2 (va_A (wsOf cy ad st) sz))
    (hc1 : cdW (inf j) = Cond.code (yN j) (inf j).2.1 (inf j).2.2.1 (inf j).2.2.2.1) (hc2 : cdW (inf j) ∈ Tw) (hl : Cond.methodLink own ix (yN j) ∈ Tw) (hst : Cond.instanceMethod (yN j) ∈ Tw) (hnm : (yN j).name = "<init>") (hrt : (inf j).2.2.2.1 = none) (hin : Cond.initialized (yN j).cls ∈ Tw) (hy : (yN j).cls ≠ "java/lang/invoke/MethodHandle" ∧ (yN j).cls ≠ "java/lang/invoke/VarHandle") (hpd : (parseMethodDescriptor (yN j).desc).map (fun d => d.parameters.length) = some n) (hn : As.length = n) (hmx : (inf j).2.2.1 ≤ 60)
    (hRf : d + 11 ≤ R.frames) (hRl : 100 * d + 400 ≤ R.locals) (hrs : (r.map fun v => v.category).sum ≤ 8) (hcc : cn.1 + (aP j).2.2.2.1 ≤ R.cells ∧ cn.2 + (aP j).2.2.2.2 ≤ R.slots) (dd : decode cc pc = .ok (.invokespecial ix, 3)) {ad : Nat → Nat} {jl : Array Slot} {H : Heap} {locs : List Loc} (hsz : jl.size = nL) (hX : Ex ad A s s.heap) (hP : va_P D clL (wsOf cy ad st) H) (hD : va_D A (wsOf cy ad st)) (hS : va_S A s.heap H locs) :
    vx_Run p l e R s m args below meth c H locs cn.1 cn.2 (aP j).2.2.2.1 (aP j).2.2.2.2 (F0 m pc jl (((.ref o :: As).reverse ++ r).map (trv ad))) (r.map (trv ad)) (cQ D cy (va_A (wsOf cy ad st) H.size) (gN st) ad res (((.ref o :: As).map (trv ad)).toArray)) (cX D cy (va_A (wsOf cy ad st) H.size) (gN st) ad res) (va_A (wsOf cy ad st) H.size) := by
  have hb9 : ∀ w ∈ cdW (inf j) :: Tw, ∀ (a' : Array Value) (U : State), s.WarmedH U.vm → w.before a' U = true := ws_pay hts hc2
  have ho : o < gN st := okr_lt (hV.2.2 o (by simp)) (by rw [hKo]; exact hci)
  refine vx_runI (b := ad o) (Ts := Tw) (As := As.map (trv ad)) (rest := r.map (trv ad)) (bytes := (inf j).2.1) (maxL := (inf j).2.2.1) (n := n) (own := own) (index := ix) ⟨hx, hb, hml, hown, hts⟩ (hM ad H.size) ⟨⟨rfl, rfl, ?_, ?_, hb9, by rw [hrt] at hc1; rw [← hc1]; exact List.mem_cons_self, by rw [hrt] at hc1; rw [← hc1]; exact hts _ hc2, hts _ hin, hy, fun sig h => ?_, hts _ hl⟩, hnm, hts _ hst⟩ ⟨cP_blind hE, pre_at (As := .ref o :: As) hE hK hA hX hP hD hS⟩ rfl ?_ hsz ?_ ?_ dd hcc
  · exact key1 hRf
  · exact key2 hmx hRl
  · rw [h] at hpd
    exact (Option.some.inj hpd).symm
  · rw [List.length_map]; exact hn
  · show ((.ref o :: As).reverse ++ r).map (trv ad) = (As.map (trv ad)).reverse ++ .ref (ad o) :: r.map (trv ad)
    rw [List.reverse_cons, List.append_assoc, List.map_append, List.map_reverse]
    rfl
  · refine lv_room ?_
    rw [List.map_map]
    rw [show (r.map ((fun v => v.category) ∘ trv ad)) = r.map (fun v => v.category) from List.map_congr_left (fun v _ => trv_cat ad v)]
    exact hrs
/-- a nest mate's constructor -/
theorem run_IN (hE : ExOk Ex) (hx : p.tables.exec = Jvm.exec) (hb : c.code = cc) (hml : c.maxLocals = nL) (hown : s.vm.findClass own = some m.cls) (hts : ∀ w ∈ Tw, w.before args s = true) (hK : va_K D clL (tysL cy) s) (hA : ∀ q, s.heap.size ≤ q → A q) {host : String} {d j ix n o ci : Nat} {As : List Value} (hV : VOk st ls ((.ref o :: As).reverse ++ r)) (hci : ci < 10) (hKo : KK o = ci) (hcl : (yN j).cls = cC ci) {res : (Option Value ⊕ Nat) × aSt}
    (hM : ∀ (ad : Nat → Nat) (sz : Nat), vx_Met l (yN j) (cdW (inf j) :: Tw) (rmN d (aP j).2.2.2) (cP Ex D cy ad st sz (.ref o :: As)) (cQ D cy (va_A (wsOf cy ad st) sz) (gN st) ad res) (cX D cy (va_A (wsOf cy ad st) sz) (gN st) ad res) (aP j).2.2.2.1 (aP j).2.2.2.2 (va_A (wsOf cy ad st) sz))
    (hc1 : cdW (inf j) = Cond.code (yN j) (inf j).2.1 (inf j).2.2.1 (inf j).2.2.2.1) (hc2 : cdW (inf j) ∈ Tw) (hl : va_Nw (.methodLinkNest own ix (yN j) host) s) (hst : Cond.instanceMethod (yN j) ∈ Tw) (hnm : (yN j).name = "<init>") (hrt : (inf j).2.2.2.1 = none) (hin : Cond.initialized (yN j).cls ∈ Tw) (hy : (yN j).cls ≠ "java/lang/invoke/MethodHandle" ∧ (yN j).cls ≠ "java/lang/invoke/VarHandle") (hpd : (parseMethodDescriptor (yN j).desc).map (fun d => d.parameters.length) = some n) (hn : As.length = n) (hmx : (inf j).2.2.1 ≤ 60)
    (hRf : d + 11 ≤ R.frames) (hRl : 100 * d + 400 ≤ R.locals) (hrs : (r.map fun v => v.category).sum ≤ 8) (hcc : cn.1 + (aP j).2.2.2.1 ≤ R.cells ∧ cn.2 + (aP j).2.2.2.2 ≤ R.slots) (dd : decode cc pc = .ok (.invokespecial ix, 3)) {ad : Nat → Nat} {jl : Array Slot} {H : Heap} {locs : List Loc} (hsz : jl.size = nL) (hX : Ex ad A s s.heap) (hP : va_P D clL (wsOf cy ad st) H) (hD : va_D A (wsOf cy ad st)) (hS : va_S A s.heap H locs) :
    vx_Run p l e R s m args below meth c H locs cn.1 cn.2 (aP j).2.2.2.1 (aP j).2.2.2.2 (F0 m pc jl (((.ref o :: As).reverse ++ r).map (trv ad))) (r.map (trv ad)) (cQ D cy (va_A (wsOf cy ad st) H.size) (gN st) ad res (((.ref o :: As).map (trv ad)).toArray)) (cX D cy (va_A (wsOf cy ad st) H.size) (gN st) ad res) (va_A (wsOf cy ad st) H.size) := by
  have hb9 : ∀ w ∈ cdW (inf j) :: Tw, ∀ (a' : Array Value) (U : State), s.WarmedH U.vm → w.before a' U = true := ws_pay hts hc2
  have ho : o < gN st := okr_lt (hV.2.2 o (by simp)) (by rw [hKo]; exact hci)
  refine vx_runIN (host := host) (b := ad o) (Ts := Tw) (As := As.map (trv ad)) (rest := r.map (trv ad)) (bytes := (inf j).2.1) (maxL := (inf j).2.2.1) (n := n) (own := own) (index := ix) ⟨hx, hb, hml, hown, hts⟩ (hM ad H.size) ⟨⟨⟨rfl, rfl, ?_, ?_, hb9, by rw [hrt] at hc1; rw [← hc1]; exact List.mem_cons_self⟩, by rw [hrt] at hc1; rw [← hc1]; exact hts _ hc2, hts _ hin, hy, fun sig h => ?_, va_Nw.use rfl hl⟩, hnm, hts _ hst⟩ ⟨cP_blind hE, pre_at (As := .ref o :: As) hE hK hA hX hP hD hS⟩ rfl ?_ hsz ?_ ?_ dd hcc
  · exact key1 hRf
  · exact key2 hmx hRl
  · rw [h] at hpd
    exact (Option.some.inj hpd).symm
  · rw [List.length_map]; exact hn
  · show ((.ref o :: As).reverse ++ r).map (trv ad) = (As.map (trv ad)).reverse ++ .ref (ad o) :: r.map (trv ad)
    rw [List.reverse_cons, List.append_assoc, List.map_append, List.map_reverse]
    rfl
  · refine lv_room ?_
    rw [List.map_map]
    rw [show (r.map ((fun v => v.category) ∘ trv ad)) = r.map (fun v => v.category) from List.map_congr_left (fun v _ => trv_cat ad v)]
    exact hrs
/-- a static call of a method with handlers -/
theorem run_SX (hE : ExOk Ex) (hx : p.tables.exec = Jvm.exec) (hb : c.code = cc) (hml : c.maxLocals = nL) (hown : s.vm.findClass own = some m.cls) (hts : ∀ w ∈ Tw, w.before args s = true) (hK : va_K D clL (tysL cy) s) (hA : ∀ q, s.heap.size ≤ q → A q) {d j ix n : Nat} {hh : List (Nat × Nat × Nat × Nat)} {As : List Value} {res : (Option Value ⊕ Nat) × aSt}
    (hM : ∀ (ad : Nat → Nat) (sz : Nat), vx_Met l (yN j) (cdW (inf j) :: Tw) (rmN d (aP j).2.2.2) (cP Ex D cy ad st sz As) (cQ D cy (va_A (wsOf cy ad st) sz) (gN st) ad res) (cX D cy (va_A (wsOf cy ad st) sz) (gN st) ad res) (aP j).2.2.2.1 (aP j).2.2.2.2 (va_A (wsOf cy ad st) sz))
    (hc1 : cdW (inf j) = Cond.codeWith (yN j) (inf j).2.1 (inf j).2.2.1 (inf j).2.2.2.1 hh) (hc2 : cdW (inf j) ∈ Tw) (hl : Cond.methodLink own ix (yN j) ∈ Tw) (hst : Cond.static (yN j) ∈ Tw) (hin : Cond.initialized (yN j).cls ∈ Tw) (hy : (yN j).cls ≠ "java/lang/invoke/MethodHandle" ∧ (yN j).cls ≠ "java/lang/invoke/VarHandle") (hpd : (parseMethodDescriptor (yN j).desc).map (fun d => d.parameters.length) = some n) (hn : As.length = n) (hmx : (inf j).2.2.1 ≤ 60)
    (hRf : d + 11 ≤ R.frames) (hRl : 100 * d + 400 ≤ R.locals) (hrs : (r.map fun v => v.category).sum ≤ 8) (hcc : cn.1 + (aP j).2.2.2.1 ≤ R.cells ∧ cn.2 + (aP j).2.2.2.2 ≤ R.slots) (dd : decode cc pc = .ok (.invokestatic ix, 3)) {ad : Nat → Nat} {jl : Array Slot} {H : Heap} {locs : List Loc} (hsz : jl.size = nL) (hX : Ex ad A s s.heap) (hP : va_P D clL (wsOf cy ad st) H) (hD : va_D A (wsOf cy ad st)) (hS : va_S A s.heap H locs) :
    vx_Run p l e R s m args below meth c H locs cn.1 cn.2 (aP j).2.2.2.1 (aP j).2.2.2.2 (F0 m pc jl ((As.reverse ++ r).map (trv ad))) (r.map (trv ad)) (cQ D cy (va_A (wsOf cy ad st) H.size) (gN st) ad res ((As.map (trv ad)).toArray)) (cX D cy (va_A (wsOf cy ad st) H.size) (gN st) ad res) (va_A (wsOf cy ad st) H.size) := by
  have hb9 : ∀ w ∈ cdW (inf j) :: Tw, ∀ (a' : Array Value) (U : State), s.WarmedH U.vm → w.before a' U = true := ws_pay hts hc2
  refine vx_runSX (hh := hh) (Ts := Tw) (As := As.map (trv ad)) (rest := r.map (trv ad)) (bytes := (inf j).2.1) (maxL := (inf j).2.2.1) (ret := (inf j).2.2.2.1) (n := n) (own := own) (index := ix) ⟨hx, hb, hml, hown, hts⟩ (hM ad H.size) ⟨⟨rfl, rfl, ?_, ?_, hb9, by rw [← hc1]; exact List.mem_cons_self⟩, by rw [← hc1]; exact hts _ hc2, hts _ hin, hy, fun sig h => ?_, hts _ hl, hts _ hst⟩ ⟨cP_blind hE, pre_at hE hK hA hX hP hD hS⟩ rfl ?_ hsz ?_ ?_ dd hcc
  · exact key1 hRf
  · exact key2 hmx hRl
  · rw [h] at hpd
    exact (Option.some.inj hpd).symm
  · rw [List.length_map]; exact hn
  · show (As.reverse ++ r).map (trv ad) = (As.map (trv ad)).reverse ++ r.map (trv ad)
    rw [List.map_append, List.map_reverse]
  · refine lv_room ?_
    rw [List.map_map]
    rw [show (r.map ((fun v => v.category) ∘ trv ad)) = r.map (fun v => v.category) from List.map_congr_left (fun v _ => trv_cat ad v)]
    exact hrs
end CT
