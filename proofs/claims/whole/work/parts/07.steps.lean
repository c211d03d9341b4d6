/-! ONE INSTRUCTION of the small machine is one of the great one -/
/-- a reference that is known: one of the n things, the script, a String constant -/
def okr (n o : Nat) : Prop := o < n ∨ 1000000 ≤ o
def Cl (st : aSt) : Prop := gN st < 1000000 ∧ ∀ i k r, i < gN st → gR st i k = some r → r < gN st
def VOk (st : aSt) (ls : aL) (stk : List Value) : Prop := Cl st ∧ (∀ (j o : Nat), ls[j]? = some (some (.ref o)) → okr (gN st) o) ∧ ∀ o, Value.ref o ∈ stk → okr (gN st) o
theorem VOk.stk {st : aSt} {ls : aL} {stk stk' : List Value} (h : VOk st ls stk) (hs : ∀ o, Value.ref o ∈ stk' → Value.ref o ∈ stk) : VOk st ls stk' := ⟨h.1, h.2.1, fun o ho => h.2.2 o (hs o ho)⟩
theorem VOk.st {st st' : aSt} {ls : aL} {stk : List Value} (h : VOk st ls stk) (hn : gN st' = gN st) (hr : gR st' = gR st) : VOk st' ls stk := by
  refine ⟨⟨by rw [hn]; exact h.1.1, fun i k r hi hk => ?_⟩, fun j o hj => by rw [hn]; exact h.2.1 j o hj, fun o ho => by rw [hn]; exact h.2.2 o ho⟩
  rw [hn] at hi ⊢
  rw [hr] at hk
  exact h.1.2 i k r hi hk
section SIM
variable {p : Program} {l : Launch} {e : Env} {R : Room} {s : State} {m : MethodId} {args : Array Value} {below : List Frame} {meth : Method} {c : Code} {Q : State → Prop} {cc : ByteArray} {D : va_G} {cl : List vw_C} {cy : Nat → ClassId} {A : Nat → Prop} {nL : Nat} {Ad : (Nat → Nat) → Prop}
/-- from every state of the great machine that is this one of the small machine, it goes on to Q -/
def Gp (p : Program) (l : Launch) (e : Env) (R : Room) (s : State) (m : MethodId) (args : Array Value) (below : List Frame) (meth : Method) (c : Code) (Q : State → Prop) (D : va_G) (cl : List vw_C) (cy : Nat → ClassId) (A : Nat → Prop) (nL : Nat) (Ad : (Nat → Nat) → Prop) (pc : Nat) (ls : aL) (stk : List Value) (cn : Nat × Nat) (st : aSt) : Prop :=
  ∀ (ad : Nat → Nat) (jl : Array Slot) (H : Heap) (locs : List Loc), Ad ad → LH jl nL ad ls → VOk st ls stk → va_P D cl (wsOf cy ad st) H → va_D A (wsOf cy ad st) → va_S A s.heap H locs → W p l e R s m args below meth c H locs cn.1 cn.2 Q (F0 m pc jl (stk.map (trv ad)))
variable {pc : Nat} {ls : aL} {r : List Value} {cn : Nat × Nat} {st : aSt}

theorem VOk.put {st : aSt} {ls : aL} {v : Value} {r : List Value} {i : Nat} (h : VOk st ls (v :: r)) : VOk st (lst ls i v) r := by
  refine ⟨h.1, fun j o hj => ?_, fun o ho => h.2.2 o (List.mem_cons_of_mem _ ho)⟩
  rcases lst_at ls i j v _ hj with ⟨-, e⟩ | ⟨-, e, -⟩
  · exact h.2.2 o (by rw [e]; exact List.mem_cons_self)
  · exact h.2.1 j o e
theorem VOk.put2 {st : aSt} {ls : aL} {v : Value} {r : List Value} {i : Nat} (h : VOk st ls (v :: r)) : VOk st (lst2 ls i v) r := by
  refine ⟨h.1, fun j o hj => ?_, fun o ho => h.2.2 o (List.mem_cons_of_mem _ ho)⟩
  rcases lst2_at ls i j v _ hj with ⟨-, e⟩ | ⟨-, -, e, -⟩
  · exact h.2.2 o (by rw [e]; exact List.mem_cons_self)
  · exact h.2.1 j o e

theorem si_iadd (hx : p.tables.exec = Jvm.exec) (hb : c.code = cc) {x y : Int32} (d : decode cc pc = .ok (.iadd, 1)) (k : Gp p l e R s m args below meth c Q D cl cy A nL Ad (pc + 1) ls (.int (x + y) :: r) cn st) : Gp p l e R s m args below meth c Q D cl cy A nL Ad pc ls (.int y :: .int x :: r) cn st := by
  intro ad jl H locs hA hL hV hP hD hS
  exact lv_iadd hx hb d (k ad jl H locs hA hL (hV.stk (fun o ho => by simpa using ho)) hP hD hS)

theorem si_isub (hx : p.tables.exec = Jvm.exec) (hb : c.code = cc) {x y : Int32} (d : decode cc pc = .ok (.isub, 1)) (k : Gp p l e R s m args below meth c Q D cl cy A nL Ad (pc + 1) ls (.int (x - y) :: r) cn st) : Gp p l e R s m args below meth c Q D cl cy A nL Ad pc ls (.int y :: .int x :: r) cn st := by
  intro ad jl H locs hA hL hV hP hD hS
  exact lv_isub hx hb d (k ad jl H locs hA hL (hV.stk (fun o ho => by simpa using ho)) hP hD hS)

theorem si_imul (hx : p.tables.exec = Jvm.exec) (hb : c.code = cc) {x y : Int32} (d : decode cc pc = .ok (.imul, 1)) (k : Gp p l e R s m args below meth c Q D cl cy A nL Ad (pc + 1) ls (.int (x * y) :: r) cn st) : Gp p l e R s m args below meth c Q D cl cy A nL Ad pc ls (.int y :: .int x :: r) cn st := by
  intro ad jl H locs hA hL hV hP hD hS
  exact lv_imul hx hb d (k ad jl H locs hA hL (hV.stk (fun o ho => by simpa using ho)) hP hD hS)

theorem si_iand (hx : p.tables.exec = Jvm.exec) (hb : c.code = cc) {x y : Int32} (d : decode cc pc = .ok (.iand, 1)) (k : Gp p l e R s m args below meth c Q D cl cy A nL Ad (pc + 1) ls (.int (x &&& y) :: r) cn st) : Gp p l e R s m args below meth c Q D cl cy A nL Ad pc ls (.int y :: .int x :: r) cn st := by
  intro ad jl H locs hA hL hV hP hD hS
  exact lv_iand hx hb d (k ad jl H locs hA hL (hV.stk (fun o ho => by simpa using ho)) hP hD hS)

theorem si_ior (hx : p.tables.exec = Jvm.exec) (hb : c.code = cc) {x y : Int32} (d : decode cc pc = .ok (.ior, 1)) (k : Gp p l e R s m args below meth c Q D cl cy A nL Ad (pc + 1) ls (.int (x ||| y) :: r) cn st) : Gp p l e R s m args below meth c Q D cl cy A nL Ad pc ls (.int y :: .int x :: r) cn st := by
  intro ad jl H locs hA hL hV hP hD hS
  exact lv_ior hx hb d (k ad jl H locs hA hL (hV.stk (fun o ho => by simpa using ho)) hP hD hS)

theorem si_ixor (hx : p.tables.exec = Jvm.exec) (hb : c.code = cc) {x y : Int32} (d : decode cc pc = .ok (.ixor, 1)) (k : Gp p l e R s m args below meth c Q D cl cy A nL Ad (pc + 1) ls (.int (x ^^^ y) :: r) cn st) : Gp p l e R s m args below meth c Q D cl cy A nL Ad pc ls (.int y :: .int x :: r) cn st := by
  intro ad jl H locs hA hL hV hP hD hS
  exact lv_ixor hx hb d (k ad jl H locs hA hL (hV.stk (fun o ho => by simpa using ho)) hP hD hS)

theorem si_ishl (hx : p.tables.exec = Jvm.exec) (hb : c.code = cc) {x y : Int32} (d : decode cc pc = .ok (.ishl, 1)) (k : Gp p l e R s m args below meth c Q D cl cy A nL Ad (pc + 1) ls (.int (x <<< (y &&& 31)) :: r) cn st) : Gp p l e R s m args below meth c Q D cl cy A nL Ad pc ls (.int y :: .int x :: r) cn st := by
  intro ad jl H locs hA hL hV hP hD hS
  exact lv_ishl hx hb d (k ad jl H locs hA hL (hV.stk (fun o ho => by simpa using ho)) hP hD hS)

theorem si_ishr (hx : p.tables.exec = Jvm.exec) (hb : c.code = cc) {x y : Int32} (d : decode cc pc = .ok (.ishr, 1)) (k : Gp p l e R s m args below meth c Q D cl cy A nL Ad (pc + 1) ls (.int (x >>> (y &&& 31)) :: r) cn st) : Gp p l e R s m args below meth c Q D cl cy A nL Ad pc ls (.int y :: .int x :: r) cn st := by
  intro ad jl H locs hA hL hV hP hD hS
  exact lv_ishr hx hb d (k ad jl H locs hA hL (hV.stk (fun o ho => by simpa using ho)) hP hD hS)

theorem si_iushr (hx : p.tables.exec = Jvm.exec) (hb : c.code = cc) {x y : Int32} (d : decode cc pc = .ok (.iushr, 1)) (k : Gp p l e R s m args below meth c Q D cl cy A nL Ad (pc + 1) ls (.int (x.toUInt32 >>> (y.toUInt32 &&& Int32.toUInt32 31)).toInt32 :: r) cn st) : Gp p l e R s m args below meth c Q D cl cy A nL Ad pc ls (.int y :: .int x :: r) cn st := by
  intro ad jl H locs hA hL hV hP hD hS
  exact lv_iushr hx hb d rfl (k ad jl H locs hA hL (hV.stk (fun o ho => by simpa using ho)) hP hD hS)

theorem si_idiv (hx : p.tables.exec = Jvm.exec) (hb : c.code = cc) {x y : Int32} (d : decode cc pc = .ok (.idiv, 1)) (hne : ¬ y = 0) (k : Gp p l e R s m args below meth c Q D cl cy A nL Ad (pc + 1) ls (.int (x / y) :: r) cn st) : Gp p l e R s m args below meth c Q D cl cy A nL Ad pc ls (.int y :: .int x :: r) cn st := by
  intro ad jl H locs hA hL hV hP hD hS
  exact lv_idiv hx hb d hne (k ad jl H locs hA hL (hV.stk (fun o ho => by simpa using ho)) hP hD hS)

theorem si_irem (hx : p.tables.exec = Jvm.exec) (hb : c.code = cc) {x y : Int32} (d : decode cc pc = .ok (.irem, 1)) (hne : ¬ y = 0) (k : Gp p l e R s m args below meth c Q D cl cy A nL Ad (pc + 1) ls (.int (x - x / y * y) :: r) cn st) : Gp p l e R s m args below meth c Q D cl cy A nL Ad pc ls (.int y :: .int x :: r) cn st := by
  intro ad jl H locs hA hL hV hP hD hS
  exact lv_irem hx hb d hne (k ad jl H locs hA hL (hV.stk (fun o ho => by simpa using ho)) hP hD hS)

theorem si_ladd (hx : p.tables.exec = Jvm.exec) (hb : c.code = cc) {x y : Int64} (d : decode cc pc = .ok (.ladd, 1)) (k : Gp p l e R s m args below meth c Q D cl cy A nL Ad (pc + 1) ls (.long (x + y) :: r) cn st) : Gp p l e R s m args below meth c Q D cl cy A nL Ad pc ls (.long y :: .long x :: r) cn st := by
  intro ad jl H locs hA hL hV hP hD hS
  exact lv_ladd hx hb d (k ad jl H locs hA hL (hV.stk (fun o ho => by simpa using ho)) hP hD hS)

theorem si_lmul (hx : p.tables.exec = Jvm.exec) (hb : c.code = cc) {x y : Int64} (d : decode cc pc = .ok (.lmul, 1)) (k : Gp p l e R s m args below meth c Q D cl cy A nL Ad (pc + 1) ls (.long (x * y) :: r) cn st) : Gp p l e R s m args below meth c Q D cl cy A nL Ad pc ls (.long y :: .long x :: r) cn st := by
  intro ad jl H locs hA hL hV hP hD hS
  exact lv_lmul hx hb d (k ad jl H locs hA hL (hV.stk (fun o ho => by simpa using ho)) hP hD hS)

theorem si_ldiv (hx : p.tables.exec = Jvm.exec) (hb : c.code = cc) {x y : Int64} (d : decode cc pc = .ok (.ldiv, 1)) (hne : ¬ y = 0) (k : Gp p l e R s m args below meth c Q D cl cy A nL Ad (pc + 1) ls (.long (x / y) :: r) cn st) : Gp p l e R s m args below meth c Q D cl cy A nL Ad pc ls (.long y :: .long x :: r) cn st := by
  intro ad jl H locs hA hL hV hP hD hS
  exact lv_ldiv hx hb d hne (k ad jl H locs hA hL (hV.stk (fun o ho => by simpa using ho)) hP hD hS)

theorem si_lrem (hx : p.tables.exec = Jvm.exec) (hb : c.code = cc) {x y : Int64} (d : decode cc pc = .ok (.lrem, 1)) (hne : ¬ y = 0) (k : Gp p l e R s m args below meth c Q D cl cy A nL Ad (pc + 1) ls (.long (x - x / y * y) :: r) cn st) : Gp p l e R s m args below meth c Q D cl cy A nL Ad pc ls (.long y :: .long x :: r) cn st := by
  intro ad jl H locs hA hL hV hP hD hS
  exact lv_lrem hx hb d hne (k ad jl H locs hA hL (hV.stk (fun o ho => by simpa using ho)) hP hD hS)

theorem si_i2l (hx : p.tables.exec = Jvm.exec) (hb : c.code = cc) {x : Int32} (d : decode cc pc = .ok (.i2l, 1)) (k : Gp p l e R s m args below meth c Q D cl cy A nL Ad (pc + 1) ls (.long x.toInt64 :: r) cn st) : Gp p l e R s m args below meth c Q D cl cy A nL Ad pc ls (.int x :: r) cn st := by
  intro ad jl H locs hA hL hV hP hD hS
  exact lv_i2l hx hb d rfl (k ad jl H locs hA hL (hV.stk (fun o ho => by simpa using ho)) hP hD hS)

theorem si_lcmp (hx : p.tables.exec = Jvm.exec) (hb : c.code = cc) {x y : Int64} (d : decode cc pc = .ok (.lcmp, 1)) (k : Gp p l e R s m args below meth c Q D cl cy A nL Ad (pc + 1) ls (.int (lg_cmp x y) :: r) cn st) : Gp p l e R s m args below meth c Q D cl cy A nL Ad pc ls (.long y :: .long x :: r) cn st := by
  intro ad jl H locs hA hL hV hP hD hS
  exact W.lcmp hx hb d (k ad jl H locs hA hL (hV.stk (fun o ho => by simpa using ho)) hP hD hS)

theorem si_iconst (hx : p.tables.exec = Jvm.exec) (hb : c.code = cc) {n : Int} {v : Int32} (d : decode cc pc = .ok (.iconst n, 1)) (hv : Int32.ofInt n = v) (k : Gp p l e R s m args below meth c Q D cl cy A nL Ad (pc + 1) ls (.int v :: r) cn st) : Gp p l e R s m args below meth c Q D cl cy A nL Ad pc ls r cn st := by
  intro ad jl H locs hA hL hV hP hD hS
  exact lv_iconst hx hb d hv (k ad jl H locs hA hL (hV.stk (fun o ho => by simpa using ho)) hP hD hS)

theorem si_bipush (hx : p.tables.exec = Jvm.exec) (hb : c.code = cc) {n : Int} {v : Int32} (d : decode cc pc = .ok (.bipush n, 2)) (hv : (Int8.ofInt n).toInt32 = v) (k : Gp p l e R s m args below meth c Q D cl cy A nL Ad (pc + 2) ls (.int v :: r) cn st) : Gp p l e R s m args below meth c Q D cl cy A nL Ad pc ls r cn st := by
  intro ad jl H locs hA hL hV hP hD hS
  exact lv_bipush hx hb d hv (k ad jl H locs hA hL (hV.stk (fun o ho => by simpa using ho)) hP hD hS)

theorem si_sipush (hx : p.tables.exec = Jvm.exec) (hb : c.code = cc) {n : Int} {v : Int32} (d : decode cc pc = .ok (.sipush n, 3)) (hv : (Int16.ofInt n).toInt32 = v) (k : Gp p l e R s m args below meth c Q D cl cy A nL Ad (pc + 3) ls (.int v :: r) cn st) : Gp p l e R s m args below meth c Q D cl cy A nL Ad pc ls r cn st := by
  intro ad jl H locs hA hL hV hP hD hS
  exact lv_sipush hx hb d hv (k ad jl H locs hA hL (hV.stk (fun o ho => by simpa using ho)) hP hD hS)

theorem si_lconst (hx : p.tables.exec = Jvm.exec) (hb : c.code = cc) {n : Fin 2} {v : Int64} (d : decode cc pc = .ok (.lconst n, 1)) (hv : Int64.ofNat (n : Nat) = v) (k : Gp p l e R s m args below meth c Q D cl cy A nL Ad (pc + 1) ls (.long v :: r) cn st) : Gp p l e R s m args below meth c Q D cl cy A nL Ad pc ls r cn st := by
  intro ad jl H locs hA hL hV hP hD hS
  exact lv_lconst hx hb d hv (k ad jl H locs hA hL (hV.stk (fun o ho => by simpa using ho)) hP hD hS)

theorem si_ldci (hx : p.tables.exec = Jvm.exec) (hb : c.code = cc) {own : String} {ix : Nat} {v : Int32} (hown : s.vm.findClass own = some m.cls) (hc : (Jvm.Cond.constant own ix v).before args s = true) (d : decode cc pc = .ok (.ldc ix, 2)) (k : Gp p l e R s m args below meth c Q D cl cy A nL Ad (pc + 2) ls (.int v :: r) cn st) : Gp p l e R s m args below meth c Q D cl cy A nL Ad pc ls r cn st := by
  intro ad jl H locs hA hL hV hP hD hS
  exact lv_ldc hx hb hown hc d (k ad jl H locs hA hL (hV.stk (fun o ho => by simpa using ho)) hP hD hS)

theorem si_ldcwi (hx : p.tables.exec = Jvm.exec) (hb : c.code = cc) {own : String} {ix : Nat} {v : Int32} (hown : s.vm.findClass own = some m.cls) (hc : (Jvm.Cond.constant own ix v).before args s = true) (d : decode cc pc = .ok (.ldc_w ix, 3)) (k : Gp p l e R s m args below meth c Q D cl cy A nL Ad (pc + 3) ls (.int v :: r) cn st) : Gp p l e R s m args below meth c Q D cl cy A nL Ad pc ls r cn st := by
  intro ad jl H locs hA hL hV hP hD hS
  exact lv_ldcw hx hb hown hc d (k ad jl H locs hA hL (hV.stk (fun o ho => by simpa using ho)) hP hD hS)

theorem si_ldc2 (hx : p.tables.exec = Jvm.exec) (hb : c.code = cc) {own : String} {ix : Nat} {v : Int64} (hown : s.vm.findClass own = some m.cls) (hc : (Jvm.Cond.constantLong own ix v).before args s = true) (d : decode cc pc = .ok (.ldc2_w ix, 3)) (k : Gp p l e R s m args below meth c Q D cl cy A nL Ad (pc + 3) ls (.long v :: r) cn st) : Gp p l e R s m args below meth c Q D cl cy A nL Ad pc ls r cn st := by
  intro ad jl H locs hA hL hV hP hD hS
  exact lv_ldc2 hx hb hown hc d (k ad jl H locs hA hL (hV.stk (fun o ho => by simpa using ho)) hP hD hS)

theorem si_pop (hx : p.tables.exec = Jvm.exec) (hb : c.code = cc) {x : Int32} (d : decode cc pc = .ok (.pop, 1)) (k : Gp p l e R s m args below meth c Q D cl cy A nL Ad (pc + 1) ls r cn st) : Gp p l e R s m args below meth c Q D cl cy A nL Ad pc ls (.int x :: r) cn st := by
  intro ad jl H locs hA hL hV hP hD hS
  exact lv_pop hx hb d rfl (k ad jl H locs hA hL (hV.stk (fun o ho => by simpa using ho)) hP hD hS)

theorem si_dupi (hx : p.tables.exec = Jvm.exec) (hb : c.code = cc) {x : Int32} (d : decode cc pc = .ok (.dup, 1)) (k : Gp p l e R s m args below meth c Q D cl cy A nL Ad (pc + 1) ls (.int x :: .int x :: r) cn st) : Gp p l e R s m args below meth c Q D cl cy A nL Ad pc ls (.int x :: r) cn st := by
  intro ad jl H locs hA hL hV hP hD hS
  exact lv_dup hx hb d rfl (k ad jl H locs hA hL (hV.stk (fun o ho => by simpa using ho)) hP hD hS)

theorem si_dupr (hx : p.tables.exec = Jvm.exec) (hb : c.code = cc) {x : Nat} (d : decode cc pc = .ok (.dup, 1)) (k : Gp p l e R s m args below meth c Q D cl cy A nL Ad (pc + 1) ls (.ref x :: .ref x :: r) cn st) : Gp p l e R s m args below meth c Q D cl cy A nL Ad pc ls (.ref x :: r) cn st := by
  intro ad jl H locs hA hL hV hP hD hS
  exact lv_dup hx hb d rfl (k ad jl H locs hA hL (hV.stk (fun o ho => by simpa using ho)) hP hD hS)

theorem si_dup2 (hx : p.tables.exec = Jvm.exec) (hb : c.code = cc) {x : Int32} {q : Nat} (d : decode cc pc = .ok (.dup2, 1)) (k : Gp p l e R s m args below meth c Q D cl cy A nL Ad (pc + 1) ls (.int x :: .ref q :: .int x :: .ref q :: r) cn st) : Gp p l e R s m args below meth c Q D cl cy A nL Ad pc ls (.int x :: .ref q :: r) cn st := by
  intro ad jl H locs hA hL hV hP hD hS
  exact lv_dup2_11 hx hb d rfl rfl (k ad jl H locs hA hL (hV.stk (fun o ho => by simpa using ho)) hP hD hS)

theorem si_iload (hx : p.tables.exec = Jvm.exec) (hb : c.code = cc) {i : Nat} {x : Int32} (d : decode cc pc = .ok (.iload i, 2)) (h : ls[i]? = some (some (.int x))) (k : Gp p l e R s m args below meth c Q D cl cy A nL Ad (pc + 2) ls (.int x :: r) cn st) : Gp p l e R s m args below meth c Q D cl cy A nL Ad pc ls r cn st := by
  intro ad jl H locs hA hL hV hP hD hS
  exact lv_iload hx hb d (hL.at h) (k ad jl H locs hA hL (hV.stk (fun o ho => by simpa using ho)) hP hD hS)

theorem si_iload_n (hx : p.tables.exec = Jvm.exec) (hb : c.code = cc) {j : Fin 4} {i : Nat} {x : Int32} (d : decode cc pc = .ok (.iload_n j, 1)) (hi : (j : Nat) = i) (h : ls[i]? = some (some (.int x))) (k : Gp p l e R s m args below meth c Q D cl cy A nL Ad (pc + 1) ls (.int x :: r) cn st) : Gp p l e R s m args below meth c Q D cl cy A nL Ad pc ls r cn st := by
  intro ad jl H locs hA hL hV hP hD hS
  exact lv_iload_n hx hb d hi (hL.at h) (k ad jl H locs hA hL (hV.stk (fun o ho => by simpa using ho)) hP hD hS)

theorem si_lload (hx : p.tables.exec = Jvm.exec) (hb : c.code = cc) {i : Nat} {x : Int64} (d : decode cc pc = .ok (.lload i, 2)) (h : ls[i]? = some (some (.long x))) (k : Gp p l e R s m args below meth c Q D cl cy A nL Ad (pc + 2) ls (.long x :: r) cn st) : Gp p l e R s m args below meth c Q D cl cy A nL Ad pc ls r cn st := by
  intro ad jl H locs hA hL hV hP hD hS
  exact lv_lload hx hb d (hL.at h) (k ad jl H locs hA hL (hV.stk (fun o ho => by simpa using ho)) hP hD hS)

theorem si_lload_n (hx : p.tables.exec = Jvm.exec) (hb : c.code = cc) {j : Fin 4} {i : Nat} {x : Int64} (d : decode cc pc = .ok (.lload_n j, 1)) (hi : (j : Nat) = i) (h : ls[i]? = some (some (.long x))) (k : Gp p l e R s m args below meth c Q D cl cy A nL Ad (pc + 1) ls (.long x :: r) cn st) : Gp p l e R s m args below meth c Q D cl cy A nL Ad pc ls r cn st := by
  intro ad jl H locs hA hL hV hP hD hS
  exact lv_lload_n hx hb d hi (hL.at h) (k ad jl H locs hA hL (hV.stk (fun o ho => by simpa using ho)) hP hD hS)

theorem si_aload (hx : p.tables.exec = Jvm.exec) (hb : c.code = cc) {i x : Nat} (d : decode cc pc = .ok (.aload i, 2)) (h : ls[i]? = some (some (.ref x))) (k : Gp p l e R s m args below meth c Q D cl cy A nL Ad (pc + 2) ls (.ref x :: r) cn st) : Gp p l e R s m args below meth c Q D cl cy A nL Ad pc ls r cn st := by
  intro ad jl H locs hA hL hV hP hD hS
  exact lv_aload hx hb d (hL.at h) (k ad jl H locs hA hL ⟨hV.1, hV.2.1, fun o ho => (List.mem_cons.mp ho).elim (fun q => by cases q; exact hV.2.1 i x h) (hV.2.2 o)⟩ hP hD hS)

theorem si_aload_n (hx : p.tables.exec = Jvm.exec) (hb : c.code = cc) {j : Fin 4} {i x : Nat} (d : decode cc pc = .ok (.aload_n j, 1)) (hi : (j : Nat) = i) (h : ls[i]? = some (some (.ref x))) (k : Gp p l e R s m args below meth c Q D cl cy A nL Ad (pc + 1) ls (.ref x :: r) cn st) : Gp p l e R s m args below meth c Q D cl cy A nL Ad pc ls r cn st := by
  intro ad jl H locs hA hL hV hP hD hS
  exact lv_aload_n hx hb d hi (hL.at h) (k ad jl H locs hA hL ⟨hV.1, hV.2.1, fun o ho => (List.mem_cons.mp ho).elim (fun q => by cases q; exact hV.2.1 i x h) (hV.2.2 o)⟩ hP hD hS)

theorem si_istore (hx : p.tables.exec = Jvm.exec) (hb : c.code = cc) {i : Nat} {x : Int32} (d : decode cc pc = .ok (.istore i, 2)) (hn : i < nL) (k : Gp p l e R s m args below meth c Q D cl cy A nL Ad (pc + 2) (lst ls i (.int x)) r cn st) : Gp p l e R s m args below meth c Q D cl cy A nL Ad pc ls (.int x :: r) cn st := by
  intro ad jl H locs hA hL hV hP hD hS
  exact lv_istore hx hb d hL hn rfl (fun jl2 hl2 => k ad jl2 H locs hA (LH.put hl2) (hV.put) hP hD hS)

theorem si_istore_n (hx : p.tables.exec = Jvm.exec) (hb : c.code = cc) {j : Fin 4} {i : Nat} {x : Int32} (d : decode cc pc = .ok (.istore_n j, 1)) (hi : (j : Nat) = i) (hn : i < nL) (k : Gp p l e R s m args below meth c Q D cl cy A nL Ad (pc + 1) (lst ls i (.int x)) r cn st) : Gp p l e R s m args below meth c Q D cl cy A nL Ad pc ls (.int x :: r) cn st := by
  intro ad jl H locs hA hL hV hP hD hS
  exact lv_istore_n hx hb d hi hL hn rfl (fun jl2 hl2 => k ad jl2 H locs hA (LH.put hl2) (hV.put) hP hD hS)

theorem si_astore (hx : p.tables.exec = Jvm.exec) (hb : c.code = cc) {i : Nat} {x : Nat} (d : decode cc pc = .ok (.astore i, 2)) (hn : i < nL) (k : Gp p l e R s m args below meth c Q D cl cy A nL Ad (pc + 2) (lst ls i (.ref x)) r cn st) : Gp p l e R s m args below meth c Q D cl cy A nL Ad pc ls (.ref x :: r) cn st := by
  intro ad jl H locs hA hL hV hP hD hS
  exact lv_astore hx hb d hL hn rfl (fun jl2 hl2 => k ad jl2 H locs hA (LH.put hl2) (hV.put) hP hD hS)

theorem si_astore_n (hx : p.tables.exec = Jvm.exec) (hb : c.code = cc) {j : Fin 4} {i : Nat} {x : Nat} (d : decode cc pc = .ok (.astore_n j, 1)) (hi : (j : Nat) = i) (hn : i < nL) (k : Gp p l e R s m args below meth c Q D cl cy A nL Ad (pc + 1) (lst ls i (.ref x)) r cn st) : Gp p l e R s m args below meth c Q D cl cy A nL Ad pc ls (.ref x :: r) cn st := by
  intro ad jl H locs hA hL hV hP hD hS
  exact lv_astore_n hx hb d hi hL hn rfl (fun jl2 hl2 => k ad jl2 H locs hA (LH.put hl2) (hV.put) hP hD hS)

theorem si_lstore (hx : p.tables.exec = Jvm.exec) (hb : c.code = cc) {i : Nat} {x : Int64} (d : decode cc pc = .ok (.lstore i, 2)) (hn2 : i + 1 < nL) (k : Gp p l e R s m args below meth c Q D cl cy A nL Ad (pc + 2) (lst2 ls i (.long x)) r cn st) : Gp p l e R s m args below meth c Q D cl cy A nL Ad pc ls (.long x :: r) cn st := by
  intro ad jl H locs hA hL hV hP hD hS
  exact lv_lstore hx hb d hL hn2 rfl (fun jl2 hl2 => k ad jl2 H locs hA (LH.put2 hl2) hV.put2 hP hD hS)

theorem si_lstore_n (hx : p.tables.exec = Jvm.exec) (hb : c.code = cc) {j : Fin 4} {i : Nat} {x : Int64} (d : decode cc pc = .ok (.lstore_n j, 1)) (hi : (j : Nat) = i) (hn2 : i + 1 < nL) (k : Gp p l e R s m args below meth c Q D cl cy A nL Ad (pc + 1) (lst2 ls i (.long x)) r cn st) : Gp p l e R s m args below meth c Q D cl cy A nL Ad pc ls (.long x :: r) cn st := by
  intro ad jl H locs hA hL hV hP hD hS
  exact lv_lstore_n hx hb d hi hL hn2 rfl (fun jl2 hl2 => k ad jl2 H locs hA (LH.put2 hl2) hV.put2 hP hD hS)

theorem si_iinc (hx : p.tables.exec = Jvm.exec) (hb : c.code = cc) {i : Nat} {n : Int} {x v : Int32} (d : decode cc pc = .ok (.iinc i n, 3)) (h : ls[i]? = some (some (.int x))) (hv : x + Int32.ofInt n = v) (hn : i < nL) (k : Gp p l e R s m args below meth c Q D cl cy A nL Ad (pc + 3) (lst ls i (.int v)) r cn st) : Gp p l e R s m args below meth c Q D cl cy A nL Ad pc ls r cn st := by
  intro ad jl H locs hA hL hV hP hD hS
  obtain ⟨k9, hk9⟩ := List.getElem?_of_mem (held_mem0.mpr ⟨_, h, rfl⟩ : (i, trv ad (.int x)) ∈ held ad 0 ls)
  exact lv_iinc hx hb d hL (k := k9) hk9 hv hn rfl (fun jl2 hl2 => k ad jl2 H locs hA (LH.put hl2) (VOk.put (v := .int v) (hV.stk (fun o ho => by simpa using ho))) hP hD hS)

theorem si_goto (hx : p.tables.exec = Jvm.exec) (hb : c.code = cc) {off : Int} {tgt : Nat} (d : decode cc pc = .ok (.goto off, 3)) (ht : (pc : Int) + off = (tgt : Int)) (k : Gp p l e R s m args below meth c Q D cl cy A nL Ad tgt ls r cn st) : Gp p l e R s m args below meth c Q D cl cy A nL Ad pc ls r cn st := by
  intro ad jl H locs hA hL hV hP hD hS
  exact lv_goto hx hb d ht (k ad jl H locs hA hL hV hP hD hS)

theorem si_if_eq (hx : p.tables.exec = Jvm.exec) (hb : c.code = cc) {x : Int32} {off : Int} {tgt : Nat} (d : decode cc pc = .ok (.ifCond .eq off, 3)) (ht : (pc : Int) + off = (tgt : Int)) (kt : x = 0 → Gp p l e R s m args below meth c Q D cl cy A nL Ad tgt ls r cn st) (kf : ¬ x = 0 → Gp p l e R s m args below meth c Q D cl cy A nL Ad (pc + 3) ls r cn st) : Gp p l e R s m args below meth c Q D cl cy A nL Ad pc ls (.int x :: r) cn st := by
  intro ad jl H locs hA hL hV hP hD hS
  exact lv_if_eq hx hb d ht (fun h9 => kt (h9) ad jl H locs hA hL (hV.stk (fun o ho => by simpa using ho)) hP hD hS) (fun h9 => kf (h9) ad jl H locs hA hL (hV.stk (fun o ho => by simpa using ho)) hP hD hS)

theorem si_if_ne (hx : p.tables.exec = Jvm.exec) (hb : c.code = cc) {x : Int32} {off : Int} {tgt : Nat} (d : decode cc pc = .ok (.ifCond .ne off, 3)) (ht : (pc : Int) + off = (tgt : Int)) (kt : ¬ x = 0 → Gp p l e R s m args below meth c Q D cl cy A nL Ad tgt ls r cn st) (kf : x = 0 → Gp p l e R s m args below meth c Q D cl cy A nL Ad (pc + 3) ls r cn st) : Gp p l e R s m args below meth c Q D cl cy A nL Ad pc ls (.int x :: r) cn st := by
  intro ad jl H locs hA hL hV hP hD hS
  exact lv_if_ne hx hb d ht (fun h9 => kt (h9) ad jl H locs hA hL (hV.stk (fun o ho => by simpa using ho)) hP hD hS) (fun h9 => kf (h9) ad jl H locs hA hL (hV.stk (fun o ho => by simpa using ho)) hP hD hS)

theorem si_if_lt (hx : p.tables.exec = Jvm.exec) (hb : c.code = cc) {x : Int32} {off : Int} {tgt : Nat} (d : decode cc pc = .ok (.ifCond .lt off, 3)) (ht : (pc : Int) + off = (tgt : Int)) (kt : x < 0 → Gp p l e R s m args below meth c Q D cl cy A nL Ad tgt ls r cn st) (kf : ¬ x < 0 → Gp p l e R s m args below meth c Q D cl cy A nL Ad (pc + 3) ls r cn st) : Gp p l e R s m args below meth c Q D cl cy A nL Ad pc ls (.int x :: r) cn st := by
  intro ad jl H locs hA hL hV hP hD hS
  exact lv_if_lt hx hb d ht (fun h9 => kt (h9) ad jl H locs hA hL (hV.stk (fun o ho => by simpa using ho)) hP hD hS) (fun h9 => kf (h9) ad jl H locs hA hL (hV.stk (fun o ho => by simpa using ho)) hP hD hS)

theorem si_if_ge (hx : p.tables.exec = Jvm.exec) (hb : c.code = cc) {x : Int32} {off : Int} {tgt : Nat} (d : decode cc pc = .ok (.ifCond .ge off, 3)) (ht : (pc : Int) + off = (tgt : Int)) (kt : ¬ x < 0 → Gp p l e R s m args below meth c Q D cl cy A nL Ad tgt ls r cn st) (kf : x < 0 → Gp p l e R s m args below meth c Q D cl cy A nL Ad (pc + 3) ls r cn st) : Gp p l e R s m args below meth c Q D cl cy A nL Ad pc ls (.int x :: r) cn st := by
  intro ad jl H locs hA hL hV hP hD hS
  exact lv_if_ge hx hb d ht (fun h9 => kt (Int32.not_lt.mpr h9) ad jl H locs hA hL (hV.stk (fun o ho => by simpa using ho)) hP hD hS) (fun h9 => kf (Int32.not_le.mp h9) ad jl H locs hA hL (hV.stk (fun o ho => by simpa using ho)) hP hD hS)

theorem si_if_gt (hx : p.tables.exec = Jvm.exec) (hb : c.code = cc) {x : Int32} {off : Int} {tgt : Nat} (d : decode cc pc = .ok (.ifCond .gt off, 3)) (ht : (pc : Int) + off = (tgt : Int)) (kt : 0 < x → Gp p l e R s m args below meth c Q D cl cy A nL Ad tgt ls r cn st) (kf : ¬ 0 < x → Gp p l e R s m args below meth c Q D cl cy A nL Ad (pc + 3) ls r cn st) : Gp p l e R s m args below meth c Q D cl cy A nL Ad pc ls (.int x :: r) cn st := by
  intro ad jl H locs hA hL hV hP hD hS
  exact lv_if_gt hx hb d ht (fun h9 => kt (h9) ad jl H locs hA hL (hV.stk (fun o ho => by simpa using ho)) hP hD hS) (fun h9 => kf (h9) ad jl H locs hA hL (hV.stk (fun o ho => by simpa using ho)) hP hD hS)

theorem si_if_le (hx : p.tables.exec = Jvm.exec) (hb : c.code = cc) {x : Int32} {off : Int} {tgt : Nat} (d : decode cc pc = .ok (.ifCond .le off, 3)) (ht : (pc : Int) + off = (tgt : Int)) (kt : ¬ 0 < x → Gp p l e R s m args below meth c Q D cl cy A nL Ad tgt ls r cn st) (kf : 0 < x → Gp p l e R s m args below meth c Q D cl cy A nL Ad (pc + 3) ls r cn st) : Gp p l e R s m args below meth c Q D cl cy A nL Ad pc ls (.int x :: r) cn st := by
  intro ad jl H locs hA hL hV hP hD hS
  exact lv_if_le hx hb d ht (fun h9 => kt (Int32.not_lt.mpr h9) ad jl H locs hA hL (hV.stk (fun o ho => by simpa using ho)) hP hD hS) (fun h9 => kf (Int32.not_le.mp h9) ad jl H locs hA hL (hV.stk (fun o ho => by simpa using ho)) hP hD hS)

theorem si_icmp_eq (hx : p.tables.exec = Jvm.exec) (hb : c.code = cc) {x y : Int32} {off : Int} {tgt : Nat} (d : decode cc pc = .ok (.if_icmp .eq off, 3)) (ht : (pc : Int) + off = (tgt : Int)) (kt : x = y → Gp p l e R s m args below meth c Q D cl cy A nL Ad tgt ls r cn st) (kf : ¬ x = y → Gp p l e R s m args below meth c Q D cl cy A nL Ad (pc + 3) ls r cn st) : Gp p l e R s m args below meth c Q D cl cy A nL Ad pc ls (.int y :: .int x :: r) cn st := by
  intro ad jl H locs hA hL hV hP hD hS
  exact lv_icmp_eq hx hb d ht (fun h9 => kt (h9) ad jl H locs hA hL (hV.stk (fun o ho => by simpa using ho)) hP hD hS) (fun h9 => kf (h9) ad jl H locs hA hL (hV.stk (fun o ho => by simpa using ho)) hP hD hS)

theorem si_icmp_ne (hx : p.tables.exec = Jvm.exec) (hb : c.code = cc) {x y : Int32} {off : Int} {tgt : Nat} (d : decode cc pc = .ok (.if_icmp .ne off, 3)) (ht : (pc : Int) + off = (tgt : Int)) (kt : ¬ x = y → Gp p l e R s m args below meth c Q D cl cy A nL Ad tgt ls r cn st) (kf : x = y → Gp p l e R s m args below meth c Q D cl cy A nL Ad (pc + 3) ls r cn st) : Gp p l e R s m args below meth c Q D cl cy A nL Ad pc ls (.int y :: .int x :: r) cn st := by
  intro ad jl H locs hA hL hV hP hD hS
  exact lv_icmp_ne hx hb d ht (fun h9 => kt (h9) ad jl H locs hA hL (hV.stk (fun o ho => by simpa using ho)) hP hD hS) (fun h9 => kf (h9) ad jl H locs hA hL (hV.stk (fun o ho => by simpa using ho)) hP hD hS)

theorem si_icmp_lt (hx : p.tables.exec = Jvm.exec) (hb : c.code = cc) {x y : Int32} {off : Int} {tgt : Nat} (d : decode cc pc = .ok (.if_icmp .lt off, 3)) (ht : (pc : Int) + off = (tgt : Int)) (kt : x < y → Gp p l e R s m args below meth c Q D cl cy A nL Ad tgt ls r cn st) (kf : ¬ x < y → Gp p l e R s m args below meth c Q D cl cy A nL Ad (pc + 3) ls r cn st) : Gp p l e R s m args below meth c Q D cl cy A nL Ad pc ls (.int y :: .int x :: r) cn st := by
  intro ad jl H locs hA hL hV hP hD hS
  exact lv_icmp_lt hx hb d ht (fun h9 => kt (h9) ad jl H locs hA hL (hV.stk (fun o ho => by simpa using ho)) hP hD hS) (fun h9 => kf (h9) ad jl H locs hA hL (hV.stk (fun o ho => by simpa using ho)) hP hD hS)

theorem si_icmp_ge (hx : p.tables.exec = Jvm.exec) (hb : c.code = cc) {x y : Int32} {off : Int} {tgt : Nat} (d : decode cc pc = .ok (.if_icmp .ge off, 3)) (ht : (pc : Int) + off = (tgt : Int)) (kt : ¬ x < y → Gp p l e R s m args below meth c Q D cl cy A nL Ad tgt ls r cn st) (kf : x < y → Gp p l e R s m args below meth c Q D cl cy A nL Ad (pc + 3) ls r cn st) : Gp p l e R s m args below meth c Q D cl cy A nL Ad pc ls (.int y :: .int x :: r) cn st := by
  intro ad jl H locs hA hL hV hP hD hS
  exact lv_icmp_ge hx hb d ht (fun h9 => kt (Int32.not_lt.mpr h9) ad jl H locs hA hL (hV.stk (fun o ho => by simpa using ho)) hP hD hS) (fun h9 => kf (Int32.not_le.mp h9) ad jl H locs hA hL (hV.stk (fun o ho => by simpa using ho)) hP hD hS)

theorem si_icmp_gt (hx : p.tables.exec = Jvm.exec) (hb : c.code = cc) {x y : Int32} {off : Int} {tgt : Nat} (d : decode cc pc = .ok (.if_icmp .gt off, 3)) (ht : (pc : Int) + off = (tgt : Int)) (kt : y < x → Gp p l e R s m args below meth c Q D cl cy A nL Ad tgt ls r cn st) (kf : ¬ y < x → Gp p l e R s m args below meth c Q D cl cy A nL Ad (pc + 3) ls r cn st) : Gp p l e R s m args below meth c Q D cl cy A nL Ad pc ls (.int y :: .int x :: r) cn st := by
  intro ad jl H locs hA hL hV hP hD hS
  exact lv_icmp_gt hx hb d ht (fun h9 => kt (h9) ad jl H locs hA hL (hV.stk (fun o ho => by simpa using ho)) hP hD hS) (fun h9 => kf (h9) ad jl H locs hA hL (hV.stk (fun o ho => by simpa using ho)) hP hD hS)

theorem si_icmp_le (hx : p.tables.exec = Jvm.exec) (hb : c.code = cc) {x y : Int32} {off : Int} {tgt : Nat} (d : decode cc pc = .ok (.if_icmp .le off, 3)) (ht : (pc : Int) + off = (tgt : Int)) (kt : ¬ y < x → Gp p l e R s m args below meth c Q D cl cy A nL Ad tgt ls r cn st) (kf : y < x → Gp p l e R s m args below meth c Q D cl cy A nL Ad (pc + 3) ls r cn st) : Gp p l e R s m args below meth c Q D cl cy A nL Ad pc ls (.int y :: .int x :: r) cn st := by
  intro ad jl H locs hA hL hV hP hD hS
  exact lv_icmp_le hx hb d ht (fun h9 => kt (Int32.not_lt.mpr h9) ad jl H locs hA hL (hV.stk (fun o ho => by simpa using ho)) hP hD hS) (fun h9 => kf (Int32.not_le.mp h9) ad jl H locs hA hL (hV.stk (fun o ho => by simpa using ho)) hP hD hS)


end SIM
