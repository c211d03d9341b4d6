/-! THE SPECIAL INSTRUCTIONS -/
theorem aInv_use {C : Nat → List Value → aSt → aRes} {g : aK} {h : Nat × Nat → Nat → aSt → aRes} {B : Nat × Nat} {j b : Nat} {cs : List aE} {ls : aL} {stk : List Value} {cn : Nat × Nat} {st : aSt} {res : (Option Value ⊕ Nat) × aSt} (hh : aInv C g h B j b cs ls stk cn st = some res) :
    ∃ rc : (Option Value ⊕ Nat) × aSt, C j (stk.take (b / 4 % 16)).reverse st = some rc ∧ ((stk.drop (b / 4 % 16)).map fun v => v.category).sum ≤ 8 ∧ b / 4 % 16 ≤ stk.length ∧ cn.1 + b / 8192 % 256 ≤ B.1 ∧ cn.2 + b / 2097152 ≤ B.2 ∧
      ((∃ v : Option Value, rc.1 = .inl v ∧ g cs ls (v.toList ++ stk.drop (b / 4 % 16)) (cn.1 + b / 8192 % 256, cn.2 + b / 2097152) (kpb b st rc.2) = some res) ∨ (∃ k : Nat, rc.1 = .inr k ∧ h (cn.1 + b / 8192 % 256, cn.2 + b / 2097152) k (kpb b st rc.2) = some res)) := by
  unfold aInv at hh
  split at hh
  · rename_i h1
    split at hh
    · rename_i h2
      split at hh
      · generalize hx : C j (stk.take (b / 4 % 16)).reverse st = x at hh
        unfold cV at hh
        split at hh
        · exact ⟨_, rfl, h1.1, h1.2, h2.1, h2.2, Or.inl ⟨none, rfl, hh⟩⟩
        · exact ⟨_, rfl, h1.1, h1.2, h2.1, h2.2, Or.inr ⟨_, rfl, hh⟩⟩
        · cases hh
      · split at hh
        · generalize hx : C j (stk.take (b / 4 % 16)).reverse st = x at hh
          unfold cI at hh
          split at hh
          · exact ⟨_, rfl, h1.1, h1.2, h2.1, h2.2, Or.inl ⟨some (.int _), rfl, hh⟩⟩
          · exact ⟨_, rfl, h1.1, h1.2, h2.1, h2.2, Or.inr ⟨_, rfl, hh⟩⟩
          · cases hh
        · generalize hx : C j (stk.take (b / 4 % 16)).reverse st = x at hh
          unfold cJ at hh
          split at hh
          · exact ⟨_, rfl, h1.1, h1.2, h2.1, h2.2, Or.inl ⟨some (.long _), rfl, hh⟩⟩
          · exact ⟨_, rfl, h1.1, h1.2, h2.1, h2.2, Or.inr ⟨_, rfl, hh⟩⟩
          · cases hh
    · cases hh
  · cases hh
theorem kp_same {st st1 : aSt} (h1 : gN st1 = gN st) (h2 : gR st1 = gR st) : kp st st1 = st1 := by
  obtain ⟨a, I, J, Rr⟩ := st
  obtain ⟨a1, I1, J1, R1⟩ := st1
  have h1 : a1 = a := h1
  have h2 : R1 = Rr := h2
  subst h1; subst h2
  rfl
theorem kpb_same {b : Nat} {st st1 : aSt} (h : b / 4096 % 2 = 0 → gN st1 = gN st ∧ gR st1 = gR st) : kpb b st st1 = st1 := by
  unfold kpb
  split
  · rename_i h0
    exact kp_same (h h0).1 (h h0).2
  · rfl
theorem tk_dr (stk : List Value) (n : Nat) : ((stk.take n).reverse).reverse ++ stk.drop n = stk := by
  rw [List.reverse_reverse, List.take_append_drop]
theorem swg_spec {f : Nat → aRes} {x : Int32} {res : (Option Value ⊕ Nat) × aSt} : ∀ (ts : List Nat) (k d : Nat), swg f x k ts d = some res → (∃ (i t : Nat), ts[i]? = some t ∧ x = nI (k + i) ∧ f t = some res) ∨ ((∀ i, i < ts.length → x ≠ nI (k + i)) ∧ f d = some res)
  | [], k, d, h => Or.inr ⟨fun i hi => by simp at hi, h⟩
  | t :: ts, k, d, h => by
    rw [swg] at h
    split at h
    · rename_i e
      exact Or.inl ⟨0, t, rfl, e, h⟩
    · rename_i e
      rcases swg_spec ts (k + 1) d h with ⟨i, t', h1, h2, h3⟩ | ⟨h1, h2⟩
      · exact Or.inl ⟨i + 1, t', by simpa using h1, by rw [h2]; congr 1; omega, h3⟩
      · refine Or.inr ⟨fun i hi => ?_, h2⟩
        cases i with
        | zero => exact e
        | succ i =>
          have := h1 i (by simpa using hi)
          rw [show k + (i + 1) = k + 1 + i by omega]
          exact this
theorem dropTo_drop (t : Nat) : ∀ L : List aE, ∃ i, dropTo t L = L.drop i
  | [] => ⟨0, rfl⟩
  | e :: l => by
    rw [dropTo]
    split
    · exact ⟨0, rfl⟩
    · obtain ⟨i, hi⟩ := dropTo_drop t l
      exact ⟨i + 1, by simpa using hi⟩
theorem nI_toInt9 {n : Nat} (h : n < 2147483648) : (nI n).toInt = (n : Int) := by
  have e : nI n = Int32.ofNat n := rfl
  rw [e, Int32.toInt_ofNat_of_lt (by omega)]
theorem of_toInt {x : Int32} (h : 0 ≤ x.toInt) : x = nI x.toInt.toNat := by
  have h2 : x.toInt < 2147483648 := by have := Int32.toInt_lt x; omega
  apply Int32.toInt_inj.mp
  rw [nI_toInt9 (by omega)]
  omega
section SP
variable {p : Program} {l : Launch} {e : Env} {R : Room} {s : State} {m : MethodId} {args : Array Value} {below : List Frame} {meth : Method} {c : Code} {Q : State → Prop} {cc : ByteArray} {D : va_G} {cy : Nat → ClassId} {A : Nat → Prop} {nL : Nat} {Ad : (Nat → Nat) → Prop}
variable {X : Nat × (Nat → Int32)} {C : Nat → List Value → aSt → aRes} {M : aM} {g : aK} {res : (Option Value ⊕ Nat) × aSt} {pc a b oc n0 d : Nat} {cut : Option (List Bool)} {cs : List aE} {ls : aL} {stk : List Value} {cn : Nat × Nat} {st : aSt} {ini : Bool}
/-- what a body's calls stand in -/
noncomputable def Cy (l : Launch) (R : Room) (s : State) (c : Code) (A : Nat → Prop) (nL : Nat) (Ad : (Nat → Nat) → Prop) (X : Nat × (Nat → Int32)) (d : Nat) : Prop :=
  c.maxLocals = nL ∧ (∀ ad, Ad ad → exX X ad A s s.heap) ∧ d + 11 ≤ R.frames ∧ 100 * d + 400 ≤ R.locals ∧ (∀ j, j < 302 → j ≠ 299 → j ≠ 300 → Ct (exX X) X l d j)
/-- what is thrown here goes on -/
def Hd (p : Program) (l : Launch) (e : Env) (R : Room) (s : State) (m : MethodId) (args : Array Value) (below : List Frame) (meth : Method) (c : Code) (Q : State → Prop) (D : va_G) (cy : Nat → ClassId) (A : Nat → Prop) (nL : Nat) (Ad : (Nat → Nat) → Prop) (M : aM) (g : aK) (res : (Option Value ⊕ Nat) × aSt) (pc : Nat) (st : aSt) : Prop :=
  ∀ (ls : aL) (r : List Value) (cn : Nat × Nat) (st' : aSt) (k : Nat), aHnd g M.1 pc ls cn M.2.2.1 k st' = some res → gN st ≤ gN st' → cnOk M cn → (k = 1 ∨ k = 2) → Gx p l e R s m args below meth c Q D cy A nL Ad pc ls r cn st' k
theorem sp_alen (hC : Cx p R s m args meth c cc D cy A nL Ad M oc ini n0) (hEx : ∀ ad, Ad ad → exX X ad A s s.heap) (hd : decode cc pc = .ok (.arraylength, 1)) (hw : nxb cs (pc + 1) = true) (hN : Nx p l e R s m args below meth c Q D cy A nL Ad M g res cs st cn) (h : am_step X C M g (pc, cut, .arraylength, a, b) cs ls stk cn st = some res) : Gp p l e R s m args below meth c Q D clL cy A nL Ad pc ls stk cn st := by
  obtain ⟨hx, hb, hnl, hts, hK, hown, hini, hstr, hA, hAd, hRc, hRs⟩ := hC
  have h : (match (generalizing := false) stk with
    | .ref o :: r => if o = 1000000 then g cs ls (.int (nI X.1) :: r) cn st else if KK o = 10 then g cs ls (.int (nI (LL o)) :: r) cn st else none
    | _ => none) = some res := h
  split at h
  · rename_i o r
    split at h
    · rename_i e0
      subst e0
      have kk := hN cs _ _ _ _ _ h (Or.inl rfl) ⟨Nat.le_refl _, id⟩ hw
      intro ad jl H locs ha hL hV hP hD hS
      obtain ⟨⟨h1, h2, h3⟩, -⟩ := hEx ad ha
      exact va_slen hx hb h1 (by obtain ⟨sc, z, -⟩ := h1; exact (Array.getElem?_eq_some_iff.mp z).1) h3 hS hd (kk ad jl H locs ha hL (hV.stk (fun o ho => by simp at ho; simp; exact Or.inr ho)) hP hD hS)
    · split at h
      · rename_i e0 e1
        exact si_alen hx hb hK rfl e1 (KK_10 e1 e0) hd (hN cs _ _ _ _ _ h (Or.inl rfl) ⟨Nat.le_refl _, id⟩ hw)
      · cases h
  · cases h
theorem sp_sld (hC : Cx p R s m args meth c cc D cy A nL Ad M oc ini n0) (hEx : ∀ ad, Ad ad → exX X ad A s s.heap) {x : Int32} {r : List Value} (hd : decode cc pc = .ok (.iaload, 1)) (hw : nxb cs (pc + 1) = true) (hN : Nx p l e R s m args below meth c Q D cy A nL Ad M g res cs st cn) (h : am_step X C M g (pc, cut, .iaload, a, b) cs ls (.int x :: .ref 1000000 :: r) cn st = some res) : Gp p l e R s m args below meth c Q D clL cy A nL Ad pc ls (.int x :: .ref 1000000 :: r) cn st := by
  obtain ⟨hx, hb, hnl, hts, hK, hown, hini, hstr, hA, hAd, hRc, hRs⟩ := hC
  have h : (if x < 0 ∨ X.1 ≤ x.toNatClampNeg then none else g cs ls (.int (X.2 x.toNatClampNeg) :: r) cn st) = some res := h
  split at h
  · cases h
  · rename_i e0
    have kk := hN cs _ _ _ _ _ h (Or.inl rfl) ⟨Nat.le_refl _, id⟩ hw
    intro ad jl H locs ha hL hV hP hD hS
    obtain ⟨⟨h1, h2, h3⟩, -⟩ := hEx ad ha
    exact va_sld hx hb h1 (by obtain ⟨sc, z, -⟩ := h1; exact (Array.getElem?_eq_some_iff.mp z).1) h3 hS e0 hd (kk ad jl H locs ha hL (hV.stk (fun o ho => by simp at ho; simp; exact Or.inr ho)) hP hD hS)
theorem sp_tsw (hC : Cx p R s m args meth c cc D cy A nL Ad M oc ini n0) {dd lo hi : Int} {offs : Array Int} (hsw : swb cc M pc dd lo hi offs = true) (hbd : lo.toNat + offs.size < 2147483648) (hN : Nx p l e R s m args below meth c Q D cy A nL Ad M g res cs st cn) (h : am_step X C M g (pc, cut, .tableswitch dd lo hi offs, a, b) cs ls stk cn st = some res) : Gp p l e R s m args below meth c Q D clL cy A nL Ad pc ls stk cn st := by
  obtain ⟨hx, hb, hnl, hts, hK, hown, hini, hstr, hA, hAd, hRc, hRs⟩ := hC
  have h : (match (generalizing := false) stk with
    | .int x :: r => if 0 ≤ lo then swg (fun t => g (dropTo t M.1) ls r cn st) x lo.toNat (offs.toList.map (aTarg pc)) (aTarg pc dd) else none
    | _ => none) = some res := h
  unfold swb at hsw
  obtain ⟨h1, hall⟩ := and2 hsw
  obtain ⟨h1, hhi⟩ := and2 h1
  obtain ⟨h1, hlo⟩ := and2 h1
  have hlo : 0 ≤ lo := of_decide_eq_true hlo
  have hhi : hi = lo + offs.size - 1 := of_decide_eq_true hhi
  have htg : ∀ o : Int, o ∈ dd :: offs.toList → 0 ≤ (pc : Int) + o ∧ nxb (dropTo (aTarg pc o) M.1) (aTarg pc o) = true := by
    intro o ho
    obtain ⟨z1, z2⟩ := and2 (List.all_eq_true.mp hall o ho)
    refine ⟨of_decide_eq_true z1, ?_⟩
    unfold nxb
    exact z2
  have hdec : ∃ len, decode cc pc = .ok (.tableswitch dd lo hi offs, len) := by
    split at h1
    · rename_i d' lo' hi' offs' len hde
      simp only [Bool.and_eq_true, decide_eq_true_eq] at h1
      obtain ⟨⟨⟨rfl, rfl⟩, rfl⟩, rfl⟩ := h1
      exact ⟨len, hde⟩
    · cases h1
  obtain ⟨len, hdec⟩ := hdec
  split at h
  · rename_i x r h8
    rw [if_pos hlo] at h
    have go : ∀ (o : Int), o ∈ dd :: offs.toList → g (dropTo (aTarg pc o) M.1) ls r cn st = some res → Gp p l e R s m args below meth c Q D clL cy A nL Ad (aTarg pc o) ls r cn st := fun o ho hg =>
      hN _ _ _ _ _ _ hg (Or.inr (dropTo_drop _ _)) ⟨Nat.le_refl _, id⟩ (htg o ho).2
    rcases swg_spec _ _ _ h with ⟨i, t, h2, h3, h4⟩ | ⟨h2, h3⟩
    · rw [List.getElem?_map] at h2
      obtain ⟨o, ho, rfl⟩ := Option.map_eq_some_iff.mp h2
      have hi9 : i < offs.size := by
        have := (List.getElem?_eq_some_iff.mp ho).1
        simpa using this
      have hx9 : x.toInt = ((lo.toNat + i : Nat) : Int) := by rw [h3]; exact nI_toInt9 (by omega)
      have kk := go o (List.mem_cons_of_mem _ (List.mem_of_getElem? ho)) h4
      intro ad jl H locs ha hL hV hP hD hS
      refine lv_tableIn (off := o) (tgt := aTarg pc o) hx hb hdec (by omega) (by omega) ?_ ?_ (kk ad jl H locs ha hL (hV.stk (fun o ho => List.mem_cons_of_mem _ ho)) hP hD hS)
      · rw [show (x.toInt - lo).toNat = i by omega]
        rw [← Array.getElem?_toList]
        exact ho
      · have := (htg o (List.mem_cons_of_mem _ (List.mem_of_getElem? ho))).1
        unfold aTarg
        omega
    · have kk := go dd List.mem_cons_self h3
      intro ad jl H locs ha hL hV hP hD hS
      refine lv_tableOut (tgt := aTarg pc dd) hx hb hdec ?_ ?_ (kk ad jl H locs ha hL (hV.stk (fun o ho => List.mem_cons_of_mem _ ho)) hP hD hS)
      · rcases Int.lt_or_le x.toInt lo with z | z
        · exact Or.inl z
        · rcases Int.lt_or_le hi x.toInt with z2 | z2
          · exact Or.inr z2
          · exfalso
            have e9 := of_toInt (x := x) (by omega)
            have := h2 (x.toInt.toNat - lo.toNat) (by rw [List.length_map, Array.length_toList]; omega)
            rw [show lo.toNat + (x.toInt.toNat - lo.toNat) = x.toInt.toNat by omega] at this
            exact this e9
      · have := (htg dd List.mem_cons_self).1
        unfold aTarg
        omega
  · cases h
theorem le400 {n : Nat} (h : 100 * d + 400 ≤ n) {k : Nat} (hk : k ≤ 400) : k ≤ n := by
  generalize 100 * d = z at h
  exact Nat.le_trans hk (Nat.le_trans (Nat.le_add_left 400 z) h)
theorem sp_copy (hC : Cx p R s m args meth c cc D cy A nL Ad M oc ini n0) (hml : c.maxLocals = nL) (hRf : d + 11 ≤ R.frames) (hRl : 100 * d + 400 ≤ R.locals) {ix : Nat} (hacp : acpT.contains (oc, ix) = true) (hd : decode cc pc = .ok (.invokestatic ix, 3)) (hw : nxb cs (pc + 3) = true) (hN : Nx p l e R s m args below meth c Q D cy A nL Ad M g res cs st cn) (h : aCopy g cs ls stk cn st = some res) : Gp p l e R s m args below meth c Q D clL cy A nL Ad pc ls stk cn st := by
  obtain ⟨hx, hb, hnl, hts, hK, hown, hini, hstr, hA, hAd, hRc, hRs⟩ := hC
  unfold aCopy at h
  split at h
  · split at h
    · rename_i h9
      have W9 : ∀ w ∈ ([Cond.native arraycopyName, Cond.static arraycopyName, Cond.initialized "java/lang/System"] : List Cond), w.before args s = true := fun w hw9 => hts w (tw_of (acwW_in w (by simp at hw9 ⊢; rcases hw9 with rfl | rfl | rfl <;> simp)) (by simp at hw9; rcases hw9 with rfl | rfl | rfl <;> rfl))
      exact si_copy hx hb hml hK rfl hown (hts _ (tw_of (acp_in _ (List.mem_map.mpr ⟨(oc, ix), mem_of_contains hacp, rfl⟩)) rfl)) (W9 _ (by simp)) (W9 _ (by simp)) (W9 _ (by simp)) h9 (by omega) (le400 hRl (by decide)) hd (hN cs _ _ _ _ _ h (Or.inl rfl) ⟨Nat.le_refl _, id⟩ hw)
    · cases h
  · cases h
theorem sp_obj (hC : Cx p R s m args meth c cc D cy A nL Ad M oc ini n0) (hml : c.maxLocals = nL) (hRf : d + 11 ≤ R.frames) (hRl : 100 * d + 400 ≤ R.locals) {ix : Nat} (hobj : objT.contains (oc, ix) = true) (hd : decode cc pc = .ok (.invokespecial ix, 3)) (hw : nxb cs (pc + 3) = true) (hN : Nx p l e R s m args below meth c Q D cy A nL Ad M g res cs st cn) (h : (match (generalizing := false) stk with
    | [.ref _] => g cs ls [] cn st
    | _ => none) = some res) : Gp p l e R s m args below meth c Q D clL cy A nL Ad pc ls stk cn st := by
  obtain ⟨hx, hb, hnl, hts, hK, hown, hini, hstr, hA, hAd, hRc, hRs⟩ := hC
  split at h
  · rename_i o
    have kk := hN cs _ _ _ _ _ h (Or.inl rfl) ⟨Nat.le_refl _, id⟩ hw
    intro ad jl H locs ha hL hV hP hD hS
    refine W.objInit (g := F0 m pc jl [.ref (ad o)]) hx hb hown (hts _ (tw_of (obj_in _ (List.mem_map.mpr ⟨(oc, ix), mem_of_contains hobj, rfl⟩)) rfl)) (hts _ (tw_of (objW_in _ (by simp)) rfl)) (hts _ (tw_of (objW_in _ (by simp)) rfl)) rfl (by rw [hml]; exact hL.1) rfl hd (by omega) (le400 hRl (k := 12) (by decide)) ?_
    exact W.eq (g2 := F0 m (pc + 3) jl []) rfl (kk ad jl H locs ha hL (hV.stk (fun o ho => by simp at ho)) hP hD hS)
  · cases h
end SP
