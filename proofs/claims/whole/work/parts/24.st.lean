/-! Math.max, Math.min; String.length, String.charAt: as calls of the small machine -/
set_option maxRecDepth 100000 in
theorem max_call {X : Nat × (Nat → Int32)} {d : Nat} {v1 v2 : Value} {st : aSt} {rc : (Option Value ⊕ Nat) × aSt} (h : am_call X aP d 299 [v1, v2] st = some rc) : ∃ x y, v1 = .int x ∧ v2 = .int y ∧ rc = (.inl (some (.int (if x < y then y else x))), st) := by
  cases d with
  | zero => cases h
  | succ d =>
    have e : ∀ x y : Int32, am_call X aP (d + 1) 299 [.int x, .int y] st = if x < y then rI y st else rI x st := fun x y => rfl
    cases v1 <;> cases v2 <;> first
      | (rename_i x y
         rw [e] at h
         refine ⟨x, y, rfl, rfl, ?_⟩
         split at h <;> rename_i h9
         · rw [if_pos h9]; exact (Option.some.inj h).symm
         · rw [if_neg h9]; exact (Option.some.inj h).symm)
      | (have h : (none : aRes) = some rc := h; cases h)
set_option maxRecDepth 100000 in
theorem min_call {X : Nat × (Nat → Int32)} {d : Nat} {v1 v2 : Value} {st : aSt} {rc : (Option Value ⊕ Nat) × aSt} (h : am_call X aP d 300 [v1, v2] st = some rc) : ∃ x y, v1 = .int x ∧ v2 = .int y ∧ rc = (.inl (some (.int (if y < x then y else x))), st) := by
  cases d with
  | zero => cases h
  | succ d =>
    have e : ∀ x y : Int32, am_call X aP (d + 1) 300 [.int x, .int y] st = if y < x then rI y st else rI x st := fun x y => rfl
    cases v1 <;> cases v2 <;> first
      | (rename_i x y
         rw [e] at h
         refine ⟨x, y, rfl, rfl, ?_⟩
         split at h <;> rename_i h9
         · rw [if_pos h9]; exact (Option.some.inj h).symm
         · rw [if_neg h9]; exact (Option.some.inj h).symm)
      | (have h : (none : aRes) = some rc := h; cases h)
theorem KK_20 {o : Nat} (h : KK o = 20) : ∃ k, k < 18 ∧ o = 2000000 + k := by
  unfold KK at h
  by_cases h0 : 1000000 ≤ o
  · rw [if_pos h0] at h
    by_cases h1 : o = 1000000
    · rw [if_pos h1] at h; omega
    · rw [if_neg h1] at h
      by_cases h2 : o < 2000000
      · rw [if_pos h2] at h; omega
      · rw [if_neg h2] at h
        split at h
        · exact ⟨o - 2000000, by omega, by omega⟩
        · omega
  · rw [if_neg h0] at h
    repeat' split at h
    all_goals omega
section ST
variable {p : Program} {l : Launch} {e : Env} {R : Room} {s : State} {m : MethodId} {args : Array Value} {below : List Frame} {meth : Method} {c : Code} {Q : State → Prop} {cc : ByteArray} {D : va_G} {cy : Nat → ClassId} {A : Nat → Prop} {nL : Nat} {Ad : (Nat → Nat) → Prop}
variable {X : Nat × (Nat → Int32)} {M : aM} {g : aK} {res : (Option Value ⊕ Nat) × aSt} {pc a b oc n0 d : Nat} {cut : Option (List Bool)} {cs : List aE} {ls : aL} {stk : List Value} {cn : Nat × Nat} {st : aSt} {ini : Bool}
set_option maxRecDepth 100000 in
theorem sp_math (hC : Cx p R s m args meth c cc D cy A nL Ad M oc ini n0) (hY : Cy l R s c A nL Ad X d) {ix : Nat} (ha9 : a = 299 ∨ a = 300) (hcall : callT.contains (oc, ix, a) = true) (hcal : calb (inf a) (aP a) b 0 = true) (hcn : cnOk M cn) (hd : decode cc pc = .ok (.invokestatic ix, 3)) (hw : nxb cs (pc + 3) = true) (hN : Nx p l e R s m args below meth c Q D cy A nL Ad M g res cs st cn)
    (h : aInv (am_call X aP d) g (fun cn e st => aHnd g M.1 pc ls cn M.2.2.1 e st) M.2.2.2 a b cs ls stk cn st = some res) : Gp p l e R s m args below meth c Q D clL cy A nL Ad pc ls stk cn st := by
  obtain ⟨hx, hb, hnl, hts, hK, hown, hini, hstr, hA, hAd, hRc, hRs⟩ := hC
  obtain ⟨hml, hEx, hRf, hRl, IH⟩ := hY
  obtain ⟨e1, ⟨n, en, e2⟩, e3, e4, e5⟩ := calb_use hcal
  obtain ⟨rc, h1, h2, h3, h4, h5, h6⟩ := aInv_use h
  have hn2 : b / 4 % 16 = 2 := by
    rcases ha9 with rfl | rfl
    · have z : (parseMethodDescriptor (inf 299).1.desc).map (fun d => d.parameters.length) = some 2 := by decide +kernel
      rw [z] at en; have := Option.some.inj en; omega
    · have z : (parseMethodDescriptor (inf 300).1.desc).map (fun d => d.parameters.length) = some 2 := by decide +kernel
      rw [z] at en; have := Option.some.inj en; omega
  have hm1 : (aP a).2.2.2.1 = 0 := by rcases ha9 with rfl | rfl <;> rfl
  have hm2 : (aP a).2.2.2.2 = 0 := by rcases ha9 with rfl | rfl <;> rfl
  rw [e3, hm1] at h4 h6
  rw [e4, hm2] at h5 h6
  rw [hn2] at h1 h2 h3 h6
  have hl := hts _ (tw_of (call_in _ (List.mem_map.mpr ⟨(oc, ix, a), mem_of_contains hcall, rfl⟩)) (rfl : goodWord (callC (oc, ix, a)) = true))
  have hst := hts _ (kd_tw (j := a) (by omega))
  have hcd := hts _ (cdW_tw (j := a) (by omega))
  match stk, h3 with
  | [], h3 => simp at h3
  | [v], h3 => simp at h3
  | v2 :: v1 :: r, h3 =>
    have h1 : am_call X aP d a [v1, v2] st = some rc := h1
    have h2 : (r.map fun v => v.category).sum ≤ 8 := h2
    have fin : ∀ w : Int32, rc = (.inl (some (.int w)), st) → Gp p l e R s m args below meth c Q D clL cy A nL Ad (pc + 3) ls (.int w :: r) cn st := fun w hw9 => by
      subst hw9
      rcases h6 with ⟨v', hv', hg⟩ | ⟨k', hk', hg⟩
      · cases hv'
        have hkp : kpb b st st = st := kpb_same (fun _ => ⟨rfl, rfl⟩)
        have hg : g cs ls (.int w :: r) (cn.1 + 0, cn.2 + 0) (kpb b st st) = some res := hg
        rw [hkp] at hg
        exact hN cs _ _ _ _ _ hg (Or.inl rfl) ⟨Nat.le_refl _, id⟩ hw
      · cases hk'
    have hlo : ∀ ad : Nat → Nat, ((r.map (trv ad)).map fun v => v.category).sum + 13 ≤ R.locals := fun ad => by
      rw [List.map_map, show (r.map ((fun v => v.category) ∘ trv ad)) = r.map (fun v => v.category) from List.map_congr_left (fun v _ => trv_cat ad v)]
      have := le400 hRl (k := 21) (by decide)
      omega
    rcases ha9 with rfl | rfl
    · obtain ⟨x, y, rfl, rfl, hrc⟩ := max_call h1
      have kk := fin _ hrc
      intro ad jl H locs ha hL hV hP hD hS
      exact va_mmax hx hb (by rw [hml]; exact hL.1.symm) hown hl hst (hts _ (tw_of (ownL_ini _ (ownN_in (o := 13) (by decide))) rfl)) hcd (by omega) (hlo ad) (Nat.le_trans hcn.1 hRc) (Nat.le_trans hcn.2 hRs) hd (kk ad jl H locs ha hL (hV.stk (fun o ho => by simp at ho; simp; exact ho)) hP hD hS)
    · obtain ⟨x, y, rfl, rfl, hrc⟩ := min_call h1
      have kk := fin _ hrc
      intro ad jl H locs ha hL hV hP hD hS
      exact va_mmin hx hb (by rw [hml]; exact hL.1.symm) hown hl hst (hts _ (tw_of (ownL_ini _ (ownN_in (o := 13) (by decide))) rfl)) hcd (by omega) (hlo ad) (Nat.le_trans hcn.1 hRc) (Nat.le_trans hcn.2 hRs) hd (kk ad jl H locs ha hL (hV.stk (fun o ho => by simp at ho; simp; exact ho)) hP hD hS)
theorem str_recv {ad : Nat → Nat} {k : Nat} {H : Heap} {locs : List Loc} (hS : va_S A s.heap H locs) (hk : k < 18) (hE : exX X ad A s s.heap) : ∃ cellB : Cell, H[ad (2000000 + k)]? = some cellB ∧ cellB.vm.isStatics = false ∧ s.vm.findClass RJ0 = some cellB.cls := by
  obtain ⟨ce, z1, z2, z3, z4⟩ := (hE.2.2.1 k hk).1
  exact ⟨ce, by rw [hS.2.1 _ (Array.getElem?_eq_some_iff.mp z1).1 z4]; exact z1, z2, z3⟩
theorem sp_slength (hC : Cx p R s m args meth c cc D cy A nL Ad M oc ini n0) (hY : Cy l R s c A nL Ad X d) (hn0 : n0 ≤ gN st) {ix : Nat} (hb5 : b = 1285 ∧ ((oc = 6 ∧ ix = 58) ∨ (oc = 9 ∧ ix = 122))) (hcn : cnOk M cn) (hd : decode cc pc = .ok (.invokevirtual ix, 3)) (hw : nxb cs (pc + 3) = true) (hN : Nx p l e R s m args below meth c Q D cy A nL Ad M g res cs st cn)
    (h : aInv (am_call X aP d) g (fun cn e st => aHnd g M.1 pc ls cn M.2.2.1 e st) M.2.2.2 1001 b cs ls stk cn st = some res) : Gp p l e R s m args below meth c Q D clL cy A nL Ad pc ls stk cn st := by
  obtain ⟨hx, hb, hnl, hts, hK, hown, hini, hstr, hA, hAd, hRc, hRs⟩ := hC
  obtain ⟨hml, hEx, hRf, hRl, IH⟩ := hY
  obtain ⟨rfl, hoc⟩ := hb5
  obtain ⟨rc, h1, h2, h3, h4, h5, h6⟩ := aInv_use h
  have hl : (Cond.methodLink (ownN oc) ix yJ0_length_8abf5).before args s = true := by
    rcases hoc with ⟨rfl, rfl⟩ | ⟨rfl, rfl⟩
    · exact sW_t hts 23 rfl
    · exact sW_t hts 25 rfl
  cases stk with
  | nil => simp at h3
  | cons v r =>
  replace h1 : am_call X aP d 1001 [v] st = some rc := h1
  have h2 : (r.map fun v => v.category).sum ≤ 8 := h2
  cases d with
  | zero => cases h1
  | succ d =>
  replace h1 : aPrim 1001 [v] st = some rc := h1
  cases v <;> (try (replace h1 : (none : aRes) = some rc := h1; cases h1))
  rename_i o
  replace h1 : (if KK o = 20 then rI (nI (aStr (o - 2000000)).length) st else none) = some rc := h1
  split at h1
  · rename_i h9
    obtain ⟨k, hk, rfl⟩ := KK_20 h9
    rw [show 2000000 + k - 2000000 = k by omega] at h1
    cases h1
    intro ad jl H locs ha hL hV hP hD hS
    have key : Gp p l e R s m args below meth c Q D clL cy A nL Ad pc ls (([.ref (2000000 + k)] : List Value).reverse ++ r) cn st := by
      refine si_call (mc := 0) (ms := 0) (res := (.inl (some (.int (nI (aStr k).length))), st)) (fun ad ad' z1 z2 => hAd _ _ _ hn0 z1 z2) hA ⟨hV.1, Nat.le_refl _, (fun o ho => by cases ho), (fun k hk => by cases hk)⟩ (fun ad jl H locs ha hsz hV hP hD hS => ?_) (fun v hv => ?_) (fun k hk => by cases hk)
      · have hE := hEx ad ha
        refine vx_runV (C := RJ0) (b := ad (2000000 + k)) (Ts := Tw) (As := []) (rest := r.map (trv ad)) (bytes := cJ0_length_8abf5) (maxL := 1) (ret := some .int) (n := 0) (own := ownN oc) (index := ix) ⟨hx, hb, hml, hown, hts⟩ (c_length l X D cy ad st H.size k hk) ⟨⟨rfl, rfl, ?_, ?_, ws_pay hts (tw_of cw_J0_length_8abf5 rfl), List.mem_cons_self, hts _ (tw_of cw_J0_length_8abf5 rfl), (sW_t hts 20 rfl), ⟨by decide, by decide⟩, fun sig h => ?_, hl⟩, (sW_t hts 13 rfl), (sW_t hts 14 rfl)⟩ ⟨cP_blind (exX_ok X), str_recv hS hk hE, pre_at (As := [.ref (2000000 + k)]) (exX_ok X) hK hA hE hP hD hS⟩ rfl rfl hsz rfl ?_ hd ⟨Nat.le_trans hcn.1 hRc, Nat.le_trans hcn.2 hRs⟩
        · show 3 + 1 ≤ R.frames
          omega
        · exact le400 hRl (k := 8 + (1 + 11) + 120) (by decide)
        · have e9 : (parseMethodDescriptor yJ0_length_8abf5.desc).map (fun d => d.parameters.length) = some 0 := by decide +kernel
          rw [h] at e9
          exact (Option.some.inj e9).symm
        · refine lv_room ?_
          rw [List.map_map, show (r.map ((fun v => v.category) ∘ trv ad)) = r.map (fun v => v.category) from List.map_congr_left (fun v _ => trv_cat ad v)]
          exact h2
      · cases hv
        rcases h6 with ⟨v', hv', hg⟩ | ⟨k', hk', hg⟩
        · cases hv'
          have hkp : kpb 1285 st st = st := kpb_same (fun _ => ⟨rfl, rfl⟩)
          have hg : g cs ls (.int (nI (aStr k).length) :: r) (cn.1 + 0, cn.2 + 0) (kpb 1285 st st) = some res := hg
          rw [hkp] at hg
          exact hN cs _ _ _ _ _ hg (Or.inl rfl) ⟨Nat.le_refl _, id⟩ hw
        · cases hk'
    exact key ad jl H locs ha hL hV hP hD hS
  · cases h1
theorem sp_scharAt (hC : Cx p R s m args meth c cc D cy A nL Ad M oc ini n0) (hY : Cy l R s c A nL Ad X d) (hn0 : n0 ≤ gN st) {ix : Nat} (hb5 : b = 1289 ∧ ((oc = 6 ∧ ix = 64) ∨ (oc = 9 ∧ ix = 127))) (hcn : cnOk M cn) (hd : decode cc pc = .ok (.invokevirtual ix, 3)) (hw : nxb cs (pc + 3) = true) (hN : Nx p l e R s m args below meth c Q D cy A nL Ad M g res cs st cn)
    (h : aInv (am_call X aP d) g (fun cn e st => aHnd g M.1 pc ls cn M.2.2.1 e st) M.2.2.2 1002 b cs ls stk cn st = some res) : Gp p l e R s m args below meth c Q D clL cy A nL Ad pc ls stk cn st := by
  obtain ⟨hx, hb, hnl, hts, hK, hown, hini, hstr, hA, hAd, hRc, hRs⟩ := hC
  obtain ⟨hml, hEx, hRf, hRl, IH⟩ := hY
  obtain ⟨rfl, hoc⟩ := hb5
  obtain ⟨rc, h1, h2, h3, h4, h5, h6⟩ := aInv_use h
  have hl : (Cond.methodLink (ownN oc) ix yJ0_charAt_5068e).before args s = true := by
    rcases hoc with ⟨rfl, rfl⟩ | ⟨rfl, rfl⟩
    · exact sW_t hts 24 rfl
    · exact sW_t hts 26 rfl
  match stk, h3 with
  | [], h3 => simp at h3
  | [v], h3 => simp at h3
  | v2 :: v1 :: r, h3 =>
  replace h1 : am_call X aP d 1002 [v1, v2] st = some rc := h1
  have h2 : (r.map fun v => v.category).sum ≤ 8 := h2
  cases d with
  | zero => cases h1
  | succ d =>
  replace h1 : aPrim 1002 [v1, v2] st = some rc := h1
  cases v1 <;> (try (replace h1 : (none : aRes) = some rc := h1; cases h1))
  rename_i o
  cases v2 <;> (try (replace h1 : (none : aRes) = some rc := h1; cases h1))
  rename_i i
  replace h1 : (if KK o = 20 then (if i < 0 ∨ (aStr (o - 2000000)).length ≤ i.toNatClampNeg then none else rI (nI ((aStr (o - 2000000)).getD i.toNatClampNeg 0)) st) else none) = some rc := h1
  split at h1
  · rename_i h9
    obtain ⟨k, hk, rfl⟩ := KK_20 h9
    rw [show 2000000 + k - 2000000 = k by omega] at h1
    split at h1
    · cases h1
    · rename_i h8
      have h7 : ¬ i < 0 := fun z => h8 (Or.inl z)
      obtain ⟨j, hj, rfl⟩ := nI_of h7
      rw [nI_clamp hj] at h1 h8
      have hj9 : j < (aStr k).length := by
        rcases Nat.lt_or_ge j (aStr k).length with z | z
        · exact z
        · exact absurd (Or.inr z) h8
      cases h1
      intro ad jl H locs ha hL hV hP hD hS
      have key : Gp p l e R s m args below meth c Q D clL cy A nL Ad pc ls (([.ref (2000000 + k), .int (nI j)] : List Value).reverse ++ r) cn st := by
        refine si_call (mc := 0) (ms := 0) (res := (.inl (some (.int (nI ((aStr k).getD j 0)))), st)) (fun ad ad' z1 z2 => hAd _ _ _ hn0 z1 z2) hA ⟨hV.1, Nat.le_refl _, (fun o ho => by cases ho), (fun k hk => by cases hk)⟩ (fun ad jl H locs ha hsz hV hP hD hS => ?_) (fun v hv => ?_) (fun k hk => by cases hk)
        · have hE := hEx ad ha
          refine vx_runV (C := RJ0) (b := ad (2000000 + k)) (Ts := Tw) (As := [.int (nI j)]) (rest := r.map (trv ad)) (bytes := cJ0_charAt_5068e) (maxL := 2) (ret := some .char) (n := 1) (own := ownN oc) (index := ix) ⟨hx, hb, hml, hown, hts⟩ (c_charAt l X D cy ad st H.size k hk hj9) ⟨⟨rfl, rfl, ?_, ?_, ws_pay hts (tw_of cw_J0_charAt_5068e rfl), List.mem_cons_self, hts _ (tw_of cw_J0_charAt_5068e rfl), (sW_t hts 20 rfl), ⟨by decide, by decide⟩, fun sig h => ?_, hl⟩, (sW_t hts 15 rfl), (sW_t hts 16 rfl)⟩ ⟨cP_blind (exX_ok X), str_recv hS hk hE, pre_at (As := [.ref (2000000 + k), .int (nI j)]) (exX_ok X) hK hA hE hP hD hS⟩ rfl rfl hsz rfl ?_ hd ⟨Nat.le_trans hcn.1 hRc, Nat.le_trans hcn.2 hRs⟩
          · show 3 + 1 ≤ R.frames
            omega
          · exact le400 hRl (k := 8 + (2 + 11) + 120) (by decide)
          · have e9 : (parseMethodDescriptor yJ0_charAt_5068e.desc).map (fun d => d.parameters.length) = some 1 := by decide +kernel
            rw [h] at e9
            exact (Option.some.inj e9).symm
          · refine lv_room ?_
            rw [List.map_map, show (r.map ((fun v => v.category) ∘ trv ad)) = r.map (fun v => v.category) from List.map_congr_left (fun v _ => trv_cat ad v)]
            exact h2
        · cases hv
          rcases h6 with ⟨v', hv', hg⟩ | ⟨k', hk', hg⟩
          · cases hv'
            have hkp : kpb 1289 st st = st := kpb_same (fun _ => ⟨rfl, rfl⟩)
            have hg : g cs ls (.int (nI ((aStr k).getD j 0)) :: r) (cn.1 + 0, cn.2 + 0) (kpb 1289 st st) = some res := hg
            rw [hkp] at hg
            exact hN cs _ _ _ _ _ hg (Or.inl rfl) ⟨Nat.le_refl _, id⟩ hw
          · cases hk'
      exact key ad jl H locs ha hL hV hP hD hS
  · cases h1
end ST
