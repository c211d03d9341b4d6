/-! MANY ROWS AT ONCE, Math.max and Math.min, the texts' methods -/
theorem KK_12 {o : Nat} (h : KK o = 12) : o ≤ 200 := by
  unfold KK at h
  repeat' split at h
  all_goals omega
def adR (ad r : Nat → Nat) (n0 N q : Nat) : Nat → Nat := fun i => if i = n0 then q else if n0 < i ∧ i ≤ n0 + N then r (i - n0 - 1) else ad i
theorem adR_lt {ad r : Nat → Nat} {n0 N q i : Nat} (h : i < n0) : adR ad r n0 N q i = ad i := by
  unfold adR
  rw [if_neg (by omega), if_neg (by omega)]
theorem adR_big {ad r : Nat → Nat} {n0 N q i : Nat} (h : n0 + N < i) : adR ad r n0 N q i = ad i := by
  unfold adR
  rw [if_neg (by omega), if_neg (by omega)]
theorem adR_self {ad r : Nat → Nat} {n0 N q : Nat} : adR ad r n0 N q n0 = q := by
  unfold adR
  rw [if_pos rfl]
theorem adR_row {ad r : Nat → Nat} {n0 N q j : Nat} (h : j < N) : adR ad r n0 N q (n0 + 1 + j) = r j := by
  unfold adR
  rw [if_neg (by omega), if_pos (by omega), show n0 + 1 + j - n0 - 1 = j by omega]
theorem mkRows_out {st : aSt} {N i : Nat} (h : i < gN st) : gI (mkRows st N) i = gI st i ∧ gJ (mkRows st N) i = gJ st i ∧ gR (mkRows st N) i = gR st i := by
  have h : i < st.1 := h
  refine ⟨?_, ?_, ?_⟩
  · show (if st.1 ≤ i ∧ i ≤ st.1 + N then (fun _ => 0) else st.2.1 i) = st.2.1 i
    rw [if_neg (by omega)]
  · show (if st.1 ≤ i ∧ i ≤ st.1 + N then (fun _ => 0) else st.2.2.1 i) = st.2.2.1 i
    rw [if_neg (by omega)]
  · show (if i = st.1 then _ else if st.1 ≤ i ∧ i ≤ st.1 + N then (fun _ => none) else st.2.2.2 i) = st.2.2.2 i
    rw [if_neg (by omega), if_neg (by omega)]
theorem wsOf_rows {cy : Nat → ClassId} {ad r : Nat → Nat} {st : aSt} {N K q : Nat} (hc : Cl st) (hk : KK (gN st) = 12) (hN : LL (gN st) = N) (hr : ∀ i, i < N → KK (gN st + 1 + i) = 10 ∧ LL (gN st + 1 + i) = K) :
    wsOf cy (adR ad r (gN st) N q) (mkRows st N) = (wsOf cy ad st ++ [(q, .inl (cy 2, N, .inr (.inr (.inr (.inr (fun i => if i < N then some (r i) else none))))))]) ++ ((List.range N).map r).map (fun a => (a, (.inl (cy 0, K, .inl (fun _ => 0)) : va_E))) := by
  have hg : gN (mkRows st N) = gN st + 1 + N := rfl
  apply List.ext_getElem?
  intro i
  rcases Nat.lt_or_ge i (gN st) with h | h
  · rw [wsOf_at (by rw [hg]; omega), List.append_assoc, List.getElem?_append_left (by rw [wsOf_len]; exact h), wsOf_at h, adR_lt h]
    congr 2
    obtain ⟨e1, e2, e3⟩ := mkRows_out (st := st) (N := N) h
    have e4 : ∀ k, (gR st i k).map (adR ad r (gN st) N q) = (gR st i k).map ad := by
      intro k
      cases h9 : gR st i k with
      | none => rfl
      | some r9 => exact congrArg some (adR_lt (hc.2 i k r9 h h9))
    unfold cellOf fsOf
    simp only [e1, e2, e3, e4]
  · rw [List.append_assoc, List.getElem?_append_right (by rw [wsOf_len]; exact h), wsOf_len]
    rcases Nat.eq_or_lt_of_le h with h1 | h1
    · subst h1
      rw [wsOf_at (by rw [hg]; omega), Nat.sub_self, adR_self, cell_refs hk, hN]
      have e9 : (fun j => (gR (mkRows st N) (gN st) j).map (adR ad r (gN st) N q)) = (fun i => if i < N then some (r i) else none) := by
        funext j
        have e8 : gR (mkRows st N) (gN st) j = (if j < N then some (st.1 + 1 + j) else none) := by
          show (if st.1 = st.1 then (fun i => if i < N then some (st.1 + 1 + i) else none) else _) j = _
          rw [if_pos rfl]
        rw [e8]
        by_cases hj : j < N
        · rw [if_pos hj, if_pos hj]
          exact congrArg some (adR_row hj)
        · rw [if_neg hj, if_neg hj]
          rfl
      rw [e9]
      rfl
    · obtain ⟨j, rfl⟩ : ∃ j, i = gN st + 1 + j := ⟨i - gN st - 1, by omega⟩
      rw [List.getElem?_append_right (by simp; omega)]
      rw [show gN st + 1 + j - gN st - [(q, (.inl (cy 2, N, .inr (.inr (.inr (.inr (fun i => if i < N then some (r i) else none))))) : va_E))].length = j by simp; omega]
      by_cases hj : j < N
      · rw [wsOf_at (by rw [hg]; omega), adR_row hj, cell_ints (hr j hj).1, (hr j hj).2, List.getElem?_map, List.getElem?_map, List.getElem?_range hj]
        have e8 : gI (mkRows st N) (gN st + 1 + j) = fun _ => 0 := by
          show (if st.1 ≤ st.1 + 1 + j ∧ st.1 + 1 + j ≤ st.1 + N then (fun _ => 0) else st.2.1 (st.1 + 1 + j)) = fun _ => 0
          rw [if_pos (by omega)]
        rw [e8]
        rfl
      · rw [List.getElem?_eq_none (by rw [wsOf_len, hg]; omega), List.getElem?_eq_none (by simp; omega)]
theorem Cl_rows {st : aSt} {N : Nat} (h : Cl st) (h9 : gN st + 1 + N < 1000000) : Cl (mkRows st N) := by
  refine ⟨h9, fun i k r hi hr => ?_⟩
  have hr : (if i = st.1 then (fun i => if i < N then some (st.1 + 1 + i) else none) else if st.1 ≤ i ∧ i ≤ st.1 + N then (fun _ => none) else st.2.2.2 i) k = some r := hr
  have hi : i < st.1 + 1 + N := hi
  show r < st.1 + 1 + N
  split at hr
  · have hr : (if k < N then some (st.1 + 1 + k) else none) = some r := hr
    split at hr
    · cases hr; omega
    · cases hr
  · split at hr
    · cases hr
    · have := h.2 i k r (show i < st.1 by omega) hr
      have : r < st.1 := this
      omega
section SR
variable {p : Program} {l : Launch} {e : Env} {R : Room} {s : State} {m : MethodId} {args : Array Value} {below : List Frame} {meth : Method} {c : Code} {Q : State → Prop} {cc : ByteArray} {D : va_G} {cy : Nat → ClassId} {A : Nat → Prop} {nL : Nat} {Ad : (Nat → Nat) → Prop}
variable {X : Nat × (Nat → Int32)} {C : Nat → List Value → aSt → aRes} {M : aM} {g : aK} {res : (Option Value ⊕ Nat) × aSt} {pc a b oc n0 d : Nat} {cut : Option (List Bool)} {cs : List aE} {ls : aL} {stk : List Value} {cn : Nat × Nat} {st : aSt} {ini : Bool}
theorem pastW_in : ∀ w ∈ ([Cond.classLink RX4 11 "[[I"] : List Cond), w ∈ lw_tbl := pick_in (ps := [270]) (by decide +kernel)
theorem sp_mna (hC : Cx p R s m args meth c cc D cy A nL Ad M oc ini n0) (hEx : ∀ ad, Ad ad → exX X ad A s s.heap) (hn0 : n0 ≤ gN st) {ix n9 : Nat} (hoc : oc = 3 ∧ ix = 11 ∧ n9 = 2) (hd : decode cc pc = .ok (.multianewarray ix n9, 4)) (hw : nxb cs (pc + 4) = true) (hN : Nx p l e R s m args below meth c Q D cy A nL Ad M g res cs st cn) (h : am_step X C M g (pc, cut, .multianewarray ix n9, a, b) cs ls stk cn st = some res) : Gp p l e R s m args below meth c Q D clL cy A nL Ad pc ls stk cn st := by
  obtain ⟨hx, hb, hnl, hts, hK, hown, hini, hstr, hA, hAd, hRc, hRs⟩ := hC
  obtain ⟨rfl, rfl, rfl⟩ := hoc
  have h : (match (generalizing := false) stk with
    | .int k :: .int n :: r => if ¬ n < 0 ∧ ¬ k < 0 ∧ n.toNatClampNeg = LL (gN st) ∧ cn.1 + (1 + LL (gN st)) ≤ M.2.2.2.1 ∧ cn.2 + (LL (gN st) + LL (gN st) * LL (gN st + 1)) ≤ M.2.2.2.2 ∧ KK (gN st) = 12 ∧ gN st + LL (gN st) < 1000000 ∧ k.toNatClampNeg = LL (gN st + 1) ∧ (List.range (LL (gN st))).all (fun i => KK (gN st + 1 + i) == 10 && LL (gN st + 1 + i) == LL (gN st + 1)) = true then g cs ls (.ref (gN st) :: r) (cn.1 + 1 + LL (gN st), cn.2 + LL (gN st) + LL (gN st) * LL (gN st + 1)) (mkRows st (LL (gN st))) else none
    | _ => none) = some res := h
  split at h
  · rename_i k n r h8
    split at h
    · rename_i h9
      obtain ⟨k1, k2, k3, k4, k5, k6, k7, k8, k9⟩ := h9
      have hrow : ∀ i, i < LL (gN st) → KK (gN st + 1 + i) = 10 ∧ LL (gN st + 1 + i) = LL (gN st + 1) := fun i hi => by
        have := List.all_eq_true.mp k9 i (List.mem_range.mpr hi)
        simpa using this
      have hb9 := KK_12 k6
      have hl9 := LL_le (gN st)
      have hl8 := LL_le (gN st + 1)
      have hbig : gN st + 1 + LL (gN st) < 1000000 := by omega
      have kk := hN cs _ _ _ _ _ h (Or.inl rfl) ⟨by show gN st ≤ gN st + 1 + LL (gN st); omega, fun _ => ⟨by show cn.1 + 1 + LL (gN st) ≤ _; omega, by show cn.2 + LL (gN st) + LL (gN st) * LL (gN st + 1) ≤ _; omega⟩⟩ hw
      intro ad jl H locs ha hL hV hP hD hS
      have hE := hEx ad ha
      refine va_mna (X := wsOf cy ad st) (L := []) (f := fun _ => .inl (cy 0, 0, .inl (fun _ => 0))) (ty := .int) (cy := cy 0) (own := RX4) (z := (LL (gN st + 1), .inl (fun _ => 0))) hx hb hown (hts _ (tw_of (pastW_in _ (List.mem_singleton.mpr (congrArg (Cond.classLink RX4 11) (by decide)))) rfl)) hE.2.2.2.2.2.2.2.2.2.2 (hts _ (tw_of (acwW_in _ (by simp)) rfl)) ((hK.2 0 (cy 0, .int) rfl).2) hK (by show va_P D clL (wsOf cy ad st ++ []) H; rw [List.append_nil]; exact hP) (by show va_D A (wsOf cy ad st ++ []); rw [List.append_nil]; exact hD) hS hA k1 k2 k3 k8 (by omega) (by show LL (gN st + 1) * 4 ≤ 536870912; omega) (by omega) rfl rfl (Nat.le_trans k4 hRc) (Nat.le_trans k5 hRs) (fun cA => ?_) hd (fun q r9 cA H1 hinj hnl9 hK1 hP1 hD1 hS1 => ?_)
      · show ({ cls := cA, slots := Array.replicate (LL (gN st + 1)) (.int 0), vm := .none } : Cell) = _
        rw [arrV_new]
        rfl
      · have ec : cA = cy 2 := by
          have z1 := (hK1.2 3 (cA, .array .int) rfl).2
          have z2 := (hK1.2 2 (cy 2, .array .int) rfl).2
          exact Option.some.inj (z1.symm.trans z2)
        subst ec
        have ew : wsOf cy (adR ad r9 (gN st) (LL (gN st)) q) (mkRows st (LL (gN st))) = (wsOf cy ad st ++ [(q, .inl (cy 2, LL (gN st), .inr (.inr (.inr (.inr (fun i => if i < LL (gN st) then some (r9 i) else none))))))]) ++ va_pl ([] ++ (List.range (LL (gN st))).map r9) (vr_up (fun _ => .inl (cy 0, 0, .inl (fun _ => 0))) ((List.range (LL (gN st))).map r9) (.inl (cy 0, LL (gN st + 1), .inl (fun _ => 0)))) := by
          rw [wsOf_rows hV.1 k6 rfl hrow, List.nil_append]
          congr 1
          unfold va_pl
          apply List.map_congr_left
          intro a9 ha9
          rw [vr_up_in ha9]
        rw [← ew] at hP1 hD1
        have hx1 : AdX (gN st) ad (adR ad r9 (gN st) (LL (gN st)) q) := fun i hi => by
          rcases hi with hi | hi
          · exact adR_lt hi
          · exact adR_big (by omega)
        have hV1 : VOk st ls r := hV.stk (fun o ho => by simp; exact ho)
        have up : ∀ o, okr (gN st) o → okr (gN (mkRows st (LL (gN st)))) o := fun o h => h.elim (fun q => Or.inl (by show o < gN st + 1 + LL (gN st); omega)) Or.inr
        have h := kk (adR ad r9 (gN st) (LL (gN st)) q) jl H1 locs (hAd _ _ _ hn0 hx1 ha) (hL.ad hx1 hV.2.1) ⟨Cl_rows hV.1 hbig, fun j o hj => up o (hV.2.1 j o hj), fun o ho => by
          rcases List.mem_cons.mp ho with z | z
          · cases z; exact Or.inl (by show gN st < gN st + 1 + LL (gN st); omega)
          · exact up o (hV1.2.2 o z)⟩ hP1 hD1 hS1
        have e2 : ((.ref (gN st) :: r : List Value)).map (trv (adR ad r9 (gN st) (LL (gN st)) q)) = .ref q :: r.map (trv ad) := by
          rw [List.map_cons, map_ad hx1 hV1.2.2]
          exact congrArg (fun z => Value.ref z :: _) adR_self
        rw [e2] at h
        exact h
    · cases h
  · cases h
end SR
