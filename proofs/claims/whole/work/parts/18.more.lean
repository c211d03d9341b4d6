/-! MORE TO LOOK THROUGH: answers, handlers, methods that make nothing -/
def plE (e : aE) : Bool := match e.2.2.1 with
  | .new _ => decide (1000 ≤ e.2.2.2.2)
  | .newarray _ => false
  | .multianewarray _ _ => false
  | .putfield _ => decide (e.2.2.2.2 % 2 = 1)
  | .invokestatic _ => decide (e.2.2.2.2 / 4096 % 2 = 0)
  | .invokevirtual _ => decide (e.2.2.2.2 / 4096 % 2 = 0)
  | .invokespecial _ => decide (e.2.2.2.2 / 4096 % 2 = 0)
  | _ => true
theorem plainJ_of {j : Nat} (h : (aP j).1.all plE = true) : plainJ j := fun e he => List.all_eq_true.mp h e he
def ckC (a b : Nat) : Bool := decide (1000 ≤ a) || decide (b / 4096 % 2 = 1) || plT a
def ckE (ret : Option FieldType) (e : aE) : Bool := match e.2.2.1 with
  | .ireturn => (decide (e.2.2.2.2 = 1) && decide (ret = some .boolean)) || (!decide (e.2.2.2.2 = 1) && decide (ret = some .int))
  | .lreturn => decide (ret = some .long)
  | .return_ => decide (ret = none)
  | .invokestatic _ => ckC e.2.2.2.1 e.2.2.2.2
  | .invokevirtual _ => ckC e.2.2.2.1 e.2.2.2.2
  | .invokespecial _ => ckC e.2.2.2.1 e.2.2.2.2
  | .tableswitch _ lo _ offs => decide (lo.toNat + offs.size < 2147483648)
  | _ => true
def iniJ (j : Nat) : Bool := [0, 17, 27, 40, 46, 67, 78, 93, 102, 155].contains j
/-- a handler's first row lays what was thrown aside -/
def hdE (M : aM) (h : Nat × Nat × Nat × Nat) (x : Nat × Nat × Nat × Nat) : Bool := decide (h.1 = x.1) && decide (h.2.1 = x.2.1) && (decide (h.2.2.2 = 1 ∧ x.2.2.2 = 31) || decide (h.2.2.2 = 2 ∧ x.2.2.2 = 13)) && (match M.1.drop h.2.2.1 with
  | [] => false
  | (q, _, ins, a, _) :: cs => decide (q = x.2.2.1) && decide (a < M.2.1) && (match ins with
    | .astore i => decide (i = a) && nxb cs (q + 2)
    | .astore_n i => decide (i.val = a) && nxb cs (q + 1)
    | _ => false))
def hdB (M : aM) : List (Nat × Nat × Nat × Nat) → List (Nat × Nat × Nat × Nat) → Bool
  | [], [] => true
  | h :: hs, x :: xs => hdE M h x && hdB M hs xs
  | _, _ => false
noncomputable def ckJ (i : aI) (M : aM) (j : Nat) : Bool := M.1.all (ckE i.2.2.2.1) && hdB M M.2.2.1 i.2.2.2.2.2.2 && (!plT j || M.1.all plE) && decide (M.2.1 = i.2.2.1) && decide (i.1.cls = ownN i.2.2.2.2.1) && (i.2.2.2.2.2.2.isEmpty || decide (i.2.2.2.2.1 = 11)) && (match M.1 with
  | [] => false
  | e :: _ => e.1 == 0) && (Jvm.plainName i.1.cls || decide (j = 299 ∨ j = 300)) && (!iniJ j || (decide (i.1.name = "<init>") && decide (i.2.2.2.2.1 < 10))) && decide (i.2.2.2.2.1 < 15)
noncomputable def ckL : List aI → List aM → Nat → Bool
  | i :: is, M :: Ms, j => ckJ i M j && ckL is Ms (j + 1)
  | [], [], _ => true
  | _, _, _ => false
theorem ckL_at : ∀ (is : List aI) (Ms : List aM) (j k : Nat) (i : aI) (M : aM), ckL is Ms j = true → is[k]? = some i → Ms[k]? = some M → ckJ i M (j + k) = true
  | i :: is, M :: Ms, j, 0, i', M', h, h1, h2 => by
    cases h1; cases h2
    exact (and2 (show (ckJ i M j && ckL is Ms (j + 1)) = true from h)).1
  | i :: is, M :: Ms, j, k + 1, i', M', h, h1, h2 => by
    have := ckL_at is Ms (j + 1) k i' M' (and2 (show (ckJ i M j && ckL is Ms (j + 1)) = true from h)).2 (by simpa using h1) (by simpa using h2)
    rw [show j + (k + 1) = j + 1 + k by omega]
    exact this
  | [], Ms, j, k, i, M, h, h1, h2 => by simp at h1
  | i :: is, [], j, k, i', M', h, h1, h2 => by simp at h2
set_option maxRecDepth 100000 in
set_option maxHeartbeats 4000000 in
theorem ck_all : ckL aInf aTab 0 = true := by decide +kernel
set_option maxRecDepth 100000 in
theorem aInf_len : aInf.length = 303 := by decide +kernel
set_option maxRecDepth 100000 in
theorem aTab_len : aTab.length = 303 := by decide +kernel
theorem inf_at {j : Nat} (h : j < 303) : aInf[j]? = some (inf j) := by
  unfold inf
  rw [List.getD_eq_getElem?_getD, List.getElem?_eq_getElem (by rw [aInf_len]; exact h)]
  rfl
theorem aP_at {j : Nat} (h : j < 303) : aTab[j]? = some (aP j) := by
  unfold aP
  rw [List.getD_eq_getElem?_getD, List.getElem?_eq_getElem (by rw [aTab_len]; exact h)]
  rfl
theorem ck_at {j : Nat} (h : j < 303) : ckJ (inf j) (aP j) j = true := by
  have := ckL_at aInf aTab 0 j _ _ ck_all (inf_at h) (aP_at h)
  rw [Nat.zero_add] at this
  exact this
noncomputable def aInfR : List aI := aInf0 ++ (aInf1 ++ (aInf2 ++ (aInf3 ++ (aInf4 ++ (aInf5 ++ aInf6)))))
set_option maxRecDepth 100000 in
theorem aInfR_len : aInfR.length = 302 := by decide +kernel
theorem aInfR_app : aInf = aInfR ++ aInfL := by
  unfold aInf aInfR
  simp only [List.append_assoc]
theorem cdW_lw {j : Nat} (h : j < 302) : cdW (inf j) ∈ lw_tbl := by
  have h1 := inf_at (j := j) (by omega)
  rw [aInfR_app, List.getElem?_append_left (by rw [aInfR_len]; exact h)] at h1
  have h2 : inf j ∈ aInfR := List.mem_of_getElem? h1
  unfold aInfR at h2
  simp only [List.mem_append] at h2
  rcases h2 with h2 | h2 | h2 | h2 | h2 | h2 | h2
  · exact cdw_in0 _ h2
  · exact cdw_in1 _ h2
  · exact cdw_in2 _ h2
  · exact cdw_in3 _ h2
  · exact cdw_in4 _ h2
  · exact cdw_in5 _ h2
  · exact cdw_in6 _ h2
theorem cdW_good (i : aI) : goodWord (cdW i) = true := by
  unfold cdW
  split <;> rfl
theorem cdW_tw {j : Nat} (h : j < 302) : cdW (inf j) ∈ Tw := tw_of (cdW_lw h) (cdW_good _)
theorem codeJ_all : ∀ j, j < 302 → j ∈ codeJ := by decide +kernel
theorem kd_tw {j : Nat} (h : j < 302) : kdW (inf j) ∈ Tw := by
  refine tw_of (kd_in _ (List.mem_map.mpr ⟨j, codeJ_all j h, rfl⟩)) ?_
  unfold kdW
  split <;> rfl
theorem ownL_ini : ∀ c ∈ ownL, Cond.initialized c ∈ lw_tbl := fun c hc => ini_in _ (List.mem_map.mpr ⟨c, hc, rfl⟩)
theorem ownN_in {o : Nat} (h : o < 15) : ownN o ∈ ownL := by
  unfold ownN
  rw [List.getD_eq_getElem?_getD, List.getElem?_eq_getElem (show o < ownL.length from h)]
  exact List.getElem_mem _
theorem ownN_ok : ∀ o, o < 15 → ownN o ≠ "java/lang/invoke/MethodHandle" ∧ ownN o ≠ "java/lang/invoke/VarHandle" := by decide +kernel
theorem cC_ownN : ∀ c, c < 10 → cC c = ownN c := by decide +kernel
/-- what was looked through, by its parts -/
theorem ck_use {j : Nat} (h : j < 303) : (∀ e ∈ (aP j).1, ckE (inf j).2.2.2.1 e = true) ∧ hdB (aP j) (aP j).2.2.1 (inf j).2.2.2.2.2.2 = true ∧ (plT j = true → plainJ j) ∧ (aP j).2.1 = (inf j).2.2.1 ∧ (inf j).1.cls = ownN (inf j).2.2.2.2.1 ∧ ((inf j).2.2.2.2.2.2 = [] ∨ (inf j).2.2.2.2.1 = 11) ∧ nxb (aP j).1 0 = true ∧ (Jvm.plainName (inf j).1.cls = true ∨ j = 299 ∨ j = 300) ∧ (iniJ j = true → (inf j).1.name = "<init>" ∧ (inf j).2.2.2.2.1 < 10) ∧ (inf j).2.2.2.2.1 < 15 := by
  have hk := ck_at h
  unfold ckJ at hk
  simp only [Bool.and_eq_true, Bool.or_eq_true, Bool.not_eq_true', decide_eq_true_eq] at hk
  obtain ⟨⟨⟨⟨⟨⟨⟨⟨⟨h1, h2⟩, h3⟩, h4⟩, h5⟩, h6⟩, h7⟩, h8⟩, h9⟩, h10⟩ := hk
  refine ⟨fun e he => List.all_eq_true.mp h1 e he, h2, fun hp => ?_, h4, h5, ?_, ?_, h8, fun hp => ?_, h10⟩
  · rcases h3 with h3 | h3
    · rw [hp] at h3; cases h3
    · exact plainJ_of h3
  · rcases h6 with h6 | h6
    · exact Or.inl (List.isEmpty_iff.mp h6)
    · exact Or.inr h6
  · revert h7
    generalize (aP j).1 = L
    intro h7
    cases L with
    | nil => simp at h7
    | cons e l => simpa [nxb] using h7
  · rcases h9 with h9 | h9
    · rw [hp] at h9; cases h9
    · exact h9
