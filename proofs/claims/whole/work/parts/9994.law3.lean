/-! THE LAW'S TEXT: two in brackets -/
def outTwo (B : Nat → Int) (e : Nat) (F : Nat → LOut) (q : Nat) : LOut :=
  if ¬ (q < e ∧ B q = 91) then .inl (1, (q : Int)) else match F (sk B e (q + 1)) with
  | .inl g => .inl g
  | .inr y => if ¬ (y.2 < e ∧ B y.2 = 44) then .inl (1, (y.2 : Int)) else match F (sk B e (y.2 + 1)) with
    | .inl g => .inl g
    | .inr z => if ¬ (z.2 < e ∧ B z.2 = 93) then .inl (1, (z.2 : Int)) else .inr (y.1 ++ z.1, sk B e (z.2 + 1))
/-- for each place a reading -/
abbrev Fok (X : Nat × (Nat → Int32)) (B : Nat → Int) (e : Nat) (bw : Bool) (r : Nat) (F : Nat → LOut) : Prop := ∀ q, q ≤ e → sk B e q = q → WfU q B e (F q) ∧ LcC X B e bw 31 (4 * r + 8) r q (F q) ∧ LmC X B e 182 (4 * r + 8) r q (F q)
theorem PS_F {X : Nat × (Nat → Int32)} {B : Nat → Int} {e : Nat} {bw : Bool} {r : Nat} (h : PS X B e bw r) : ∃ F, Fok X B e bw r F := by
  have h2 : ∀ q, ∃ out, q ≤ e → sk B e q = q → WfU q B e out ∧ LcC X B e bw 31 (4 * r + 8) r q out ∧ LmC X B e 182 (4 * r + 8) r q out := fun q => by
    by_cases k : q ≤ e ∧ sk B e q = q
    · obtain ⟨o, ho⟩ := h q k.1 k.2
      exact ⟨o, fun _ _ => ho⟩
    · exact ⟨.inl (0, 0), fun a b => absurd ⟨a, b⟩ k⟩
  exact ⟨fun q => Classical.choose (h2 q), fun q => Classical.choose_spec (h2 q)⟩
theorem sum_d31 {X : Nat × (Nat → Int32)} {w : Bool × Bool × Bool} {J : Nat → Nat → Int64} {S : Hp} {d r : Nat} {k pl : Int} (h : Bd S k pl) : am_call X aP (d + (4 * r + 8)) 182 [.ref 132] (mkS w (hI S) J) = some (.inl none, (mkS w (hI S) J)) := by
  rw [show d + (4 * r + 8) = (d + (4 * r + 4)) + 4 by omega]
  exact m_sumB h
section LW3
variable {X : Nat × (Nat → Int32)} {w : Bool × Bool × Bool} {J : Nat → Nat → Int64} {B : Nat → Int} {e : Nat} {bw : Bool} {r : Nat} {F : Nat → LOut}
theorem two_wf (hF : Fok X B e bw r F) {q : Nat} (hqe : q ≤ e) {z : List (Int × Int) × Nat} (h : outTwo B e F q = .inr z) : (q < z.2 ∧ z.1.length + q < z.2 ∧ sk B e z.2 = z.2 ∧ z.2 ≤ e) ∧ ∀ rest t, okc rest (t + 2) → okc (z.1 ++ rest) t := by
  unfold outTwo at h
  by_cases k1 : q < e ∧ B q = 91
  · rw [if_neg (fun z => z k1)] at h
    have s1 := sk_ge (B := B) (e := e) (p := q + 1)
    obtain ⟨w1, -, -⟩ := hF (sk B e (q + 1)) (sk_le (by omega)) sk_sk
    cases e1 : F (sk B e (q + 1)) with
    | inl g =>
      rw [e1] at h
      cases h
    | inr y =>
      rw [e1] at h w1
      obtain ⟨⟨a1, a2, a3, a4⟩, -, a5⟩ := w1
      dsimp only at h
      by_cases k2 : y.2 < e ∧ B y.2 = 44
      · rw [if_neg (fun z => z k2)] at h
        have s2 := sk_ge (B := B) (e := e) (p := y.2 + 1)
        obtain ⟨w2, -, -⟩ := hF (sk B e (y.2 + 1)) (sk_le (by omega)) sk_sk
        cases e2 : F (sk B e (y.2 + 1)) with
        | inl g =>
          rw [e2] at h
          cases h
        | inr y2 =>
          rw [e2] at h w2
          obtain ⟨⟨b1, b2, b3, b4⟩, -, b5⟩ := w2
          dsimp only at h
          by_cases k3 : y2.2 < e ∧ B y2.2 = 93
          · rw [if_neg (fun z => z k3)] at h
            injection h with h
            have s3 := sk_ge (B := B) (e := e) (p := y2.2 + 1)
            rw [← h]
            refine ⟨⟨?_, ?_, sk_sk, sk_le (by omega)⟩, fun rest t ht => ?_⟩
            · show q < sk B e (y2.2 + 1)
              omega
            · show (y.1 ++ y2.1).length + q < sk B e (y2.2 + 1)
              rw [List.length_append]
              omega
            · show okc ((y.1 ++ y2.1) ++ rest) t
              rw [List.append_assoc]
              exact a5 _ _ (b5 _ _ ht)
          · rw [if_pos k3] at h
            cases h
      · rw [if_pos k2] at h
        cases h
  · rw [if_pos k1] at h
    cases h
theorem c_two (he : e ≤ 150) (hF : Fok X B e bw r F) {q : Nat} {S : Hp} {cd : List (Int × Int)} (hT : Tp S B e q) (hK : CKl S (iW bw) cd) (hl : cd.length ≤ q) : ∃ S', (∀ d, am_call X aP (d + (4 * r + 9)) 35 [.ref (iW bw), .ref 1, .int (zI (6 - (r : Int)))] (mkS w (hI S) J) = some (.inl (some (.int (zI (sg (outTwo B e F q))))), (mkS w (hI S') J))) ∧ LcFin S' (iW bw) B e cd (outTwo B e F q) ∧ FW (iW bw) S S' := by
  have hb := iW_c bw
  have hqe := hT.2.2.2.1
  unfold outTwo
  by_cases k1 : q < e ∧ B q = 91
  · rw [if_neg (fun z => z k1)]
    have s1 := sk_ge (B := B) (e := e) (p := q + 1)
    obtain ⟨w1, u1, -⟩ := hF (sk B e (q + 1)) (sk_le (by omega)) sk_sk
    obtain ⟨S1, g1, g2, g3⟩ := T_needs1 (X := X) w J hT (c := 91) (by decide) k1
    obtain ⟨S2, f1, f2, f3⟩ := u1 w J S1 cd g2 (CKl_ft (by omega) hK g3) (by omega)
    have head : ∀ (d : Nat) (R : aRes), (cI (some (.inl (some (.int (zI (sg (F (sk B e (q + 1))))))), (mkS w (hI S2) J))) (fun r4 s3 => if r4 = nI 0 then rI (nI 0) (mkS w (gI s3) (gJ s3)) else cI (am_call X aP (d + (4 * r + 8)) 88 [.ref 1, .int (nI 44)] (mkS w (gI s3) (gJ s3))) (fun r6 s5 => if r6 = nI 0 then rI (nI 0) (mkS w (gI s5) (gJ s5)) else cI (am_call X aP (d + (4 * r + 8)) 31 [.ref (iW bw), .ref 1, .int (zI (6 - (r : Int)))] (mkS w (gI s5) (gJ s5))) (fun r8 s7 => if r8 = nI 0 then rI (nI 0) (mkS w (gI s7) (gJ s7)) else cI (am_call X aP (d + (4 * r + 8)) 88 [.ref 1, .int (nI 93)] (mkS w (gI s7) (gJ s7))) (fun r10 s9 => if r10 = nI 0 then rI (nI 0) (mkS w (gI s9) (gJ s9)) else rI (nI 1) (mkS w (gI s9) (gJ s9))) (fun e9 s7 => rX e9 (mkS w (gI s7) (gJ s7)))) (fun e9 s5 => rX e9 (mkS w (gI s5) (gJ s5)))) (fun e9 s3 => rX e9 (mkS w (gI s3) (gJ s3)))) (fun e9 s1 => rX e9 (mkS w (gI s1) (gJ s1))) = R) → am_call X aP (d + (4 * r + 9)) 35 [.ref (iW bw), .ref 1, .int (zI (6 - (r : Int)))] (mkS w (hI S) J) = R := fun d R hR => by
      rw [show d + (4 * r + 9) = (d + (4 * r + 8)) + 1 from rfl, go_X3_readTwo, e_X3_readTwo_0]
      refine cI_go (r := zI 1) (st := mkS w (hI S1) J) ?_ ?_
      · simp only [zl]
        rw [show d + (4 * r + 8) = (d + (4 * r + 5)) + 3 from rfl]
        exact g1 _
      refine (if_neg ?_).trans ?_
      · decide
      simp only [gI_mk, gJ_mk]
      rw [f1]
      exact hR
    cases e1 : F (sk B e (q + 1)) with
    | inl g =>
      rw [e1] at f2 head
      refine ⟨S2, fun d => head d _ ?_, f2, FW_tr (FW_t g3) f3⟩
      simp (disch := omega) only [hk, hu, hI_n, hI_un, z_nat, em_d, zl, z_add, z_sub, z_mul, z_lt, z_eq, gI_mk, gJ_mk, cI_some, cV_some, cJ_some, cI_x, cV_x, cJ_x, uS_self, uS_ne, if_pos, if_neg, b01, b01n, ite_not, if_true, if_false, Bool.false_eq_true, hLL, sg_l, rI_d]
    | inr y =>
      rw [e1] at f2 head w1
      obtain ⟨⟨a1, a2, a3, a4⟩, -⟩ := w1
      obtain ⟨hT2, hK2⟩ := f2
      dsimp only
      by_cases k2 : y.2 < e ∧ B y.2 = 44
      · rw [if_neg (fun z => z k2)]
        have s2 := sk_ge (B := B) (e := e) (p := y.2 + 1)
        obtain ⟨w2, u2, -⟩ := hF (sk B e (y.2 + 1)) (sk_le (by omega)) sk_sk
        obtain ⟨S3, y1, y2, y3⟩ := T_needs1 (X := X) w J hT2 (c := 44) (by decide) k2
        obtain ⟨S4, z1, z2, z3⟩ := u2 w J S3 _ y2 (CKl_ft (by omega) hK2 y3) (by rw [List.length_append]; omega)
        have head2 : ∀ (d : Nat) (R : aRes), (cI (some (.inl (some (.int (zI (sg (F (sk B e (y.2 + 1))))))), (mkS w (hI S4) J))) (fun r8 s7 => if r8 = nI 0 then rI (nI 0) (mkS w (gI s7) (gJ s7)) else cI (am_call X aP (d + (4 * r + 8)) 88 [.ref 1, .int (nI 93)] (mkS w (gI s7) (gJ s7))) (fun r10 s9 => if r10 = nI 0 then rI (nI 0) (mkS w (gI s9) (gJ s9)) else rI (nI 1) (mkS w (gI s9) (gJ s9))) (fun e9 s7 => rX e9 (mkS w (gI s7) (gJ s7)))) (fun e9 s5 => rX e9 (mkS w (gI s5) (gJ s5))) = R) → am_call X aP (d + (4 * r + 9)) 35 [.ref (iW bw), .ref 1, .int (zI (6 - (r : Int)))] (mkS w (hI S) J) = R := fun d R hR => by
          refine head d R ?_
          rw [cI_some, sg_r]
          refine (if_neg ?_).trans ?_
          · decide
          refine cI_go (r := zI 1) (st := mkS w (hI S3) J) ?_ ?_
          · simp only [gI_mk, gJ_mk, zl]
            rw [show d + (4 * r + 8) = (d + (4 * r + 5)) + 3 from rfl]
            exact y1 _
          refine (if_neg ?_).trans ?_
          · decide
          simp only [gI_mk, gJ_mk]
          rw [z1]
          exact hR
        cases e2 : F (sk B e (y.2 + 1)) with
        | inl g =>
          rw [e2] at z2 head2
          refine ⟨S4, fun d => head2 d _ ?_, z2, FW_tr (FW_t g3) (FW_tr f3 (FW_tr (FW_t y3) z3))⟩
          simp (disch := omega) only [hk, hu, hI_n, hI_un, z_nat, em_d, zl, z_add, z_sub, z_mul, z_lt, z_eq, gI_mk, gJ_mk, cI_some, cV_some, cJ_some, cI_x, cV_x, cJ_x, uS_self, uS_ne, if_pos, if_neg, b01, b01n, ite_not, if_true, if_false, Bool.false_eq_true, hLL, sg_l, rI_d]
        | inr y4 =>
          rw [e2] at z2 head2 w2
          obtain ⟨⟨b1, b2, b3, b4⟩, -⟩ := w2
          obtain ⟨hT4, hK4⟩ := z2
          dsimp only
          by_cases k3 : y4.2 < e ∧ B y4.2 = 93
          · rw [if_neg (fun z => z k3)]
            obtain ⟨S5, v1, v2, v3⟩ := T_needs1 (X := X) w J hT4 (c := 93) (by decide) k3
            have hK5 := CKl_ft (by omega) hK4 v3
            rw [List.append_assoc] at hK5
            refine ⟨S5, fun d => head2 d _ ?_, ⟨v2, hK5⟩, FW_tr (FW_t g3) (FW_tr f3 (FW_tr (FW_t y3) (FW_tr z3 (FW_t v3))))⟩
            rw [cI_some, sg_r]
            refine (if_neg ?_).trans ?_
            · decide
            refine cI_go (r := zI 1) (st := mkS w (hI S5) J) ?_ ?_
            · simp only [gI_mk, gJ_mk, zl]
              rw [show d + (4 * r + 8) = (d + (4 * r + 5)) + 3 from rfl]
              exact v1 _
            simp (disch := omega) only [hk, hu, hI_n, hI_un, z_nat, em_d, zl, z_add, z_sub, z_mul, z_lt, z_eq, gI_mk, gJ_mk, cI_some, cV_some, cJ_some, cI_x, cV_x, cJ_x, uS_self, uS_ne, if_pos, if_neg, b01, b01n, ite_not, if_true, if_false, Bool.false_eq_true, hLL, rI_d]
            rfl
          · rw [if_pos k3]
            obtain ⟨S5, v1, v2, v3⟩ := T_needs0 (X := X) w J hT4 (c := 93) (by decide) k3
            refine ⟨S5, fun d => head2 d _ ?_, v2, FW_tr (FW_t g3) (FW_tr f3 (FW_tr (FW_t y3) (FW_tr z3 (FW_t v3))))⟩
            rw [cI_some, sg_r]
            refine (if_neg ?_).trans ?_
            · decide
            refine cI_go (r := zI 0) (st := mkS w (hI S5) J) ?_ ?_
            · simp only [gI_mk, gJ_mk, zl]
              rw [show d + (4 * r + 8) = (d + (4 * r + 5)) + 3 from rfl]
              exact v1 _
            simp (disch := omega) only [hk, hu, hI_n, hI_un, z_nat, em_d, zl, z_add, z_sub, z_mul, z_lt, z_eq, gI_mk, gJ_mk, cI_some, cV_some, cJ_some, cI_x, cV_x, cJ_x, uS_self, uS_ne, if_pos, if_neg, b01, b01n, ite_not, if_true, if_false, Bool.false_eq_true, hLL, rI_d]
            rfl
      · rw [if_pos k2]
        obtain ⟨S3, y1, y2, y3⟩ := T_needs0 (X := X) w J hT2 (c := 44) (by decide) k2
        refine ⟨S3, fun d => head d _ ?_, y2, FW_tr (FW_t g3) (FW_tr f3 (FW_t y3))⟩
        rw [cI_some, sg_r]
        refine (if_neg ?_).trans ?_
        · decide
        refine cI_go (r := zI 0) (st := mkS w (hI S3) J) ?_ ?_
        · simp only [gI_mk, gJ_mk, zl]
          rw [show d + (4 * r + 8) = (d + (4 * r + 5)) + 3 from rfl]
          exact y1 _
        simp (disch := omega) only [hk, hu, hI_n, hI_un, z_nat, em_d, zl, z_add, z_sub, z_mul, z_lt, z_eq, gI_mk, gJ_mk, cI_some, cV_some, cJ_some, cI_x, cV_x, cJ_x, uS_self, uS_ne, if_pos, if_neg, b01, b01n, ite_not, if_true, if_false, Bool.false_eq_true, hLL, rI_d]
        rfl
  · rw [if_pos k1]
    obtain ⟨S1, g1, g2, g3⟩ := T_needs0 (X := X) w J hT (c := 91) (by decide) k1
    refine ⟨S1, fun d => ?_, g2, FW_t g3⟩
    rw [show d + (4 * r + 9) = (d + (4 * r + 8)) + 1 from rfl, go_X3_readTwo, e_X3_readTwo_0]
    refine cI_go (r := zI 0) (st := mkS w (hI S1) J) ?_ ?_
    · simp only [zl]
      rw [show d + (4 * r + 8) = (d + (4 * r + 5)) + 3 from rfl]
      exact g1 _
    simp (disch := omega) only [hk, hu, hI_n, hI_un, z_nat, em_d, zl, z_add, z_sub, z_mul, z_lt, z_eq, gI_mk, gJ_mk, cI_some, cV_some, cJ_some, cI_x, cV_x, cJ_x, uS_self, uS_ne, if_pos, if_neg, b01, b01n, ite_not, if_true, if_false, Bool.false_eq_true, hLL, rI_d]
    rfl
/-- the reference's five calls for the same -/
theorem m_two (he : e ≤ 150) (hF : Fok X B e bw r F) {q p : Nat} {S : Hp} {cd : List (Int × Int)} (hM : Mp S B e p) (hs : sk B e p = q) (h7 : S 132 7 = 6 - (r : Int)) (hK : MKl S cd) (hl : cd.length ≤ q) : ∃ S1 S2 S3 S4 S5, (∀ d, am_call X aP (d + 2) 166 [.ref 132, .int (zI 91)] (mkS w (hI S) J) = some (.inl none, (mkS w (hI S1) J))) ∧ (∀ d, am_call X aP (d + (4 * r + 8)) 182 [.ref 132] (mkS w (hI S1) J) = some (.inl none, (mkS w (hI S2) J))) ∧ (∀ d, am_call X aP (d + 2) 166 [.ref 132, .int (zI 44)] (mkS w (hI S2) J) = some (.inl none, (mkS w (hI S3) J))) ∧ (∀ d, am_call X aP (d + (4 * r + 8)) 182 [.ref 132] (mkS w (hI S3) J) = some (.inl none, (mkS w (hI S4) J))) ∧ (∀ d, am_call X aP (d + 2) 166 [.ref 132, .int (zI 93)] (mkS w (hI S4) J) = some (.inl none, (mkS w (hI S5) J))) ∧ LmFin S5 B e cd (6 - (r : Int)) (outTwo B e F q) ∧ FZ S S5 := by
  have hqe : q ≤ e := by rw [← hs]; exact sk_le hM.2.2.2.1
  unfold outTwo
  by_cases k1 : q < e ∧ B q = 91
  · rw [if_neg (fun z => z k1)]
    have s1 := sk_ge (B := B) (e := e) (p := q + 1)
    obtain ⟨w1, -, u1⟩ := hF (sk B e (q + 1)) (sk_le (by omega)) sk_sk
    obtain ⟨S1, g1, g2, g3⟩ := M_sign1 (X := X) w J hM (c := 91) (by decide) (by rw [hs]; exact k1)
    rw [hs] at g2
    obtain ⟨S2, f1, f2, f3⟩ := u1 w J S1 _ cd g2 rfl ((g3.2 7 (by decide)).trans h7) (MKl_m hK g3) (by omega)
    cases e1 : F (sk B e (q + 1)) with
    | inl g =>
      rw [e1] at f2
      exact ⟨S1, S2, S2, S2, S2, g1, f1, fun d => M_signB f2, fun d => sum_d31 f2, fun d => M_signB f2, f2, FZ_tr (FZ_m g3) f3⟩
    | inr y =>
      rw [e1] at f2 w1
      obtain ⟨⟨a1, a2, a3, a4⟩, -⟩ := w1
      obtain ⟨⟨p2, hM2, hs2⟩, hK2, h72⟩ := f2
      dsimp only
      by_cases k2 : y.2 < e ∧ B y.2 = 44
      · rw [if_neg (fun z => z k2)]
        have s2 := sk_ge (B := B) (e := e) (p := y.2 + 1)
        obtain ⟨w2, -, u2⟩ := hF (sk B e (y.2 + 1)) (sk_le (by omega)) sk_sk
        obtain ⟨S3, y1, y2, y3⟩ := M_sign1 (X := X) w J hM2 (c := 44) (by decide) (by rw [hs2]; exact k2)
        rw [hs2] at y2
        obtain ⟨S4, z1, z2, z3⟩ := u2 w J S3 _ _ y2 rfl ((y3.2 7 (by decide)).trans h72) (MKl_m hK2 y3) (by rw [List.length_append]; omega)
        cases e2 : F (sk B e (y.2 + 1)) with
        | inl g =>
          rw [e2] at z2
          exact ⟨S1, S2, S3, S4, S4, g1, f1, y1, z1, fun d => M_signB z2, z2, FZ_tr (FZ_m g3) (FZ_tr f3 (FZ_tr (FZ_m y3) z3))⟩
        | inr y4 =>
          rw [e2] at z2 w2
          obtain ⟨⟨p4, hM4, hs4⟩, hK4, h74⟩ := z2
          dsimp only
          by_cases k3 : y4.2 < e ∧ B y4.2 = 93
          · rw [if_neg (fun z => z k3)]
            obtain ⟨S5, v1, v2, v3⟩ := M_sign1 (X := X) w J hM4 (c := 93) (by decide) (by rw [hs4]; exact k3)
            rw [hs4] at v2
            have hK5 := MKl_m hK4 v3
            rw [List.append_assoc] at hK5
            exact ⟨S1, S2, S3, S4, S5, g1, f1, y1, z1, v1, ⟨⟨_, v2, rfl⟩, hK5, (v3.2 7 (by decide)).trans h74⟩, FZ_tr (FZ_m g3) (FZ_tr f3 (FZ_tr (FZ_m y3) (FZ_tr z3 (FZ_m v3))))⟩
          · rw [if_pos k3]
            obtain ⟨S5, v1, v2, v3⟩ := M_sign0 (X := X) w J hM4 (c := 93) (by decide) (by rw [hs4]; exact k3)
            rw [hs4] at v2
            exact ⟨S1, S2, S3, S4, S5, g1, f1, y1, z1, v1, v2, FZ_tr (FZ_m g3) (FZ_tr f3 (FZ_tr (FZ_m y3) (FZ_tr z3 (FZ_m v3))))⟩
      · rw [if_pos k2]
        obtain ⟨S3, y1, y2, y3⟩ := M_sign0 (X := X) w J hM2 (c := 44) (by decide) (by rw [hs2]; exact k2)
        rw [hs2] at y2
        exact ⟨S1, S2, S3, S3, S3, g1, f1, y1, fun d => sum_d31 y2, fun d => M_signB y2, y2, FZ_tr (FZ_m g3) (FZ_tr f3 (FZ_m y3))⟩
  · rw [if_pos k1]
    obtain ⟨S1, g1, g2, g3⟩ := M_sign0 (X := X) w J hM (c := 91) (by decide) (by rw [hs]; exact k1)
    rw [hs] at g2
    exact ⟨S1, S1, S1, S1, S1, g1, fun d => sum_d31 g2, fun d => M_signB g2, fun d => sum_d31 g2, fun d => M_signB g2, g2, FZ_m g3⟩
end LW3
