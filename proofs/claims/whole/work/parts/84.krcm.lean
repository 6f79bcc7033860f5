/-! comparisons, both at once; the head of a test -/
section
variable {t : Nat → Nat} {n : Nat} {α α' α1 β β0 β' β1 γ : zS} {st st1 : lx} {L W V W0 q p toks : List Nat} {c O b f : Nat} {l2 : Int32} {u1 u2 u3 u4 : Option Value}
def cmS (t : Nat → Nat) (n : Nat) (st : lx) : lx := if ls t n st = 60 ∨ ls t n st = 62 then la t n st else lG t n 61 st
def cmO (t : Nat → Nat) (n : Nat) (st : lx) : Nat := if ls t n st = 60 then 11 else if ls t n st = 62 then 12 else 13
theorem cmO_b (st : lx) : 11 ≤ cmO t n st ∧ cmO t n st ≤ 13 := by
  unfold cmO
  split
  · omega
  · split <;> omega
/-- the class's comparison behind its first sum -/
theorem c_cmp (hO : O ≤ 6) (hS : Sh α) (ha : zM 61 [.ref 12, .int (nI O)] α = some (none, α1)) (hC : CS α1 t n st) : ∃ α2, CS α2 t n (cmS t n st) ∧ Un (fun r _ => r = 8) α1 α2 ∧ zM 60 [.ref 12, .int (nI O)] α = zbV (zM 61 [.ref 12, .int (nI O)] α2) (fun σ1 => if tg σ1 12 = 7 then zbV (zM 53 [.ref 12, .int (cOf (cmO t n st))] σ1) (fun σ2 => some (none, σ2)) else none) := by
  have hS1 := CS_sh hC
  have s1 : zM 103 [.ref 8, .int 60] α1 = _ := c_atSign hC (c := 60) (by decide)
  have s2 : zM 103 [.ref 8, .int 62] α1 = _ := c_atSign hC (c := 62) (by decide)
  rw [q_X6_readComparison]
  simp -implicitDefEqProofs only [tg_sI, ln_sI, tg_sL, ln_sL, tg_sR, ln_sR, tg_sC, ln_sC, ai_sI, ai_sL, gL_sI, gR_sI, gI_sL, gR_sL, gI_sR, gL_sR, gI_sI, gL_sL, gR_sR, zlt_e, zln_e, zli_e, zll_e, zbI_e, zbL_e, zbR_e, zbV_e, zeR_e, zeN_s, zeN_n, Nat.reduceEqDiff, and_self, and_true, true_and, and_false, false_and, ite_true, ite_false, reduceIte, tg_12 hS, rk60 (show O < 2 ^ 31 by omega), rk61 (show O < 2 ^ 31 by omega), bif_lt (show 8 + 10 * (7 - O) < 9 + 10 * (7 - O) by omega), ha, rk103, rk109, rk97, rk53, bif_lt (show 1 < 9 + 10 * (7 - O) by omega), bif_lt (show 2 < 9 + 10 * (7 - O) by omega), bif_lt (show 3 < 9 + 10 * (7 - O) by omega), tg_12 hS1, gR_12_0 hS1, tg_8 hS1, s1, s2, q_X6_readComparison_31, q_X6_readComparison_26]
  by_cases q1 : ls t n st = 60
  · obtain ⟨α2, a1, a2⟩ := c_advS hC (by omega)
    refine ⟨α2, by unfold cmS; rw [if_pos (.inl q1)]; exact a2, Un_tok hS1 a1 rfl (by decide +kernel), ?_⟩
    have e1 : cmO t n st = 11 := by unfold cmO; rw [if_pos q1]
    rw [if_pos q1, if_neg (by decide), a1, e1]
    simp -implicitDefEqProofs only [tg_sI, ln_sI, tg_sL, ln_sL, tg_sR, ln_sR, tg_sC, ln_sC, ai_sI, ai_sL, gL_sI, gR_sI, gI_sL, gR_sL, gI_sR, gL_sR, gI_sI, gL_sL, gR_sR, zlt_e, zln_e, zli_e, zll_e, zbI_e, zbL_e, zbR_e, zbV_e, zeR_e, zeN_s, zeN_n, Nat.reduceEqDiff, and_self, and_true, true_and, and_false, false_and, ite_true, ite_false, reduceIte, tg_12 (CS_sh a2)]
    rfl
  · rw [if_neg q1]
    by_cases q2 : ls t n st = 62
    · obtain ⟨α2, a1, a2⟩ := c_advS hC (by omega)
      refine ⟨α2, by unfold cmS; rw [if_pos (.inr q2)]; exact a2, Un_tok hS1 a1 rfl (by decide +kernel), ?_⟩
      have e1 : cmO t n st = 12 := by unfold cmO; rw [if_neg q1, if_pos q2]
      rw [if_pos rfl, if_pos q2, if_neg (by decide), a1, e1]
      simp -implicitDefEqProofs only [tg_sI, ln_sI, tg_sL, ln_sL, tg_sR, ln_sR, tg_sC, ln_sC, ai_sI, ai_sL, gL_sI, gR_sI, gI_sL, gR_sL, gI_sR, gL_sR, gI_sI, gL_sL, gR_sR, zlt_e, zln_e, zli_e, zll_e, zbI_e, zbL_e, zbR_e, zbV_e, zeR_e, zeN_s, zeN_n, Nat.reduceEqDiff, and_self, and_true, true_and, and_false, false_and, ite_true, ite_false, reduceIte, tg_12 (CS_sh a2)]
      rfl
    · obtain ⟨α2, a1, a2⟩ := c_takeSign hC (c := 61) (by decide)
      have a1 : zM 109 [.ref 8, .int 61] α1 = some (none, α2) := a1
      refine ⟨α2, by unfold cmS; rw [if_neg (by omega)]; exact a2, Un_tok hS1 a1 rfl (by decide +kernel), ?_⟩
      have e1 : cmO t n st = 13 := by unfold cmO; rw [if_neg q1, if_neg q2]
      rw [if_pos rfl, if_neg q2, if_pos rfl, a1, e1]
      simp -implicitDefEqProofs only [tg_sI, ln_sI, tg_sL, ln_sL, tg_sR, ln_sR, tg_sC, ln_sC, ai_sI, ai_sL, gL_sI, gR_sI, gI_sL, gR_sL, gI_sR, gL_sR, gI_sI, gL_sL, gR_sR, zlt_e, zln_e, zli_e, zll_e, zbI_e, zbL_e, zbR_e, zbV_e, zeR_e, zeN_s, zeN_n, Nat.reduceEqDiff, and_self, and_true, true_and, and_false, false_and, ite_true, ite_false, reduceIte, tg_12 (CS_sh a2)]
      rfl
/-- a comparison, both; the reference behind its first word -/
theorem J_cmp {s e : Nat} (hC : CS α t n (.inl (s, e))) (hD : DR α L) (hR : RS β t n (.inl (s, e))) (hQ : SQ β W O L b) (hO : O ≤ 6) (hL : L.length + W.length + 6 ≤ s) (hW : ∀ i, W.getD i 0 < 1000) (hd4 : ∀ d, 1 ≤ d → d ≤ 4 → W.getLast? ≠ some d) (hw : lw t n (.inl (s, e)) ≠ 24) : ∃ α' st' toks, zM 60 [.ref 12, .int (nI O)] α = some (none, α') ∧ CZ t n α α' st' (L ++ toks) ∧ (¬ lL st' = true → ∃ β', zM 226 [.ref 176] β = some (none, β') ∧ SE t n β β' st') ∧ (lL st' = true → EB (4 + 3 * (6 - O)) toks ∧ (L ++ toks).length + W.length + 6 ≤ lp st' ∧ s < lp st' ∧ ∃ β', zM 226 [.ref 176] β = some (none, β') ∧ SV t n β β' st' W O (L ++ toks) b) := by
  have hS := CS_sh hC
  have hSb := RS_sh hR
  have h16 := hC.1.2.1
  have h256 := hR.1.2.2.1
  have hsn : s ≤ n := hC.2.1.1
  obtain ⟨b1, x1, x2, x3, x4, x5⟩ := r_no (w := 24) (by decide) hR hw
  have x1 : zM 196 [.ref 176, .ref 202] β = some (some (.int 0), b1) := x1
  have v1 := SV_rd (SV_0 hR hQ) rfl (by decide +kernel) x1 x2
  obtain ⟨α1, st1, y1, d1, d2, d3, d4⟩ := J_sums (κ := 6) (Nat.le_refl _) hC hD v1.1 v1.2.2 hO hL hW hd4
  obtain ⟨α2, a2, a3, a4⟩ := c_cmp hO hS d1 d2.1
  have z2 : CZ t n α α2 (cmS t n st1) (L ++ y1) := by
    obtain ⟨k, hk, hk2⟩ := d2.2.2.1
    refine ⟨a2, d2.2.1.trans (a3.mono (fun r j _ _ q => .inl q)), ⟨k, hk, by rw [a3.i (by omega) (by omega) (by omega) (by omega)]; exact hk2⟩, fun q => ?_⟩
    have : lL st1 = true := by
      unfold cmS at q
      split at q
      · exact la_live q
      · exact lG_live q
    exact DR_un (d2.2.2.2 this) (CS_sh d2.1) a3 (fun j => by omega) (by omega)
  have e1 : zM 226 [.ref 176] β = zbV (zM 225 [.ref 176] b1) (fun σ3 => if tg σ3 176 = 13 then if (gI σ3 176 5) = 0 then (if tg σ3 176 = 13 then zbI (zM 194 [.ref 176] σ3) (fun x4 σ4 => if x4 = 60 then (zR 7 226 33 [some (.ref 176), some (.int x4)] [] σ4) else (if x4 = 62 then (zR 7 226 33 [some (.ref 176), some (.int x4)] [] σ4) else (zR 7 226 24 [some (.ref 176), some (.int x4)] [] σ4))) else none) else (some (none, σ3)) else none) := by
    rw [q_X12_fact]
    simp -implicitDefEqProofs only [tg_sI, ln_sI, tg_sL, ln_sL, tg_sR, ln_sR, tg_sC, ln_sC, ai_sI, ai_sL, gL_sI, gR_sI, gI_sL, gR_sL, gI_sR, gL_sR, gI_sI, gL_sL, gR_sR, zlt_e, zln_e, zli_e, zll_e, zbI_e, zbL_e, zbR_e, zbV_e, zeR_e, zeN_s, zeN_n, Nat.reduceEqDiff, and_self, and_true, true_and, and_false, false_and, ite_true, ite_false, reduceIte, tg_176 hSb, gR_176_34 hSb, x1, tg_176 x5]
  rw [a4, e1]
  -- the class behind a fault
  have fin : ¬ lL (cmS t n st1) = true → ∃ α4, zbV (zM 61 [.ref 12, .int (nI O)] α2) (fun σ1 => if tg σ1 12 = 7 then zbV (zM 53 [.ref 12, .int (cOf (cmO t n st1))] σ1) (fun σ2 => some (none, σ2)) else none) = some (none, α4) ∧ CZ t n α α4 (cmS t n st1) (L ++ []) := by
    intro hd
    obtain ⟨α3, c1, c2⟩ := d_61 hd hO z2
    obtain ⟨α4, p1, p2⟩ := z_put (c := cmO t n st1) c2 (fun z => absurd z hd)
    refine ⟨α4, ?_, CZ_L p2 (fun z => absurd z hd)⟩
    rw [c1]
    simp -implicitDefEqProofs only [tg_sI, ln_sI, tg_sL, ln_sL, tg_sR, ln_sR, tg_sC, ln_sC, ai_sI, ai_sL, gL_sI, gR_sI, gI_sL, gR_sL, gI_sR, gL_sR, gI_sI, gL_sL, gR_sR, zlt_e, zln_e, zli_e, zll_e, zbI_e, zbL_e, zbR_e, zbV_e, zeR_e, zeN_s, zeN_n, Nat.reduceEqDiff, and_self, and_true, true_and, and_false, false_and, ite_true, ite_false, reduceIte, tg_12 (CS_sh c2.1), p1]
  by_cases hl : lL st1 = true
  · obtain ⟨s1, e1', rfl⟩ := lx_live hl
    obtain ⟨f1, f2, f3, β2, f4, f5⟩ := d4 hl
    have f2 : (L ++ y1).length + W.length + 6 ≤ s1 := f2
    have f3 : s < s1 := f3
    have f5' := SV_t v1 f5
    have hS2 := RS_sh f5.1
    have vl := SV_look f5'
    have hSl := RS_sh vl.1
    have hs1n : s1 ≤ n := f5.1.2.1.1
    rw [f4]
    simp -implicitDefEqProofs only [tg_sI, ln_sI, tg_sL, ln_sL, tg_sR, ln_sR, tg_sC, ln_sC, ai_sI, ai_sL, gL_sI, gR_sI, gI_sL, gR_sL, gI_sR, gL_sR, gI_sI, gL_sL, gR_sR, zlt_e, zln_e, zli_e, zll_e, zbI_e, zbL_e, zbR_e, zbV_e, zeR_e, zeN_s, zeN_n, Nat.reduceEqDiff, and_self, and_true, true_and, and_false, false_and, ite_true, ite_false, reduceIte, tg_176 hS2, live_5 f5.1 rfl, r_look f5.1]
    by_cases hc : ls t n (.inl (s1, e1')) = 60 ∨ ls t n (.inl (s1, e1')) = 62 ∨ ls t n (.inl (s1, e1')) = 61
    · obtain ⟨hs', hk3, hts⟩ := ls_of (t := t) (n := n) (s := s1) (e := e1') (c := ls t n (.inl (s1, e1'))) (by omega) rfl
      have hst2 : cmS t n (.inl (s1, e1')) = la t n (.inl (s1, e1')) := by
        unfold cmS lG
        rcases hc with z | z | z
        · rw [if_pos (.inl z)]
        · rw [if_pos (.inr z)]
        · rw [if_neg (by omega), if_pos z]
      rw [hst2] at a2 z2
      have v3 : SV t n β (sI (sI β2 176 2 (nI s1)) 176 2 (nI (s1 + 1))) (la t n (.inl (s1, e1'))) W O (L ++ y1) b := SV_at vl (RS_at1 vl.1 hs' hk3)
      have hS3 := RS_sh v3.1
      have hp2 : s1 < tkS t n s1 := la_pos (t := t) (n := n) (s := s1) (e := e1') hs' (by omega)
      obtain ⟨α3, st3, y3, g1, g2, g3, g4⟩ := J_sums (κ := 7) (by omega) a2 (z2.2.2.2 rfl) v3.1 v3.2.2 hO (by omega) hW hd4
      have z3 := CZ_t z2 g2
      -- the reference: one step, its second sum, its code
      have e3 : (if (if s1 < n then nI (t s1) else -1) = (60 : Int32) then zR 7 226 33 [some (.ref 176), some (.int (if s1 < n then nI (t s1) else -1))] [] (sI β2 176 2 (nI s1)) else if (if s1 < n then nI (t s1) else -1) = (62 : Int32) then zR 7 226 33 [some (.ref 176), some (.int (if s1 < n then nI (t s1) else -1))] [] (sI β2 176 2 (nI s1)) else zR 7 226 24 [some (.ref 176), some (.int (if s1 < n then nI (t s1) else -1))] [] (sI β2 176 2 (nI s1))) = zbV (zM 225 [.ref 176] (sI (sI β2 176 2 (nI s1)) 176 2 (nI (s1 + 1)))) (fun σ2 => if tg σ2 176 = 13 then zbV (zM 216 [.ref 176, .int (nI (cmO t n (.inl (s1, e1'))))] σ2) (fun σ3 => some (none, σ3)) else none) := by
        have hlk : ∀ c, c < 256 → kO c = 3 → (((if s1 < n then nI (t s1) else -1) = nI c) ↔ ls t n (.inl (s1, e1')) = c) := fun c h1 h2 => look_is h256 h1 h2
        unfold cmO
        rcases hc with z | z | z
        · have h60 : (if s1 < n then nI (t s1) else -1) = (60 : Int32) := (hlk 60 (by decide) (by decide)).mpr z
          rw [h60, if_pos rfl, if_pos z, q_X12_fact_33]
          simp -implicitDefEqProofs only [tg_sI, ln_sI, tg_sL, ln_sL, tg_sR, ln_sR, tg_sC, ln_sC, ai_sI, ai_sL, gL_sI, gR_sI, gI_sL, gR_sL, gI_sR, gL_sR, gI_sI, gL_sL, gR_sR, zlt_e, zln_e, zli_e, zll_e, zbI_e, zbL_e, zbR_e, zbV_e, zeR_e, zeN_s, zeN_n, Nat.reduceEqDiff, and_self, and_true, true_and, and_false, false_and, ite_true, ite_false, reduceIte, tg_176 hS2, nI_1]
          rfl
        · have h62 : (if s1 < n then nI (t s1) else -1) = (62 : Int32) := (hlk 62 (by decide) (by decide)).mpr z
          rw [h62, if_neg (by decide), if_pos rfl, if_neg (by omega), if_pos z, q_X12_fact_33]
          simp -implicitDefEqProofs only [tg_sI, ln_sI, tg_sL, ln_sL, tg_sR, ln_sR, tg_sC, ln_sC, ai_sI, ai_sL, gL_sI, gR_sI, gI_sL, gR_sL, gI_sR, gL_sR, gI_sI, gL_sL, gR_sR, zlt_e, zln_e, zli_e, zll_e, zbI_e, zbL_e, zbR_e, zbV_e, zeR_e, zeN_s, zeN_n, Nat.reduceEqDiff, and_self, and_true, true_and, and_false, false_and, ite_true, ite_false, reduceIte, tg_176 hS2, nI_1]
          simp only [show ¬ ((62 : Int32) = 60) by decide, if_false]
          rfl
        · have h61 : (if s1 < n then nI (t s1) else -1) = (61 : Int32) := (hlk 61 (by decide) (by decide)).mpr z
          rw [h61, if_neg (by decide), if_neg (by decide), if_neg (by omega), if_neg (by omega), q_X12_fact_24, if_pos rfl, q_X12_fact_33]
          simp -implicitDefEqProofs only [tg_sI, ln_sI, tg_sL, ln_sL, tg_sR, ln_sR, tg_sC, ln_sC, ai_sI, ai_sL, gL_sI, gR_sI, gI_sL, gR_sL, gI_sR, gL_sR, gI_sI, gL_sL, gR_sR, zlt_e, zln_e, zli_e, zll_e, zbI_e, zbL_e, zbR_e, zbV_e, zeR_e, zeN_s, zeN_n, Nat.reduceEqDiff, and_self, and_true, true_and, and_false, false_and, ite_true, ite_false, reduceIte, tg_176 hS2, nI_1]
          simp only [show ¬ ((61 : Int32) = 60) by decide, show ¬ ((61 : Int32) = 62) by decide, if_false]
          rfl
      rw [e3, g1]
      by_cases hl3 : lL st3 = true
      · obtain ⟨s3, e3', rfl⟩ := lx_live hl3
        obtain ⟨j1, j2, j3, β4, j4, j5⟩ := g4 hl3
        have j2 : (L ++ y1 ++ y3).length + W.length + 7 ≤ s3 := j2
        have j3 : tkS t n s1 < s3 := j3
        have hs3n : s3 ≤ n := j5.1.2.1.1
        have hlen : (L ++ y1 ++ y3).length < 1600 := by omega
        obtain ⟨β5, k1, k2⟩ := v_code (SV_t v3 j5) hlen (cmO t n (.inl (s1, e1'))) (by have := cmO_b (t := t) (n := n) (.inl (s1, e1')); omega)
        obtain ⟨α4, p1, p2⟩ := z_put (c := cmO t n (.inl (s1, e1'))) z3 (fun _ => hlen)
        rw [j4]
        simp -implicitDefEqProofs only [tg_sI, ln_sI, tg_sL, ln_sL, tg_sR, ln_sR, tg_sC, ln_sC, ai_sI, ai_sL, gL_sI, gR_sI, gI_sL, gR_sL, gI_sR, gL_sR, gI_sI, gL_sL, gR_sR, zlt_e, zln_e, zli_e, zll_e, zbI_e, zbL_e, zbR_e, zbV_e, zeR_e, zeN_s, zeN_n, Nat.reduceEqDiff, and_self, and_true, true_and, and_false, false_and, ite_true, ite_false, reduceIte, tg_12 (CS_sh z3.1), p1, tg_176 (RS_sh j5.1), k1]
        have hcm := cmO_b (t := t) (n := n) (.inl (s1, e1'))
        refine ⟨α4, _, y1 ++ (y3 ++ [cmO t n (.inl (s1, e1'))]), rfl, CZ_L p2 (fun _ => by simp), fun z => absurd rfl z, fun _ => ⟨EB_cmp (h1 := 3 + 3 * (6 - O)) (h2 := 3 + 3 * (6 - O)) f1 j1 hcm (by omega) (by omega), ?_, ?_, β5, rfl, ?_⟩⟩
        · show _ ≤ s3
          simp at j2 ⊢
          omega
        · show s < s3
          omega
        · have : L ++ (y1 ++ (y3 ++ [cmO t n (.inl (s1, e1'))])) = L ++ y1 ++ y3 ++ [cmO t n (.inl (s1, e1'))] := by simp
          rw [this]; exact k2
      · obtain ⟨β', k1, k2⟩ := g3 hl3
        obtain ⟨k, hk, hk2⟩ := k2.2.2
        obtain ⟨β5, k3, k4, k5, -⟩ := v_codeD k2.1 (k := k) (by omega) hk2 (nI (cmO t n (.inl (s1, e1'))))
        obtain ⟨α4, p1, p2⟩ := z_put (c := cmO t n (.inl (s1, e1'))) z3 (fun z => absurd z hl3)
        rw [k1]
        simp -implicitDefEqProofs only [tg_sI, ln_sI, tg_sL, ln_sL, tg_sR, ln_sR, tg_sC, ln_sC, ai_sI, ai_sL, gL_sI, gR_sI, gI_sL, gR_sL, gI_sR, gL_sR, gI_sI, gL_sL, gR_sR, zlt_e, zln_e, zli_e, zll_e, zbI_e, zbL_e, zbR_e, zbV_e, zeR_e, zeN_s, zeN_n, Nat.reduceEqDiff, and_self, and_true, true_and, and_false, false_and, ite_true, ite_false, reduceIte, tg_12 (CS_sh z3.1), p1, tg_176 (RS_sh k2.1), k3]
        exact ⟨α4, st3, [], rfl, CZ_L p2 (fun z => absurd z hl3), fun _ => ⟨β5, rfl, k4, v3.2.1.trans (k2.2.1.trans k5)⟩, fun z => absurd z hl3⟩
    · have hst2 : cmS t n (.inl (s1, e1')) = .inr (1, s1) := by
        unfold cmS lG
        rw [if_neg (by omega), if_neg (by omega)]
        rfl
      rw [hst2] at fin
      obtain ⟨α4, p1, p2⟩ := fin (fun q => by cases q)
      obtain ⟨β3, k1, k2⟩ := r_fail vl.1 (f := 1) (p := s1) (by decide) (by decide) (by omega)
      have k1 : zM 191 [.ref 176, .int 1, .int (nI s1)] (sI β2 176 2 (nI s1)) = some (none, β3) := k1
      have v4 := SV_rd vl rfl (by decide +kernel) k1 k2
      have hlk : ∀ c, c < 256 → kO c = 3 → ls t n (.inl (s1, e1')) ≠ c → ¬ ((if s1 < n then nI (t s1) else -1) = nI c) := fun c h1 h2 h3 z => h3 ((look_is h256 h1 h2).mp z)
      rw [p1, if_neg (show ¬ (if s1 < n then nI (t s1) else -1) = (60 : Int32) from hlk 60 (by decide) (by decide) (by omega)), if_neg (show ¬ (if s1 < n then nI (t s1) else -1) = (62 : Int32) from hlk 62 (by decide) (by decide) (by omega)), q_X12_fact_24, if_neg (show ¬ (if s1 < n then nI (t s1) else -1) = (61 : Int32) from hlk 61 (by decide) (by decide) (by omega))]
      simp -implicitDefEqProofs only [tg_sI, ln_sI, tg_sL, ln_sL, tg_sR, ln_sR, tg_sC, ln_sC, ai_sI, ai_sL, gL_sI, gR_sI, gI_sL, gR_sL, gI_sR, gL_sR, gI_sI, gL_sL, gR_sR, zlt_e, zln_e, zli_e, zll_e, zbI_e, zbL_e, zbR_e, zbV_e, zeR_e, zeN_s, zeN_n, Nat.reduceEqDiff, and_self, and_true, true_and, and_false, false_and, ite_true, ite_false, reduceIte, tg_176 hS2]
      rw [k1]
      exact ⟨α4, .inr (1, s1), [], rfl, p2, fun _ => ⟨β3, rfl, SE_of v4⟩, fun q => by cases q⟩
  · have hst2 : cmS t n st1 = st1 := by
      have hdx := dead_x (t := t) (n := n) hl
      unfold cmS
      rw [if_neg (by omega), lG_dead2 hl]
    rw [hst2] at fin
    obtain ⟨α4, p1, p2⟩ := fin hl
    obtain ⟨β', k1, k2⟩ := d3 hl
    rw [p1, k1]
    simp -implicitDefEqProofs only [tg_sI, ln_sI, tg_sL, ln_sL, tg_sR, ln_sR, tg_sC, ln_sC, ai_sI, ai_sL, gL_sI, gR_sI, gI_sL, gR_sL, gI_sR, gL_sR, gI_sI, gL_sL, gR_sR, zlt_e, zln_e, zli_e, zll_e, zbI_e, zbL_e, zbR_e, zbV_e, zeR_e, zeN_s, zeN_n, Nat.reduceEqDiff, and_self, and_true, true_and, and_false, false_and, ite_true, ite_false, reduceIte, tg_176 (RS_sh k2.1)]
    rw [if_neg (dead_5 k2.1 hl)]
    exact ⟨α4, st1, [], rfl, p2, fun _ => ⟨β', rfl, SE_t v1 ⟨k2.1, k2.2.1⟩⟩, fun z => absurd z hl⟩
end
