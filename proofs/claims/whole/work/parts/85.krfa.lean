/-! facts, both at once -/
def Jfact (t : Nat → Nat) (n f : Nat) : Prop := ∀ (α β : zS) (s e O b : Nat) (W L : List Nat) (u2 : Option Value), n ≤ s + f → CS α t n (.inl (s, e)) → DR α L → RS β t n (.inl (s, e)) → SQ β W O L b → O ≤ 6 → L.length + W.length + 6 ≤ s → (∀ i, W.getD i 0 < 1000) → (∀ d, 1 ≤ d → d ≤ 4 → W.getLast? ≠ some d) →
  ∃ α' st' toks, zM 58 [.ref 12, .int (nI O)] α = some (none, α') ∧ CZ t n α α' st' (L ++ toks) ∧ (¬ lL st' = true → ∃ β', TL 1 u2 β = some (none, β') ∧ SE t n β β' st') ∧ (lL st' = true → EB (4 + 3 * (6 - O)) toks ∧ (L ++ toks).length + W.length + 6 ≤ lp st' ∧ s < lp st' ∧ ∃ l2 β', TL 1 u2 β = TE l2 β' ∧ SV t n β β' st' W O (L ++ toks) b)
def Jtest (t : Nat → Nat) (n f : Nat) : Prop := ∀ (α β : zS) (s e O b : Nat) (W L : List Nat) (u2 : Option Value), n ≤ s + f → CS α t n (.inl (s, e)) → DR α L → RS β t n (.inl (s, e)) → SQ β W O L b → O ≤ 6 → L.length + W.length + 6 ≤ s → (∀ i, W.getD i 0 < 1000) → (∀ d, d ≤ 16 → W.getLast? ≠ some d) →
  ∃ α' st' toks, zM 56 [.ref 12, .int (nI O)] α = some (none, α') ∧ CZ t n α α' st' (L ++ toks) ∧ (¬ lL st' = true → ∃ β', TL 1 u2 β = some (none, β') ∧ SE t n β β' st') ∧ (lL st' = true → EB (6 + 3 * (6 - O)) toks ∧ (L ++ toks).length + W.length + 6 ≤ lp st' ∧ s < lp st' ∧ (lw t n st' ≠ 21 ∧ lw t n st' ≠ 22) ∧ ∃ p L' l2 β', TL 1 u2 β = TB l2 β' ∧ SV t n β β' st' (W ++ p.reverse) O L' b ∧ L' ++ p = L ++ toks ∧ ∀ x, x ∈ p → x = 14 ∨ x = 15)
section
variable {t : Nat → Nat} {n : Nat} {α α' α1 β β0 β' β1 γ : zS} {st st1 : lx} {L W V W0 q p toks : List Nat} {c O b f : Nat} {l2 : Int32} {u1 u2 u3 u4 : Option Value}
/-- the head of a fact that is no [ and no not -/
theorem tl_head {s e : Nat} (h : RS β t n (.inl (s, e))) (h1 : ls t n (.inl (s, e)) ≠ 91) (h2 : lw t n (.inl (s, e)) ≠ 23) : TL 1 u2 β = zbV (zM 226 [.ref 176] (sI β 176 2 (nI s))) (fun σ6 => TE (if s < n then nI (t s) else -1) σ6) := by
  have hS := RS_sh h
  have h256 := h.1.2.2.1
  have hRl := RS_look h
  have k1 := r_isHere (w := 23) (by decide) hRl
  have k1 : zM 195 [.ref 176, .ref 201] (sI β 176 2 (nI s)) = some (some (.int (if owT t n s e = 23 then 1 else 0)), sI (sI β 176 2 (nI s)) 176 2 (nI s)) := k1
  rw [sI_same, if_neg (show ¬ owT t n s e = 23 from h2)] at k1
  unfold TL TE
  rw [q_X12_test_2, if_neg (by decide)]
  simp -implicitDefEqProofs only [tg_sI, ln_sI, tg_sL, ln_sL, tg_sR, ln_sR, tg_sC, ln_sC, ai_sI, ai_sL, gL_sI, gR_sI, gI_sL, gR_sL, gI_sR, gL_sR, gI_sI, gL_sL, gR_sR, zlt_e, zln_e, zli_e, zll_e, zbI_e, zbL_e, zbR_e, zbV_e, zeR_e, zeN_s, zeN_n, Nat.reduceEqDiff, and_self, and_true, true_and, and_false, false_and, ite_true, ite_false, reduceIte, tg_176 hS, bad_live h, r_look h]
  rw [if_neg (show ¬ (if s < n then nI (t s) else -1) = (91 : Int32) from fun z => h1 ((look_is (c := 91) h256 (by decide) (by decide)).mp z))]
  simp -implicitDefEqProofs only [tg_sI, ln_sI, tg_sL, ln_sL, tg_sR, ln_sR, tg_sC, ln_sC, ai_sI, ai_sL, gL_sI, gR_sI, gI_sL, gR_sL, gI_sR, gL_sR, gI_sI, gL_sL, gR_sR, zlt_e, zln_e, zli_e, zll_e, zbI_e, zbL_e, zbR_e, zbV_e, zeR_e, zeN_s, zeN_n, Nat.reduceEqDiff, and_self, and_true, true_and, and_false, false_and, ite_true, ite_false, reduceIte, gR_176_33 hS]
  rw [k1]
  simp -implicitDefEqProofs only [tg_sI, ln_sI, tg_sL, ln_sL, tg_sR, ln_sR, tg_sC, ln_sC, ai_sI, ai_sL, gL_sI, gR_sI, gI_sL, gR_sL, gI_sR, gL_sR, gI_sI, gL_sL, gR_sR, zlt_e, zln_e, zli_e, zll_e, zbI_e, zbL_e, zbR_e, zbV_e, zeR_e, zeN_s, zeN_n, Nat.reduceEqDiff, and_self, and_true, true_and, and_false, false_and, ite_true, ite_false, reduceIte, tg_176 hS]
/-- the reference opens [ -/
theorem tl_sq {s e : Nat} (h : RS β t n (.inl (s, e))) (hQ : SQ β W O L b) (hs : sm W L) (ho : O ≤ 6) (hl : ls t n (.inl (s, e)) = 91) : (O < 6 → ∃ u2' β', TL 1 u2 β = TL 1 u2' β' ∧ SV t n β β' (la t n (.inl (s, e))) (W ++ [25]) (O + 1) L b) ∧ (O = 6 → ∃ β', TL 1 u2 β = some (none, β') ∧ SE t n β β' (.inr (4, s))) := by
  have hS := RS_sh h
  have h256 := h.1.2.2.1
  have h16 := h.1.2.1
  obtain ⟨hsn, hk3, -⟩ := ls_of (c := 91) (by decide) hl
  have v1 := SV_look (SV_0 h hQ)
  have hS1 := RS_sh v1.1
  obtain ⟨k1, k2⟩ := v_opens (q := s) v1 hs ho 25 (by omega) rfl
  have hk : (if s < n then nI (t s) else -1) = (91 : Int32) := (look_is (c := 91) h256 (by decide) (by decide)).mpr hl
  constructor
  · intro h6
    obtain ⟨β2, a1, a2, a3⟩ := k1 h6
    have hS2 := RS_sh a2.1
    have a1 : zM 217 [.ref 176, .int 25, .int (nI s)] (sI β 176 2 (nI s)) = some (none, β2) := a1
    rw [gI_sI, if_pos ⟨rfl, rfl⟩] at a3
    refine ⟨some (.int 91), sI β2 176 2 (nI (s + 1)), ?_, SV_at a2 (RS_at1 a2.1 hsn hk3)⟩
    unfold TL
    rw [q_X12_test_2, if_neg (by decide)]
    simp -implicitDefEqProofs only [tg_sI, ln_sI, tg_sL, ln_sL, tg_sR, ln_sR, tg_sC, ln_sC, ai_sI, ai_sL, gL_sI, gR_sI, gI_sL, gR_sL, gI_sR, gL_sR, gI_sI, gL_sL, gR_sR, zlt_e, zln_e, zli_e, zll_e, zbI_e, zbL_e, zbR_e, zbV_e, zeR_e, zeN_s, zeN_n, Nat.reduceEqDiff, and_self, and_true, true_and, and_false, false_and, ite_true, ite_false, reduceIte, tg_176 hS, bad_live h, r_look h]
    rw [hk, if_pos rfl, a1]
    simp -implicitDefEqProofs only [tg_sI, ln_sI, tg_sL, ln_sL, tg_sR, ln_sR, tg_sC, ln_sC, ai_sI, ai_sL, gL_sI, gR_sI, gI_sL, gR_sL, gI_sR, gL_sR, gI_sI, gL_sL, gR_sR, zlt_e, zln_e, zli_e, zll_e, zbI_e, zbL_e, zbR_e, zbV_e, zeR_e, zeN_s, zeN_n, Nat.reduceEqDiff, and_self, and_true, true_and, and_false, false_and, ite_true, ite_false, reduceIte, tg_176 hS2, a3, nI_1]
  · intro h6
    obtain ⟨β2, a1, a2⟩ := k2 h6
    have hS2 := RS_sh a2.1
    have a1 : zM 217 [.ref 176, .int 25, .int (nI s)] (sI β 176 2 (nI s)) = some (none, β2) := a1
    have a2 : SV t n β β2 (.inr (4, s)) W O L b := a2
    have a4 : SV t n β (sI β2 176 2 ((gI β2 176 2) + 1)) (.inr (4, s)) W O L b := by
      refine SV_at a2 ?_
      obtain ⟨r1, r2, r3⟩ := a2.1
      refine ⟨RC_at r1 (by decide), r2, ?_, ?_⟩
      · rw [gI_sI, if_neg (by omega)]; exact r3.1
      · rw [gI_sI, if_neg (by omega)]; exact r3.2
    refine ⟨sI β2 176 2 ((gI β2 176 2) + 1), ?_, SE_of a4⟩
    have hd := TL_d (u2 := some (.int 91)) (RS_sh a4.1) (dead_5 a4.1 (fun q => by cases q)) 1
    unfold TL at hd ⊢
    rw [q_X12_test_2, if_neg (by decide)]
    simp -implicitDefEqProofs only [tg_sI, ln_sI, tg_sL, ln_sL, tg_sR, ln_sR, tg_sC, ln_sC, ai_sI, ai_sL, gL_sI, gR_sI, gI_sL, gR_sL, gI_sR, gL_sR, gI_sI, gL_sL, gR_sR, zlt_e, zln_e, zli_e, zll_e, zbI_e, zbL_e, zbR_e, zbV_e, zeR_e, zeN_s, zeN_n, Nat.reduceEqDiff, and_self, and_true, true_and, and_false, false_and, ite_true, ite_false, reduceIte, tg_176 hS, bad_live h, r_look h]
    rw [hk, if_pos rfl, a1]
    simp -implicitDefEqProofs only [tg_sI, ln_sI, tg_sL, ln_sL, tg_sR, ln_sR, tg_sC, ln_sC, ai_sI, ai_sL, gL_sI, gR_sI, gI_sL, gR_sL, gI_sR, gL_sR, gI_sI, gL_sL, gR_sR, zlt_e, zln_e, zli_e, zll_e, zbI_e, zbL_e, zbR_e, zbV_e, zeR_e, zeN_s, zeN_n, Nat.reduceEqDiff, and_self, and_true, true_and, and_false, false_and, ite_true, ite_false, reduceIte, tg_176 hS2]
    exact hd
/-- the reference at not -/
theorem tl_not {s e : Nat} (h : RS β t n (.inl (s, e))) (hQ : SQ β W O L b) (hs : sm W L) (ho : O ≤ 6) (hw : lw t n (.inl (s, e)) = 23) : (O < 6 → ∃ u2' β', TL 1 u2 β = TL 1 u2' β' ∧ SV t n β β' (la t n (.inl (s, e))) (W ++ [16]) (O + 1) L b) ∧ (O = 6 → ∃ β', TL 1 u2 β = some (none, β') ∧ SE t n β β' (.inr (4, s))) := by
  have hS := RS_sh h
  have h256 := h.1.2.2.1
  have h16 := h.1.2.1
  have hno := own_not (t := t) (n := n) (s := s) (e := e) (by omega)
  have hsn : s ≤ n := h.2.1.1
  have v1 := SV_look (SV_0 h hQ)
  have hS1 := RS_sh v1.1
  have k1 := r_isHere (w := 23) (by decide) v1.1
  have k1 : zM 195 [.ref 176, .ref 201] (sI β 176 2 (nI s)) = some (some (.int (if owT t n s e = 23 then 1 else 0)), sI (sI β 176 2 (nI s)) 176 2 (nI s)) := k1
  rw [sI_same, if_pos (show owT t n s e = 23 from hw)] at k1
  obtain ⟨o1, o2⟩ := v_opens (q := s) v1 hs ho 16 (by omega) rfl
  have e1 : TL 1 u2 β = zbV (zM 217 [.ref 176, .int 16, .int (nI s)] (sI β 176 2 (nI s))) (fun σ7 => zR 8 229 35 [some (.ref 176), some (.int 1), some (.int (if s < n then nI (t s) else -1))] [] σ7) := by
    unfold TL
    rw [q_X12_test_2, if_neg (by decide)]
    simp -implicitDefEqProofs only [tg_sI, ln_sI, tg_sL, ln_sL, tg_sR, ln_sR, tg_sC, ln_sC, ai_sI, ai_sL, gL_sI, gR_sI, gI_sL, gR_sL, gI_sR, gL_sR, gI_sI, gL_sL, gR_sR, zlt_e, zln_e, zli_e, zll_e, zbI_e, zbL_e, zbR_e, zbV_e, zeR_e, zeN_s, zeN_n, Nat.reduceEqDiff, and_self, and_true, true_and, and_false, false_and, ite_true, ite_false, reduceIte, tg_176 hS, bad_live h, r_look h]
    rw [if_neg (show ¬ (if s < n then nI (t s) else -1) = (91 : Int32) from fun z => by have := (look_is (s := s) (e := e) (c := 91) h256 (by decide) (by decide)).mp z; omega)]
    simp -implicitDefEqProofs only [tg_sI, ln_sI, tg_sL, ln_sL, tg_sR, ln_sR, tg_sC, ln_sC, ai_sI, ai_sL, gL_sI, gR_sI, gI_sL, gR_sL, gI_sR, gL_sR, gI_sI, gL_sL, gR_sR, zlt_e, zln_e, zli_e, zll_e, zbI_e, zbL_e, zbR_e, zbV_e, zeR_e, zeN_s, zeN_n, Nat.reduceEqDiff, and_self, and_true, true_and, and_false, false_and, ite_true, ite_false, reduceIte, gR_176_33 hS]
    rw [k1]
    simp -implicitDefEqProofs only [tg_sI, ln_sI, tg_sL, ln_sL, tg_sR, ln_sR, tg_sC, ln_sC, ai_sI, ai_sL, gL_sI, gR_sI, gI_sL, gR_sL, gI_sR, gL_sR, gI_sI, gL_sL, gR_sR, zlt_e, zln_e, zli_e, zll_e, zbI_e, zbL_e, zbR_e, zbV_e, zeR_e, zeN_s, zeN_n, Nat.reduceEqDiff, and_self, and_true, true_and, and_false, false_and, ite_true, ite_false, reduceIte, tg_176 hS]
    rw [if_neg (by decide)]
  rw [e1]
  constructor
  · intro h6
    obtain ⟨β2, a1, a2, a3⟩ := o1 h6
    have hS2 := RS_sh a2.1
    have a1 : zM 217 [.ref 176, .int 16, .int (nI s)] (sI β 176 2 (nI s)) = some (none, β2) := a1
    obtain ⟨β3, r1, r2⟩ := r_asks (w := 23) (by decide) a2.1
    have r1 : zM 197 [.ref 176, .ref 201] β2 = some (none, β3) := r1
    have hla : lW t n 23 (.inl (s, e)) = la t n (.inl (s, e)) := by unfold lW; rw [if_pos hw]
    rw [hla] at r2
    refine ⟨some (.int (if s < n then nI (t s) else -1)), β3, ?_, SV_rd a2 rfl (by decide +kernel) r1 r2⟩
    rw [a1]
    simp -implicitDefEqProofs only [tg_sI, ln_sI, tg_sL, ln_sL, tg_sR, ln_sR, tg_sC, ln_sC, ai_sI, ai_sL, gL_sI, gR_sI, gI_sL, gR_sL, gI_sR, gL_sR, gI_sI, gL_sL, gR_sR, zlt_e, zln_e, zli_e, zll_e, zbI_e, zbL_e, zbR_e, zbV_e, zeR_e, zeN_s, zeN_n, Nat.reduceEqDiff, and_self, and_true, true_and, and_false, false_and, ite_true, ite_false, reduceIte, q_X12_test_35, tg_176 hS2, gR_176_33 hS2, r1]
    rfl
  · intro h6
    obtain ⟨β2, a1, a2⟩ := o2 h6
    have hS2 := RS_sh a2.1
    have a1 : zM 217 [.ref 176, .int 16, .int (nI s)] (sI β 176 2 (nI s)) = some (none, β2) := a1
    have a2 : SV t n β β2 (.inr (4, s)) W O L b := a2
    obtain ⟨β3, r1, r2⟩ := r_asks (w := 23) (by decide) a2.1
    have r1 : zM 197 [.ref 176, .ref 201] β2 = some (none, β3) := r1
    rw [lW_dead (fun q => by cases q)] at r2
    have v3 := SV_rd a2 rfl (by decide +kernel) r1 r2
    refine ⟨β3, ?_, SE_of v3⟩
    rw [a1]
    simp -implicitDefEqProofs only [tg_sI, ln_sI, tg_sL, ln_sL, tg_sR, ln_sR, tg_sC, ln_sC, ai_sI, ai_sL, gL_sI, gR_sI, gI_sL, gR_sL, gI_sR, gL_sR, gI_sI, gL_sL, gR_sR, zlt_e, zln_e, zli_e, zll_e, zbI_e, zbL_e, zbR_e, zbV_e, zeR_e, zeN_s, zeN_n, Nat.reduceEqDiff, and_self, and_true, true_and, and_false, false_and, ite_true, ite_false, reduceIte, q_X12_test_35, tg_176 hS2, gR_176_33 hS2, r1]
    exact TL_d (RS_sh r2) (dead_5 r2 (fun q => by cases q)) 1
theorem J_fact (hF : Jfact t n f) (hT : Jtest t n f) : Jfact t n (f + 1) := by
  intro α β s e O b W L u2 hf hC hD hR hQ hO hL hW hd4
  have hS := CS_sh hC
  have h16 := hC.1.2.1
  have hsn : s ≤ n := hC.2.1.1
  have hs : sm W L := sm_of hL hsn h16 hW
  have s1 : zM 105 [.ref 8, .int 24] α = _ := c_atWord hC (w := 24) (by decide)
  have s2 : zM 105 [.ref 8, .int 23] α = _ := c_atWord hC (w := 23) (by decide)
  have s3 : zM 103 [.ref 8, .int 91] α = _ := c_atSign hC (c := 91) (by decide)
  have vl := SV_look (SV_0 hR hQ)
  have r8 : ∀ x, x < 10 → x < 10 + 10 * (7 - O) := fun x hx => by omega
  rw [q_X6_readFact]
  simp -implicitDefEqProofs only [tg_sI, ln_sI, tg_sL, ln_sL, tg_sR, ln_sR, tg_sC, ln_sC, ai_sI, ai_sL, gL_sI, gR_sI, gI_sL, gR_sL, gI_sR, gL_sR, gI_sI, gL_sL, gR_sR, zlt_e, zln_e, zli_e, zll_e, zbI_e, zbL_e, zbR_e, zbV_e, zeR_e, zeN_s, zeN_n, Nat.reduceEqDiff, and_self, and_true, true_and, and_false, false_and, ite_true, ite_false, reduceIte, tg_12 hS, gR_12_0 hS, tg_8 hS, rk58 (show O < 2 ^ 31 by omega), rk60 (show O < 2 ^ 31 by omega), rk105, rk103, rk97, rk53, rk59, bif_lt (r8 1 (by omega)), bif_lt (r8 2 (by omega)), bif_lt (r8 3 (by omega)), bif_lt (show 9 + 10 * (7 - O) < 10 + 10 * (7 - O) by omega), s1, s2, s3, q_X6_readFact_52]
  by_cases q1 : lw t n (.inl (s, e)) = 24
  · have hno := own_not (t := t) (n := n) (s := s) (e := e) (by omega)
    have h5 := own_no5 (t := t) (n := n) (s := s) (e := e) (by omega)
    have hp := la_pos (t := t) (n := n) (s := s) (e := e) h5.1 h5.2
    obtain ⟨α1, a1, a2⟩ := c_advW hC (by omega)
    have z1 := z_tok (CZ_0 hC hD) rfl (by decide +kernel) a1 a2 (fun _ => rfl)
    obtain ⟨α2, p1, p2⟩ := z_put (c := 17) z1 (fun _ => by omega)
    have p1 : zM 53 [.ref 12, .int 1] α1 = some (none, α2) := p1
    obtain ⟨β2, r1, r2, r3, r4⟩ := r_yes (w := 24) (by decide) vl.1 q1
    have r1 : zM 196 [.ref 176, .ref 202] (sI β 176 2 (nI s)) = some (some (.int 1), β2) := r1
    have v2 := SV_rd vl rfl (by decide +kernel) r1 r2
    obtain ⟨β3, c1, c2⟩ := v_code v2 (by omega) 17 (by decide)
    have c1 : zM 216 [.ref 176, .int 17] β2 = some (none, β3) := c1
    rw [if_pos q1, if_neg (by decide), a1]
    simp -implicitDefEqProofs only [tg_sI, ln_sI, tg_sL, ln_sL, tg_sR, ln_sR, tg_sC, ln_sC, ai_sI, ai_sL, gL_sI, gR_sI, gI_sL, gR_sL, gI_sR, gL_sR, gI_sI, gL_sL, gR_sR, zlt_e, zln_e, zli_e, zll_e, zbI_e, zbL_e, zbR_e, zbV_e, zeR_e, zeN_s, zeN_n, Nat.reduceEqDiff, and_self, and_true, true_and, and_false, false_and, ite_true, ite_false, reduceIte, tg_12 (CS_sh a2), p1]
    refine ⟨α2, _, [17], rfl, p2, fun hd => absurd rfl hd, fun _ => ⟨EB_all (by omega), by simp; omega, hp, (if s < n then nI (t s) else -1), β3, ?_, c2⟩⟩
    have hSl := RS_sh vl.1
    rw [tl_head hR (by omega) (by omega), q_X12_fact, tg_176 hSl, if_pos rfl, gR_176_34 hSl]
    simp -implicitDefEqProofs only [tg_sI, ln_sI, tg_sL, ln_sL, tg_sR, ln_sR, tg_sC, ln_sC, ai_sI, ai_sL, gL_sI, gR_sI, gI_sL, gR_sL, gI_sR, gL_sR, gI_sI, gL_sL, gR_sR, zlt_e, zln_e, zli_e, zll_e, zbI_e, zbL_e, zbR_e, zbV_e, zeR_e, zeN_s, zeN_n, Nat.reduceEqDiff, and_self, and_true, true_and, and_false, false_and, ite_true, ite_false, reduceIte]
    rw [r1]
    simp -implicitDefEqProofs only [tg_sI, ln_sI, tg_sL, ln_sL, tg_sR, ln_sR, tg_sC, ln_sC, ai_sI, ai_sL, gL_sI, gR_sI, gI_sL, gR_sL, gI_sR, gL_sR, gI_sI, gL_sL, gR_sR, zlt_e, zln_e, zli_e, zll_e, zbI_e, zbL_e, zbR_e, zbV_e, zeR_e, zeN_s, zeN_n, Nat.reduceEqDiff, and_self, and_true, true_and, and_false, false_and, ite_true, ite_false, reduceIte, tg_176 r4, c1]
    rw [if_neg (by decide)]
    rfl
  rw [if_neg q1, if_pos rfl]
  by_cases q2 : lw t n (.inl (s, e)) = 23
  · have h5 := own_no5 (t := t) (n := n) (s := s) (e := e) (by omega)
    have hp : s < tkS t n s := la_pos (t := t) (n := n) (s := s) (e := e) h5.1 h5.2
    obtain ⟨o1, o2⟩ := tl_not (u2 := u2) hR hQ hs hO q2
    obtain ⟨e1, e2⟩ := c_enter hO hC (.inl (by omega))
    rw [if_pos q2, if_neg (by decide)]
    by_cases h6 : O = 6
    · obtain ⟨α1, a1, a2, a3⟩ := e2 h6
      have a2 : CS α1 t n (.inr (4, s)) := a2
      rw [a1]
      simp -implicitDefEqProofs only [tg_sI, ln_sI, tg_sL, ln_sL, tg_sR, ln_sR, tg_sC, ln_sC, ai_sI, ai_sL, gL_sI, gR_sI, gI_sL, gR_sL, gI_sR, gL_sR, gI_sI, gL_sL, gR_sR, zlt_e, zln_e, zli_e, zll_e, zbI_e, zbL_e, zbR_e, zbV_e, zeR_e, zeN_s, zeN_n, Nat.reduceEqDiff, and_self, and_true, true_and, and_false, false_and, ite_true, ite_false, reduceIte]
      refine ⟨α1, .inr (4, s), [], rfl, ⟨a2, a3.mono (fun r j _ _ q => .inl q), ⟨L.length, by omega, ?_⟩, fun q => by cases q⟩, fun _ => o2 h6, fun q => by cases q⟩
      rw [a3.i (by omega) (by omega) (by omega) (by omega)]; exact hD.1
    · obtain ⟨α1, a1, a2, a3⟩ := e1 (by omega)
      obtain ⟨u2', β1, b1, b2⟩ := o1 (by omega)
      have hD1 : DR α1 L := DR_un hD hS a3 (fun j => by omega) (by omega)
      have z1 : CZ t n α α1 (la t n (.inl (s, e))) L := ⟨a2, a3.mono (fun r j _ _ q => .inl q), ⟨_, hD1.2.1, hD1.1⟩, fun _ => hD1⟩
      obtain ⟨α2, st2, x, d1, d2, d3, d4⟩ := hF α1 β1 _ _ (O + 1) b (W ++ [16]) L u2' (by omega) a2 hD1 b2.1 b2.2.2 (by omega) (by simp; omega) (gD_app hW (by omega)) (fun d h1 h4 => lst_app W 16 d (by omega))
      have z2 := CZ_t z1 d2
      rw [a1, b1]
      simp -implicitDefEqProofs only [tg_sI, ln_sI, tg_sL, ln_sL, tg_sR, ln_sR, tg_sC, ln_sC, ai_sI, ai_sL, gL_sI, gR_sI, gI_sL, gR_sL, gI_sR, gL_sR, gI_sI, gL_sL, gR_sR, zlt_e, zln_e, zli_e, zll_e, zbI_e, zbL_e, zbR_e, zbV_e, zeR_e, zeN_s, zeN_n, Nat.reduceEqDiff, and_self, and_true, true_and, and_false, false_and, ite_true, ite_false, reduceIte, nI_1, rk58 (show O + 1 < 2 ^ 31 by omega), bif_lt (show 10 + 10 * (7 - (O + 1)) < 10 + 10 * (7 - O) by omega), tg_12 (CS_sh a2), d1, q_X6_readFact_26, rk53, bif_lt (r8 1 (by omega)), tg_12 (CS_sh z2.1), q_X6_readFact_52]
      rw [if_neg (by decide)]
      by_cases hl : lL st2 = true
      · obtain ⟨s2, e2', rfl⟩ := lx_live hl
        obtain ⟨f1, f2, f3, l2, β2, f4, f5⟩ := d4 hl
        have f2 : (L ++ x).length + (W ++ [16]).length + 6 ≤ s2 := f2
        have f3 : tkS t n s < s2 := f3
        have hs2n : s2 ≤ n := d2.1.2.1.1
        have hlen : (L ++ x).length < 1600 := by simp at f2 ⊢; omega
        obtain ⟨α3, p1, p2⟩ := z_put (c := 16) z2 (fun _ => hlen)
        have p1 : zM 53 [.ref 12, .int (-12)] α2 = some (none, α3) := p1
        have hsm : sm (W ++ [16]) (L ++ x) := ⟨by omega, gD_app hW (by omega)⟩
        obtain ⟨β3, k1, k2⟩ := te_not (l2 := l2) (SV_t b2 f5) hsm rfl
        rw [p1]
        refine ⟨α3, _, x ++ [16], rfl, CZ_L p2 (fun _ => by simp), fun z => absurd rfl z, fun _ => ⟨EB_mono (EB_not f1) (by omega), ?_, ?_, l2, β3, ?_, ?_⟩⟩
        · show _ ≤ s2
          simp at f2 ⊢
          omega
        · show s < s2
          omega
        · rw [f4, k1]
        · rw [← List.append_assoc]; exact k2
      · obtain ⟨α3, p1, p2⟩ := z_put (c := 16) z2 (fun z => absurd z hl)
        have p1 : zM 53 [.ref 12, .int (-12)] α2 = some (none, α3) := p1
        obtain ⟨β', k1, k2⟩ := d3 hl
        rw [p1]
        exact ⟨α3, st2, [], rfl, CZ_L p2 (fun z => absurd z hl), fun _ => ⟨β', k1, SE_t b2 k2⟩, fun z => absurd z hl⟩
  rw [if_neg q2, if_pos rfl]
  by_cases q3 : ls t n (.inl (s, e)) = 91
  · obtain ⟨hsn', hk3, -⟩ := ls_of (c := 91) (by decide) q3
    have hp : s < tkS t n s := la_pos (t := t) (n := n) (s := s) (e := e) hsn' (by omega)
    obtain ⟨o1, o2⟩ := tl_sq (u2 := u2) hR hQ hs hO q3
    obtain ⟨e1, e2⟩ := c_enter hO hC (.inr (by omega))
    rw [if_pos q3, if_neg (by decide), q_X6_readFact_35]
    simp -implicitDefEqProofs only [rk59, bif_lt (r8 3 (by omega)), tg_12 hS]
    by_cases h6 : O = 6
    · obtain ⟨α1, a1, a2, a3⟩ := e2 h6
      have a2 : CS α1 t n (.inr (4, s)) := a2
      rw [a1]
      simp -implicitDefEqProofs only [tg_sI, ln_sI, tg_sL, ln_sL, tg_sR, ln_sR, tg_sC, ln_sC, ai_sI, ai_sL, gL_sI, gR_sI, gI_sL, gR_sL, gI_sR, gL_sR, gI_sI, gL_sL, gR_sR, zlt_e, zln_e, zli_e, zll_e, zbI_e, zbL_e, zbR_e, zbV_e, zeR_e, zeN_s, zeN_n, Nat.reduceEqDiff, and_self, and_true, true_and, and_false, false_and, ite_true, ite_false, reduceIte, q_X6_readFact_52]
      refine ⟨α1, .inr (4, s), [], rfl, ⟨a2, a3.mono (fun r j _ _ q => .inl q), ⟨L.length, by omega, ?_⟩, fun q => by cases q⟩, fun _ => o2 h6, fun q => by cases q⟩
      rw [a3.i (by omega) (by omega) (by omega) (by omega)]; exact hD.1
    · obtain ⟨α1, a1, a2, a3⟩ := e1 (by omega)
      obtain ⟨u2', β1, b1, b2⟩ := o1 (by omega)
      have hD1 : DR α1 L := DR_un hD hS a3 (fun j => by omega) (by omega)
      have z1 : CZ t n α α1 (la t n (.inl (s, e))) L := ⟨a2, a3.mono (fun r j _ _ q => .inl q), ⟨_, hD1.2.1, hD1.1⟩, fun _ => hD1⟩
      obtain ⟨α2, st2, x, d1, d2, d3, d4⟩ := hT α1 β1 _ _ (O + 1) b (W ++ [25]) L u2' (by omega) a2 hD1 b2.1 b2.2.2 (by omega) (by simp; omega) (gD_app hW (by omega)) (fun d h1 => lst_app W 25 d (by omega))
      have z2 := CZ_t z1 d2
      have hS2 := CS_sh z2.1
      obtain ⟨α3, g1, g2⟩ := c_takeSign z2.1 (c := 93) (by decide)
      have g1 : zM 109 [.ref 8, .int 93] α2 = some (none, α3) := g1
      have z3 := z_tok z2 rfl (by decide +kernel) g1 g2 (fun z => lG_live z)
      rw [a1, b1]
      simp -implicitDefEqProofs only [tg_sI, ln_sI, tg_sL, ln_sL, tg_sR, ln_sR, tg_sC, ln_sC, ai_sI, ai_sL, gL_sI, gR_sI, gI_sL, gR_sL, gI_sR, gL_sR, gI_sI, gL_sL, gR_sR, zlt_e, zln_e, zli_e, zll_e, zbI_e, zbL_e, zbR_e, zbV_e, zeR_e, zeN_s, zeN_n, Nat.reduceEqDiff, and_self, and_true, true_and, and_false, false_and, ite_true, ite_false, reduceIte, nI_1, rk56 (show O + 1 < 2 ^ 31 by omega), rk109, bif_lt (show 12 + 10 * (7 - (O + 1)) < 10 + 10 * (7 - O) by omega), bif_lt (r8 3 (by omega)), tg_12 (CS_sh a2), d1, tg_12 hS2, gR_12_0 hS2, tg_8 hS2, g1, q_X6_readFact_52]
      rw [if_neg (by decide)]
      by_cases hl : lL st2 = true
      · obtain ⟨s2, e2', rfl⟩ := lx_live hl
        obtain ⟨f1, f2, f3, f4, p, L', l2, β2, f5, f6, f7, f8⟩ := d4 hl
        have f2 : (L ++ x).length + (W ++ [25]).length + 6 ≤ s2 := f2
        have f3 : tkS t n s < s2 := f3
        have hs2n : s2 ≤ n := d2.1.2.1.1
        have f6' := SV_t b2 f6
        have hsm : sm (W ++ [25] ++ p.reverse) L' := by
          refine ⟨?_, ?_⟩
          · have := congrArg List.length f7
            simp at this f2 ⊢
            omega
          · have : ∀ (p : List Nat), (∀ x, x ∈ p → x = 14 ∨ x = 15) → ∀ i, (W ++ [25] ++ p.reverse).getD i 0 < 1000 := by
              intro p
              induction p with
              | nil => intro _ i; rw [List.reverse_nil, List.append_nil]; exact gD_app hW (by omega) i
              | cons y r ih =>
                intro hp i
                rw [rev_c]
                have := hp y (by simp)
                exact gD_app (ih (fun z hz => hp z (by simp [hz]))) (by omega) i
            exact this p f8
        rw [f5]
        by_cases l93 : ls t n (.inl (s2, e2')) = 93
        · have hla : lG t n 93 (.inl (s2, e2')) = la t n (.inl (s2, e2')) := by unfold lG; rw [if_pos l93]
          rw [hla] at z3
          obtain ⟨hsn2, hk32, -⟩ := ls_of (c := 93) (by decide) l93
          have hp2 := la_pos (t := t) (n := n) (s := s2) (e := e2') hsn2 (by omega)
          obtain ⟨β3, k1, k2⟩ := td_close (l2 := l2) f6' hsm l93 f8
          rw [f7] at k2
          refine ⟨α3, _, x, rfl, z3, fun z => absurd rfl z, fun _ => ⟨EB_mono f1 (by omega), ?_, by omega, l2, β3, k1, k2⟩⟩
          simp at f2 ⊢
          omega
        · have hla : lG t n 93 (.inl (s2, e2')) = .inr (1, s2) := by unfold lG; rw [if_neg l93]; rfl
          rw [hla] at z3
          obtain ⟨β3, k1, k2⟩ := td_open (l2 := l2) f6' hsm l93 f4 h16
          exact ⟨α3, _, x, rfl, z3, fun _ => ⟨β3, k1, k2⟩, fun q => by cases q⟩
      · rw [lG_dead2 hl] at z3
        obtain ⟨β', k1, k2⟩ := d3 hl
        exact ⟨α3, st2, x, rfl, z3, fun _ => ⟨β', k1, SE_t b2 k2⟩, fun z => absurd z hl⟩
  rw [if_neg q3, if_pos rfl]
  obtain ⟨α1, st1, x, d1, d2, d3, d4⟩ := J_cmp hC hD vl.1 vl.2.2 hO hL hW hd4 q1
  rw [d1]
  simp -implicitDefEqProofs only [tg_sI, ln_sI, tg_sL, ln_sL, tg_sR, ln_sR, tg_sC, ln_sC, ai_sI, ai_sL, gL_sI, gR_sI, gI_sL, gR_sL, gI_sR, gL_sR, gI_sI, gL_sL, gR_sR, zlt_e, zln_e, zli_e, zll_e, zbI_e, zbL_e, zbR_e, zbV_e, zeR_e, zeN_s, zeN_n, Nat.reduceEqDiff, and_self, and_true, true_and, and_false, false_and, ite_true, ite_false, reduceIte]
  refine ⟨α1, st1, x, rfl, d2, fun hd => ?_, fun hv => ?_⟩
  · obtain ⟨β', k1, k2⟩ := d3 hd
    refine ⟨β', ?_, SE_t vl k2⟩
    rw [tl_head hR q3 q2, k1]
    simp -implicitDefEqProofs only [tg_sI, ln_sI, tg_sL, ln_sL, tg_sR, ln_sR, tg_sC, ln_sC, ai_sI, ai_sL, gL_sI, gR_sI, gI_sL, gR_sL, gI_sR, gL_sR, gI_sI, gL_sL, gR_sR, zlt_e, zln_e, zli_e, zll_e, zbI_e, zbL_e, zbR_e, zbV_e, zeR_e, zeN_s, zeN_n, Nat.reduceEqDiff, and_self, and_true, true_and, and_false, false_and, ite_true, ite_false, reduceIte]
    exact TE_d (RS_sh k2.1) (dead_5 k2.1 hd)
  · obtain ⟨f1, f2, f3, β', k1, k2⟩ := d4 hv
    refine ⟨f1, f2, f3, (if s < n then nI (t s) else -1), β', ?_, SV_t vl k2⟩
    rw [tl_head hR q3 q2, k1]
    rfl
end
