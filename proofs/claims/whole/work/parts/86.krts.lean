/-! and, or, tests, both at once -/
def Jboth (t : Nat → Nat) (n f : Nat) : Prop := ∀ (α β : zS) (s e O b : Nat) (W L : List Nat) (u2 : Option Value), n ≤ s + f → CS α t n (.inl (s, e)) → DR α L → RS β t n (.inl (s, e)) → SQ β W O L b → O ≤ 6 → L.length + W.length + 6 ≤ s → (∀ i, W.getD i 0 < 1000) → (∀ d, d ≤ 16 → d ≠ 15 → W.getLast? ≠ some d) →
  ∃ α' st' toks, zM 57 [.ref 12, .int (nI O)] α = some (none, α') ∧ CZ t n α α' st' (L ++ toks) ∧ (¬ lL st' = true → ∃ β', TL 1 u2 β = some (none, β') ∧ SE t n β β' st') ∧ (lL st' = true → EB (5 + 3 * (6 - O)) toks ∧ (L ++ toks).length + W.length + 6 ≤ lp st' ∧ s < lp st' ∧ lw t n st' ≠ 22 ∧ ∃ p L' l2 β', TL 1 u2 β = TB l2 β' ∧ SV t n β β' st' (W ++ p.reverse) O L' b ∧ L' ++ p = L ++ toks ∧ ∀ x, x ∈ p → x = 14)
section
variable {t : Nat → Nat} {n : Nat} {α α' α1 β β0 β' β1 γ : zS} {st st1 : lx} {L W V W0 q p toks : List Nat} {c O b f : Nat} {l2 : Int32} {u1 u2 u3 u4 : Option Value}
theorem gD_revL (hW : ∀ i, W.getD i 0 < 1000) : ∀ (p : List Nat), (∀ x, x ∈ p → x < 1000) → ∀ i, (W ++ p.reverse).getD i 0 < 1000 := by
  intro p
  induction p with
  | nil => intro _ i; rw [List.reverse_nil, List.append_nil]; exact hW i
  | cons x q ih =>
    intro hp i
    rw [rev_c]
    have := hp x (by simp)
    exact gD_app (ih (fun y hy => hp y (by simp [hy]))) (by omega) i
theorem c_bEnd {i : Nat} (hO : O ≤ 6) (hC : CS α1 t n st) (hl : lw t n st ≠ 22) : zR (11 + 10 * (7 - O)) 57 5 [some (.ref 12), some (.int (nI O)), some (.int (nI i))] [] α1 = some (none, α1) := by
  have hS := CS_sh hC
  have s1 : zM 105 [.ref 8, .int 22] α1 = _ := c_atWord hC (w := 22) (by decide)
  rw [if_neg hl] at s1
  rw [q_X6_readBoth_5]
  simp -implicitDefEqProofs only [tg_sI, ln_sI, tg_sL, ln_sL, tg_sR, ln_sR, tg_sC, ln_sC, ai_sI, ai_sL, gL_sI, gR_sI, gI_sL, gR_sL, gI_sR, gL_sR, gI_sI, gL_sL, gR_sR, zlt_e, zln_e, zli_e, zll_e, zbI_e, zbL_e, zbR_e, zbV_e, zeR_e, zeN_s, zeN_n, Nat.reduceEqDiff, and_self, and_true, true_and, and_false, false_and, ite_true, ite_false, reduceIte, rk105, bif_lt (show 2 < 11 + 10 * (7 - O) by omega), tg_12 hS, gR_12_0 hS, tg_8 hS, s1]
  split <;> rfl
theorem c_bMore {i : Nat} (hO : O ≤ 6) (hC : CS α1 t n st) (hl : lw t n st = 22) (hi : i < 1600) (ha : zM 97 [.ref 8] α1 = some (none, α')) (hS' : Sh α') : zR (11 + 10 * (7 - O)) 57 5 [some (.ref 12), some (.int (nI O)), some (.int (nI i))] [] α1 = zbV (zM 58 [.ref 12, .int (nI O)] α') (fun σ1 => if tg σ1 12 = 7 then zbV (zM 53 [.ref 12, .int (cOf 14)] σ1) (fun σ2 => zR (11 + 10 * (7 - O)) 57 5 [some (.ref 12), some (.int (nI O)), some (.int (nI (i + 1)))] [] σ2) else none) := by
  have hS := CS_sh hC
  have s1 : zM 105 [.ref 8, .int 22] α1 = _ := c_atWord hC (w := 22) (by decide)
  rw [if_pos hl] at s1
  rw [q_X6_readBoth_5, if_neg (show ¬ (1600 : Int32) ≤ nI i from nI_ge (b := 1600) hi (by omega))]
  simp -implicitDefEqProofs only [tg_sI, ln_sI, tg_sL, ln_sL, tg_sR, ln_sR, tg_sC, ln_sC, ai_sI, ai_sL, gL_sI, gR_sI, gI_sL, gR_sL, gI_sR, gL_sR, gI_sI, gL_sL, gR_sR, zlt_e, zln_e, zli_e, zll_e, zbI_e, zbL_e, zbR_e, zbV_e, zeR_e, zeN_s, zeN_n, Nat.reduceEqDiff, and_self, and_true, true_and, and_false, false_and, ite_true, ite_false, reduceIte, rk105, rk97, rk53, rk58 (show O < 2 ^ 31 by omega), bif_lt (show 1 < 11 + 10 * (7 - O) by omega), bif_lt (show 2 < 11 + 10 * (7 - O) by omega), bif_lt (show 10 + 10 * (7 - O) < 11 + 10 * (7 - O) by omega), tg_12 hS, gR_12_0 hS, tg_8 hS, s1, q_X6_readBoth_22, ha, tg_12 hS', nI_1]
  rw [if_neg (by decide)]
  rfl
theorem c_tEnd {i : Nat} (hO : O ≤ 6) (hC : CS α1 t n st) (hl : lw t n st ≠ 21) : zR (12 + 10 * (7 - O)) 56 5 [some (.ref 12), some (.int (nI O)), some (.int (nI i))] [] α1 = some (none, α1) := by
  have hS := CS_sh hC
  have s1 : zM 105 [.ref 8, .int 21] α1 = _ := c_atWord hC (w := 21) (by decide)
  rw [if_neg hl] at s1
  rw [q_X6_readTest_5]
  simp -implicitDefEqProofs only [tg_sI, ln_sI, tg_sL, ln_sL, tg_sR, ln_sR, tg_sC, ln_sC, ai_sI, ai_sL, gL_sI, gR_sI, gI_sL, gR_sL, gI_sR, gL_sR, gI_sI, gL_sL, gR_sR, zlt_e, zln_e, zli_e, zll_e, zbI_e, zbL_e, zbR_e, zbV_e, zeR_e, zeN_s, zeN_n, Nat.reduceEqDiff, and_self, and_true, true_and, and_false, false_and, ite_true, ite_false, reduceIte, rk105, bif_lt (show 2 < 12 + 10 * (7 - O) by omega), tg_12 hS, gR_12_0 hS, tg_8 hS, s1]
  split <;> rfl
theorem c_tMore {i : Nat} (hO : O ≤ 6) (hC : CS α1 t n st) (hl : lw t n st = 21) (hi : i < 1600) (ha : zM 97 [.ref 8] α1 = some (none, α')) (hS' : Sh α') : zR (12 + 10 * (7 - O)) 56 5 [some (.ref 12), some (.int (nI O)), some (.int (nI i))] [] α1 = zbV (zM 57 [.ref 12, .int (nI O)] α') (fun σ1 => if tg σ1 12 = 7 then zbV (zM 53 [.ref 12, .int (cOf 15)] σ1) (fun σ2 => zR (12 + 10 * (7 - O)) 56 5 [some (.ref 12), some (.int (nI O)), some (.int (nI (i + 1)))] [] σ2) else none) := by
  have hS := CS_sh hC
  have s1 : zM 105 [.ref 8, .int 21] α1 = _ := c_atWord hC (w := 21) (by decide)
  rw [if_pos hl] at s1
  rw [q_X6_readTest_5, if_neg (show ¬ (1600 : Int32) ≤ nI i from nI_ge (b := 1600) hi (by omega))]
  simp -implicitDefEqProofs only [tg_sI, ln_sI, tg_sL, ln_sL, tg_sR, ln_sR, tg_sC, ln_sC, ai_sI, ai_sL, gL_sI, gR_sI, gI_sL, gR_sL, gI_sR, gL_sR, gI_sI, gL_sL, gR_sR, zlt_e, zln_e, zli_e, zll_e, zbI_e, zbL_e, zbR_e, zbV_e, zeR_e, zeN_s, zeN_n, Nat.reduceEqDiff, and_self, and_true, true_and, and_false, false_and, ite_true, ite_false, reduceIte, rk105, rk97, rk53, rk57 (show O < 2 ^ 31 by omega), bif_lt (show 1 < 12 + 10 * (7 - O) by omega), bif_lt (show 2 < 12 + 10 * (7 - O) by omega), bif_lt (show 11 + 10 * (7 - O) < 12 + 10 * (7 - O) by omega), tg_12 hS, gR_12_0 hS, tg_8 hS, s1, q_X6_readTest_22, ha, tg_12 hS', nI_1]
  rw [if_neg (by decide)]
  rfl
theorem J_bLoop (hP : Jfact t n f) (hO : O ≤ 6) (hd : ∀ d, d ≤ 16 → d ≠ 15 → W.getLast? ≠ some d) (hV : ∀ i, W.getD i 0 < 1000) : ∀ k (α1 β1 : zS) (s e i : Nat) (toks p L' : List Nat) (l2 : Int32), n ≤ s + k → n ≤ s + f → CZ t n α α1 (.inl (s, e)) (L ++ toks) → SV t n β β1 (.inl (s, e)) (W ++ p.reverse) O L' b → L' ++ p = L ++ toks → (∀ x, x ∈ p → x = 14) → EB (5 + 3 * (6 - O)) toks → (L ++ toks).length + W.length + 6 ≤ s → i ≤ s →
    ∃ α' st' toks', zR (11 + 10 * (7 - O)) 57 5 [some (.ref 12), some (.int (nI O)), some (.int (nI i))] [] α1 = some (none, α') ∧ CZ t n α α' st' (L ++ toks') ∧ (¬ lL st' = true → ∃ β', TB l2 β1 = some (none, β') ∧ SE t n β β' st') ∧ (lL st' = true → EB (5 + 3 * (6 - O)) toks' ∧ (L ++ toks').length + W.length + 6 ≤ lp st' ∧ s ≤ lp st' ∧ lw t n st' ≠ 22 ∧ ∃ p L' l2' β', TB l2 β1 = TB l2' β' ∧ SV t n β β' st' (W ++ p.reverse) O L' b ∧ L' ++ p = L ++ toks' ∧ ∀ x, x ∈ p → x = 14) := by
  intro k
  induction k with
  | zero =>
    intro α1 β1 s e i toks p L' l2 hk hf hC hR hLp hp hE hL hi
    have hsn : s ≤ n := hC.1.2.1.1
    have hl : lw t n (.inl (s, e)) ≠ 22 := fun z => by have := own_no5 (t := t) (n := n) (s := s) (e := e) (by omega); omega
    exact ⟨α1, _, toks, c_bEnd hO hC.1 hl, hC, fun hd => absurd rfl hd, fun _ => ⟨hE, hL, Nat.le_refl _, hl, p, L', l2, β1, rfl, hR, hLp, hp⟩⟩
  | succ k ih =>
    intro α1 β1 s e i toks p L' l2 hk hf hC hR hLp hp hE hL hi
    have hsn : s ≤ n := hC.1.2.1.1
    have h16 := hC.1.1.2.1
    by_cases hl : lw t n (.inl (s, e)) = 22
    · have h5 := own_no5 (t := t) (n := n) (s := s) (e := e) (by omega)
      have hp2 : s < tkS t n s := la_pos (t := t) (n := n) (s := s) (e := e) h5.1 h5.2
      have hsm : sm (W ++ p.reverse) L' := by
        refine ⟨?_, gD_revL hV p (fun x hx => by have := hp x hx; omega)⟩
        have := congrArg List.length hLp
        simp at this hL ⊢
        omega
      obtain ⟨α2, a1, a2⟩ := c_advW hC.1 (by omega)
      have z2 := z_tok hC rfl (by decide +kernel) a1 a2 (fun _ => rfl)
      obtain ⟨β2, b1, b2⟩ := td_and (l2 := l2) hR hsm hl (hd 14 (by omega) (by omega)) hp
      rw [hLp] at b2
      obtain ⟨α3, st3, x, d1, d2, d3, d4⟩ := hP α2 β2 _ _ O b (W ++ [14]) (L ++ toks) (some (.int l2)) (by omega) a2 (z2.2.2.2 rfl) b2.1 b2.2.2 hO (by simp at hL ⊢; omega) (gD_app hV (by omega)) (fun d h1 h4 => lst_app W 14 d (by omega))
      have z3 := CZ_t z2 d2
      have hS3 := CS_sh z3.1
      rw [c_bMore hO hC.1 hl (by omega) a1 (CS_sh a2), d1, b1]
      simp -implicitDefEqProofs only [tg_sI, ln_sI, tg_sL, ln_sL, tg_sR, ln_sR, tg_sC, ln_sC, ai_sI, ai_sL, gL_sI, gR_sI, gI_sL, gR_sL, gI_sR, gL_sR, gI_sI, gL_sL, gR_sR, zlt_e, zln_e, zli_e, zll_e, zbI_e, zbL_e, zbR_e, zbV_e, zeR_e, zeN_s, zeN_n, Nat.reduceEqDiff, and_self, and_true, true_and, and_false, false_and, ite_true, ite_false, reduceIte, tg_12 hS3]
      by_cases hv : lL st3 = true
      · obtain ⟨s3, e3, rfl⟩ := lx_live hv
        obtain ⟨f1, f2, f3, l3, β3, f4, f5⟩ := d4 hv
        have f2 : (L ++ toks ++ x).length + (W ++ [14]).length + 6 ≤ s3 := f2
        have f3 : tkS t n s < s3 := f3
        have hs3n : s3 ≤ n := d2.1.2.1.1
        obtain ⟨α4, p1, p2⟩ := z_put (c := 14) z3 (fun _ => by simp at f2 ⊢; omega)
        have f5' := SV_t b2 f5
        have hsm3 : sm (W ++ [14]) (L ++ toks ++ x) := ⟨by omega, gD_app hV (by omega)⟩
        rw [p1, f4, te_td f5' hsm3 rfl (lst_app W 14 16 (by omega))]
        simp -implicitDefEqProofs only [tg_sI, ln_sI, tg_sL, ln_sL, tg_sR, ln_sR, tg_sC, ln_sC, ai_sI, ai_sL, gL_sI, gR_sI, gI_sL, gR_sL, gI_sR, gL_sR, gI_sI, gL_sL, gR_sR, zlt_e, zln_e, zli_e, zll_e, zbI_e, zbL_e, zbR_e, zbV_e, zeR_e, zeN_s, zeN_n, Nat.reduceEqDiff, and_self, and_true, true_and, and_false, false_and, ite_true, ite_false, reduceIte]
        have p2' : CZ t n α α4 (.inl (s3, e3)) (L ++ (toks ++ (x ++ [14]))) := CZ_L p2 (fun _ => by simp)
        obtain ⟨α', st', toks', g1, g2, g3, g4⟩ := ih α4 β3 s3 e3 (i + 1) (toks ++ (x ++ [14])) [14] (L ++ toks ++ x) l3 (by omega) (by omega) p2' (by simpa using f5') (by simp) (fun y hy => by simpa using hy) (EB_bin (h1 := 5 + 3 * (6 - O)) (h2 := 4 + 3 * (6 - O)) hE f1 (.inl rfl) (by omega) (by omega)) (by simp at f2 ⊢; omega) (by omega)
        refine ⟨α', st', toks', g1, g2, g3, fun hv' => ?_⟩
        obtain ⟨k1, k2, k3, k4⟩ := g4 hv'
        exact ⟨k1, k2, by omega, k4⟩
      · obtain ⟨α4, p1, p2⟩ := z_put (c := 14) z3 (fun z => absurd z hv)
        obtain ⟨β', k1, k2⟩ := d3 hv
        have hdx := dead_x (t := t) (n := n) hv
        rw [p1]
        simp -implicitDefEqProofs only [tg_sI, ln_sI, tg_sL, ln_sL, tg_sR, ln_sR, tg_sC, ln_sC, ai_sI, ai_sL, gL_sI, gR_sI, gI_sL, gR_sL, gI_sR, gL_sR, gI_sI, gL_sL, gR_sR, zlt_e, zln_e, zli_e, zll_e, zbI_e, zbL_e, zbR_e, zbV_e, zeR_e, zeN_s, zeN_n, Nat.reduceEqDiff, and_self, and_true, true_and, and_false, false_and, ite_true, ite_false, reduceIte]
        rw [c_bEnd hO p2.1 (by omega)]
        exact ⟨α4, st3, [], rfl, CZ_L p2 (fun z => absurd z hv), fun _ => ⟨β', k1, SE_t b2 k2⟩, fun z => absurd z hv⟩
    · exact ⟨α1, _, toks, c_bEnd hO hC.1 hl, hC, fun hd => absurd rfl hd, fun _ => ⟨hE, hL, Nat.le_refl _, hl, p, L', l2, β1, rfl, hR, hLp, hp⟩⟩
theorem J_both (hP : Jfact t n f) : Jboth t n f := by
  intro α β s e O b W L u2 hf hC hD hR hQ hO hL hV hd
  have hS := CS_sh hC
  have h16 := hC.1.2.1
  have hsn : s ≤ n := hC.2.1.1
  obtain ⟨α1, st1, x, d1, d2, d3, d4⟩ := hP α β s e O b W L u2 hf hC hD hR hQ hO hL hV (fun d h1 h4 => hd d (by omega) (by omega))
  rw [q_X6_readBoth]
  simp -implicitDefEqProofs only [tg_sI, ln_sI, tg_sL, ln_sL, tg_sR, ln_sR, tg_sC, ln_sC, ai_sI, ai_sL, gL_sI, gR_sI, gI_sL, gR_sL, gI_sR, gL_sR, gI_sI, gL_sL, gR_sR, zlt_e, zln_e, zli_e, zll_e, zbI_e, zbL_e, zbR_e, zbV_e, zeR_e, zeN_s, zeN_n, Nat.reduceEqDiff, and_self, and_true, true_and, and_false, false_and, ite_true, ite_false, reduceIte, tg_12 hS, rk57 (show O < 2 ^ 31 by omega), rk58 (show O < 2 ^ 31 by omega), bif_lt (show 10 + 10 * (7 - O) < 11 + 10 * (7 - O) by omega), d1]
  by_cases hv : lL st1 = true
  · obtain ⟨s1, e1, rfl⟩ := lx_live hv
    obtain ⟨f1, f2, f3, l2, β1, f4, f5⟩ := d4 hv
    have f3 : s < s1 := f3
    have f2 : (L ++ x).length + W.length + 6 ≤ s1 := f2
    have hs1n : s1 ≤ n := d2.1.2.1.1
    have hsm : sm W (L ++ x) := sm_of f2 hs1n h16 hV
    obtain ⟨α', st', toks', g1, g2, g3, g4⟩ := J_bLoop hP hO hd hV n α1 β1 s1 e1 0 x [] (L ++ x) l2 (by omega) (by omega) d2 (by simpa using f5) (by simp) (fun y hy => by simp at hy) (EB_mono f1 (by omega)) f2 (by omega)
    have g1 : zR (11 + 10 * (7 - O)) 57 5 [some (.ref 12), some (.int (nI O)), some (.int 0)] [] α1 = some (none, α') := g1
    rw [g1, f4, te_td f5 hsm rfl (hd 16 (by omega) (by omega))]
    refine ⟨α', st', toks', rfl, g2, g3, fun hv' => ?_⟩
    obtain ⟨k1, k2, k3, k4⟩ := g4 hv'
    exact ⟨k1, k2, by omega, k4⟩
  · have hdx := dead_x (t := t) (n := n) hv
    have g1 := c_bEnd (i := 0) hO d2.1 (by omega)
    have g1 : zR (11 + 10 * (7 - O)) 57 5 [some (.ref 12), some (.int (nI O)), some (.int 0)] [] α1 = some (none, α1) := g1
    rw [g1]
    exact ⟨α1, st1, x, rfl, d2, d3, fun z => absurd z hv⟩
theorem J_tLoop (hP : Jboth t n f) (hO : O ≤ 6) (hd : ∀ d, d ≤ 16 → W.getLast? ≠ some d) (hV : ∀ i, W.getD i 0 < 1000) : ∀ k (α1 β1 : zS) (s e i : Nat) (toks p L' : List Nat) (l2 : Int32), n ≤ s + k → n ≤ s + f → CZ t n α α1 (.inl (s, e)) (L ++ toks) → SV t n β β1 (.inl (s, e)) (W ++ p.reverse) O L' b → L' ++ p = L ++ toks → (∀ x, x ∈ p → x = 14 ∨ x = 15) → EB (6 + 3 * (6 - O)) toks → (L ++ toks).length + W.length + 6 ≤ s → i ≤ s → lw t n (.inl (s, e)) ≠ 22 →
    ∃ α' st' toks', zR (12 + 10 * (7 - O)) 56 5 [some (.ref 12), some (.int (nI O)), some (.int (nI i))] [] α1 = some (none, α') ∧ CZ t n α α' st' (L ++ toks') ∧ (¬ lL st' = true → ∃ β', TB l2 β1 = some (none, β') ∧ SE t n β β' st') ∧ (lL st' = true → EB (6 + 3 * (6 - O)) toks' ∧ (L ++ toks').length + W.length + 6 ≤ lp st' ∧ s ≤ lp st' ∧ (lw t n st' ≠ 21 ∧ lw t n st' ≠ 22) ∧ ∃ p L' l2' β', TB l2 β1 = TB l2' β' ∧ SV t n β β' st' (W ++ p.reverse) O L' b ∧ L' ++ p = L ++ toks' ∧ ∀ x, x ∈ p → x = 14 ∨ x = 15) := by
  intro k
  induction k with
  | zero =>
    intro α1 β1 s e i toks p L' l2 hk hf hC hR hLp hp hE hL hi h22
    have hsn : s ≤ n := hC.1.2.1.1
    have hl : lw t n (.inl (s, e)) ≠ 21 := fun z => by have := own_no5 (t := t) (n := n) (s := s) (e := e) (by omega); omega
    exact ⟨α1, _, toks, c_tEnd hO hC.1 hl, hC, fun hd => absurd rfl hd, fun _ => ⟨hE, hL, Nat.le_refl _, ⟨hl, h22⟩, p, L', l2, β1, rfl, hR, hLp, hp⟩⟩
  | succ k ih =>
    intro α1 β1 s e i toks p L' l2 hk hf hC hR hLp hp hE hL hi h22
    have hsn : s ≤ n := hC.1.2.1.1
    have h16 := hC.1.1.2.1
    by_cases hl : lw t n (.inl (s, e)) = 21
    · have h5 := own_no5 (t := t) (n := n) (s := s) (e := e) (by omega)
      have hp2 : s < tkS t n s := la_pos (t := t) (n := n) (s := s) (e := e) h5.1 h5.2
      have hsm : sm (W ++ p.reverse) L' := by
        refine ⟨?_, gD_revL hV p (fun x hx => by have := hp x hx; omega)⟩
        have := congrArg List.length hLp
        simp at this hL ⊢
        omega
      obtain ⟨α2, a1, a2⟩ := c_advW hC.1 (by omega)
      have z2 := z_tok hC rfl (by decide +kernel) a1 a2 (fun _ => rfl)
      obtain ⟨β2, b1, b2⟩ := td_or (l2 := l2) hR hsm hl (hd 14 (by omega)) (hd 15 (by omega)) hp
      rw [hLp] at b2
      obtain ⟨α3, st3, x, d1, d2, d3, d4⟩ := hP α2 β2 _ _ O b (W ++ [15]) (L ++ toks) (some (.int l2)) (by omega) a2 (z2.2.2.2 rfl) b2.1 b2.2.2 hO (by simp at hL ⊢; omega) (gD_app hV (by omega)) (fun d h1 h4 => lst_app W 15 d (by omega))
      have z3 := CZ_t z2 d2
      have hS3 := CS_sh z3.1
      rw [c_tMore hO hC.1 hl (by omega) a1 (CS_sh a2), d1, b1]
      simp -implicitDefEqProofs only [tg_sI, ln_sI, tg_sL, ln_sL, tg_sR, ln_sR, tg_sC, ln_sC, ai_sI, ai_sL, gL_sI, gR_sI, gI_sL, gR_sL, gI_sR, gL_sR, gI_sI, gL_sL, gR_sR, zlt_e, zln_e, zli_e, zll_e, zbI_e, zbL_e, zbR_e, zbV_e, zeR_e, zeN_s, zeN_n, Nat.reduceEqDiff, and_self, and_true, true_and, and_false, false_and, ite_true, ite_false, reduceIte, tg_12 hS3]
      by_cases hv : lL st3 = true
      · obtain ⟨s3, e3, rfl⟩ := lx_live hv
        obtain ⟨f1, f2, f3, f3', p3, L3, l3, β3, f4, f5, f6, f7⟩ := d4 hv
        have f2 : (L ++ toks ++ x).length + (W ++ [15]).length + 6 ≤ s3 := f2
        have f3 : tkS t n s < s3 := f3
        have hs3n : s3 ≤ n := d2.1.2.1.1
        obtain ⟨α4, p1, p2⟩ := z_put (c := 15) z3 (fun _ => by simp at f2 ⊢; omega)
        have f5' := SV_t b2 f5
        have e5 : W ++ [15] ++ p3.reverse = W ++ (p3 ++ [15]).reverse := by simp
        rw [e5] at f5'
        rw [p1, f4]
        simp -implicitDefEqProofs only [tg_sI, ln_sI, tg_sL, ln_sL, tg_sR, ln_sR, tg_sC, ln_sC, ai_sI, ai_sL, gL_sI, gR_sI, gI_sL, gR_sL, gI_sR, gL_sR, gI_sI, gL_sL, gR_sR, zlt_e, zln_e, zli_e, zll_e, zbI_e, zbL_e, zbR_e, zbV_e, zeR_e, zeN_s, zeN_n, Nat.reduceEqDiff, and_self, and_true, true_and, and_false, false_and, ite_true, ite_false, reduceIte]
        have p2' : CZ t n α α4 (.inl (s3, e3)) (L ++ (toks ++ (x ++ [15]))) := CZ_L p2 (fun _ => by simp)
        obtain ⟨α', st', toks', g1, g2, g3, g4⟩ := ih α4 β3 s3 e3 (i + 1) (toks ++ (x ++ [15])) (p3 ++ [15]) L3 l3 (by omega) (by omega) p2' f5' (by rw [← List.append_assoc, f6]; simp) (fun y hy => by
          rcases List.mem_append.mp hy with z | z
          · have := f7 y z; omega
          · have : y = 15 := by simpa using z
            omega) (EB_bin (h1 := 6 + 3 * (6 - O)) (h2 := 5 + 3 * (6 - O)) hE f1 (.inr rfl) (by omega) (by omega)) (by simp at f2 ⊢; omega) (by omega) f3'
        refine ⟨α', st', toks', g1, g2, g3, fun hv' => ?_⟩
        obtain ⟨k1, k2, k3, k4⟩ := g4 hv'
        exact ⟨k1, k2, by omega, k4⟩
      · obtain ⟨α4, p1, p2⟩ := z_put (c := 15) z3 (fun z => absurd z hv)
        obtain ⟨β', k1, k2⟩ := d3 hv
        have hdx := dead_x (t := t) (n := n) hv
        rw [p1]
        simp -implicitDefEqProofs only [tg_sI, ln_sI, tg_sL, ln_sL, tg_sR, ln_sR, tg_sC, ln_sC, ai_sI, ai_sL, gL_sI, gR_sI, gI_sL, gR_sL, gI_sR, gL_sR, gI_sI, gL_sL, gR_sR, zlt_e, zln_e, zli_e, zll_e, zbI_e, zbL_e, zbR_e, zbV_e, zeR_e, zeN_s, zeN_n, Nat.reduceEqDiff, and_self, and_true, true_and, and_false, false_and, ite_true, ite_false, reduceIte]
        rw [c_tEnd hO p2.1 (by omega)]
        exact ⟨α4, st3, [], rfl, CZ_L p2 (fun z => absurd z hv), fun _ => ⟨β', k1, SE_t b2 k2⟩, fun z => absurd z hv⟩
    · exact ⟨α1, _, toks, c_tEnd hO hC.1 hl, hC, fun hd => absurd rfl hd, fun _ => ⟨hE, hL, Nat.le_refl _, ⟨hl, h22⟩, p, L', l2, β1, rfl, hR, hLp, hp⟩⟩
theorem J_test (hP : Jboth t n f) : Jtest t n f := by
  intro α β s e O b W L u2 hf hC hD hR hQ hO hL hV hd
  have hS := CS_sh hC
  have h16 := hC.1.2.1
  have hsn : s ≤ n := hC.2.1.1
  obtain ⟨α1, st1, x, d1, d2, d3, d4⟩ := hP α β s e O b W L u2 hf hC hD hR hQ hO hL hV (fun d h1 h4 => hd d (by omega))
  rw [q_X6_readTest]
  simp -implicitDefEqProofs only [tg_sI, ln_sI, tg_sL, ln_sL, tg_sR, ln_sR, tg_sC, ln_sC, ai_sI, ai_sL, gL_sI, gR_sI, gI_sL, gR_sL, gI_sR, gL_sR, gI_sI, gL_sL, gR_sR, zlt_e, zln_e, zli_e, zll_e, zbI_e, zbL_e, zbR_e, zbV_e, zeR_e, zeN_s, zeN_n, Nat.reduceEqDiff, and_self, and_true, true_and, and_false, false_and, ite_true, ite_false, reduceIte, tg_12 hS, rk56 (show O < 2 ^ 31 by omega), rk57 (show O < 2 ^ 31 by omega), bif_lt (show 11 + 10 * (7 - O) < 12 + 10 * (7 - O) by omega), d1]
  by_cases hv : lL st1 = true
  · obtain ⟨s1, e1, rfl⟩ := lx_live hv
    obtain ⟨f1, f2, f3, f3', p1, L1, l2, β1, f4, f5, f6, f7⟩ := d4 hv
    have f3 : s < s1 := f3
    have f2 : (L ++ x).length + W.length + 6 ≤ s1 := f2
    obtain ⟨α', st', toks', g1, g2, g3, g4⟩ := J_tLoop hP hO hd hV n α1 β1 s1 e1 0 x p1 L1 l2 (by omega) (by omega) d2 f5 f6 (fun y hy => by have := f7 y hy; omega) (EB_mono f1 (by omega)) f2 (by omega) f3'
    have g1 : zR (12 + 10 * (7 - O)) 56 5 [some (.ref 12), some (.int (nI O)), some (.int 0)] [] α1 = some (none, α') := g1
    rw [g1, f4]
    refine ⟨α', st', toks', rfl, g2, g3, fun hv' => ?_⟩
    obtain ⟨k1, k2, k3, k4⟩ := g4 hv'
    exact ⟨k1, k2, by omega, k4⟩
  · have hdx := dead_x (t := t) (n := n) hv
    have g1 := c_tEnd (i := 0) hO d2.1 (by omega)
    have g1 : zR (12 + 10 * (7 - O)) 56 5 [some (.ref 12), some (.int (nI O)), some (.int 0)] [] α1 = some (none, α1) := g1
    rw [g1]
    exact ⟨α1, st1, x, rfl, d2, d3, fun z => absurd z hv⟩
theorem J_all : ∀ f, Jfact t n f ∧ Jtest t n f
  | 0 => by
    have hF : Jfact t n 0 := by
      intro α β s e O b W L u2 hf hC hD hR hQ hO hL hW hd4
      have hS := CS_sh hC
      have h16 := hC.1.2.1
      have hsn : s ≤ n := hC.2.1.1
      have hns : ¬ s < n := by omega
      have hl : ls t n (.inl (s, e)) = 256 := sgT_no (by omega)
      have hw : lw t n (.inl (s, e)) = 35 := by
        show owT t n s e = 35
        unfold owT owC
        simp [hns]
      have s1 : zM 105 [.ref 8, .int 24] α = _ := c_atWord hC (w := 24) (by decide)
      have s2 : zM 105 [.ref 8, .int 23] α = _ := c_atWord hC (w := 23) (by decide)
      have s3 : zM 103 [.ref 8, .int 91] α = _ := c_atSign hC (c := 91) (by decide)
      rw [hw, if_neg (by decide)] at s1 s2
      rw [hl, if_neg (by decide)] at s3
      have vl := SV_look (SV_0 hR hQ)
      obtain ⟨α1, st1, x, d1, d2, d3, d4⟩ := J_cmp hC hD vl.1 vl.2.2 hO hL hW hd4 (by omega)
      rw [q_X6_readFact]
      simp -implicitDefEqProofs only [tg_sI, ln_sI, tg_sL, ln_sL, tg_sR, ln_sR, tg_sC, ln_sC, ai_sI, ai_sL, gL_sI, gR_sI, gI_sL, gR_sL, gI_sR, gL_sR, gI_sI, gL_sL, gR_sR, zlt_e, zln_e, zli_e, zll_e, zbI_e, zbL_e, zbR_e, zbV_e, zeR_e, zeN_s, zeN_n, Nat.reduceEqDiff, and_self, and_true, true_and, and_false, false_and, ite_true, ite_false, reduceIte, tg_12 hS, gR_12_0 hS, tg_8 hS, rk58 (show O < 2 ^ 31 by omega), rk60 (show O < 2 ^ 31 by omega), rk105, rk103, bif_lt (show 1 < 10 + 10 * (7 - O) by omega), bif_lt (show 2 < 10 + 10 * (7 - O) by omega), bif_lt (show 9 + 10 * (7 - O) < 10 + 10 * (7 - O) by omega), s1, s2, s3, d1, q_X6_readFact_52]
      refine ⟨α1, st1, x, rfl, d2, fun hd => ?_, fun hv => ?_⟩
      · obtain ⟨β', k1, k2⟩ := d3 hd
        refine ⟨β', ?_, SE_t vl k2⟩
        rw [tl_head hR (by omega) (by omega), k1]
        simp -implicitDefEqProofs only [tg_sI, ln_sI, tg_sL, ln_sL, tg_sR, ln_sR, tg_sC, ln_sC, ai_sI, ai_sL, gL_sI, gR_sI, gI_sL, gR_sL, gI_sR, gL_sR, gI_sI, gL_sL, gR_sR, zlt_e, zln_e, zli_e, zll_e, zbI_e, zbL_e, zbR_e, zbV_e, zeR_e, zeN_s, zeN_n, Nat.reduceEqDiff, and_self, and_true, true_and, and_false, false_and, ite_true, ite_false, reduceIte]
        exact TE_d (RS_sh k2.1) (dead_5 k2.1 hd)
      · obtain ⟨f1, f2, f3, -⟩ := d4 hv
        have : lp st1 ≤ n := by
          obtain ⟨s', e', rfl⟩ := lx_live hv
          exact d2.1.2.1.1
        omega
    exact ⟨hF, J_test (J_both hF)⟩
  | f + 1 => by
    have h := J_all f
    have hF := J_fact h.1 h.2
    exact ⟨hF, J_test (J_both hF)⟩
end
