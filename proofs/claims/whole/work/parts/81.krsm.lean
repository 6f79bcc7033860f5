/-! sums, both at once -/
section
variable {t : Nat → Nat} {n : Nat} {α α' α1 β β0 β' β1 γ : zS} {st st1 : lx} {L W V W0 q p toks : List Nat} {c O b f κ : Nat} {was : Int32} {u1 u2 u3 u4 : Option Value}
theorem c_sEnd {i : Nat} (hO : O ≤ 6) (hC : CS α1 t n st) (hl : ls t n st ≠ 43 ∧ ls t n st ≠ 45) (hi : i < 2 ^ 31) : zR (8 + 10 * (7 - O)) 61 5 [some (.ref 12), some (.int (nI O)), some (.int (nI i)), u3] [] α1 = some (none, α1) := by
  have hS := CS_sh hC
  have s1 : zM 103 [.ref 8, .int 43] α1 = _ := c_atSign hC (c := 43) (by decide)
  have s2 : zM 103 [.ref 8, .int 45] α1 = _ := c_atSign hC (c := 45) (by decide)
  rw [if_neg hl.1] at s1
  rw [if_neg hl.2] at s2
  rw [q_X6_readSum_5]
  simp -implicitDefEqProofs only [tg_sI, ln_sI, tg_sL, ln_sL, tg_sR, ln_sR, tg_sC, ln_sC, ai_sI, ai_sL, gL_sI, gR_sI, gI_sL, gR_sL, gI_sR, gL_sR, gI_sI, gL_sL, gR_sR, zlt_e, zln_e, zli_e, zll_e, zbI_e, zbL_e, zbR_e, zbV_e, zeR_e, zeN_s, zeN_n, Nat.reduceEqDiff, and_self, and_true, true_and, and_false, false_and, ite_true, ite_false, reduceIte, rk103, bif_lt (show 1 < 8 + 10 * (7 - O) by omega), tg_12 hS, gR_12_0 hS, tg_8 hS, s1, s2]
  split <;> rfl
theorem c_sMore {i : Nat} (hO : O ≤ 6) (hC : CS α1 t n st) (hl : ls t n st = 43 ∨ ls t n st = 45) (hi : i < 1600) (ha : zM 97 [.ref 8] α1 = some (none, α')) (hS' : Sh α') : zR (8 + 10 * (7 - O)) 61 5 [some (.ref 12), some (.int (nI O)), some (.int (nI i)), u3] [] α1 = zbV (zM 62 [.ref 12, .int (nI O)] α') (fun σ1 => if tg σ1 12 = 7 then zbV (zM 53 [.ref 12, .int (cOf (if ls t n st = 43 then 1 else 2))] σ1) (fun σ2 => zR (8 + 10 * (7 - O)) 61 5 [some (.ref 12), some (.int (nI O)), some (.int (nI (i + 1))), some (.int (cOf (if ls t n st = 43 then 1 else 2)))] [] σ2) else none) := by
  have hS := CS_sh hC
  have s1 : zM 103 [.ref 8, .int 43] α1 = _ := c_atSign hC (c := 43) (by decide)
  have s2 : zM 103 [.ref 8, .int 45] α1 = _ := c_atSign hC (c := 45) (by decide)
  rw [q_X6_readSum_5, if_neg (show ¬ (1600 : Int32) ≤ nI i from nI_ge (b := 1600) hi (by omega))]
  simp -implicitDefEqProofs only [tg_sI, ln_sI, tg_sL, ln_sL, tg_sR, ln_sR, tg_sC, ln_sC, ai_sI, ai_sL, gL_sI, gR_sI, gI_sL, gR_sL, gI_sR, gL_sR, gI_sI, gL_sL, gR_sR, zlt_e, zln_e, zli_e, zll_e, zbI_e, zbL_e, zbR_e, zbV_e, zeR_e, zeN_s, zeN_n, Nat.reduceEqDiff, and_self, and_true, true_and, and_false, false_and, ite_true, ite_false, reduceIte, rk103, rk97, rk53, rk62 (show O < 2 ^ 31 by omega), bif_lt (show 1 < 8 + 10 * (7 - O) by omega), bif_lt (show 2 < 8 + 10 * (7 - O) by omega), bif_lt (show 7 + 10 * (7 - O) < 8 + 10 * (7 - O) by omega), tg_12 hS, gR_12_0 hS, tg_8 hS, s1, s2, q_X6_readSum_23, q_X6_readSum_25, q_X6_readSum_30, ha, tg_12 hS', nI_1]
  rcases hl with q | q
  · rw [if_pos q, if_neg (by decide)]
    simp only [q, if_true]
    rfl
  · have q2 : ¬ ls t n st = 43 := by omega
    rw [if_neg q2]
    simp only [q, if_true, ite_true, if_neg q2, show ¬ (45 = 43) by decide, if_false]
    rfl
theorem J_sLoop (hκ : 6 ≤ κ) (hP : Jprod t n f κ) (hO : O ≤ 6) (hWb : W.length = b ∨ ∃ W1 m, W = W1 ++ [m] ∧ isM m ∧ b ≤ W1.length) (hd4 : ∀ d, 1 ≤ d → d ≤ 4 → W.getLast? ≠ some d) (hV : ∀ i, W.getD i 0 < 1000) : ∀ k (α1 β1 : zS) (s e i : Nat) (toks p L' : List Nat) (u1 u3 : Option Value), n ≤ s + k → n ≤ s + f → CZ t n α α1 (.inl (s, e)) (L ++ toks) → SV t n β β1 (.inl (s, e)) (W ++ p.reverse) O L' b → L' ++ p = L ++ toks → (∀ x, x ∈ p → 1 ≤ x ∧ x ≤ 4) → EN (3 + 3 * (6 - O)) toks → (L ++ toks).length + W.length + κ ≤ s → i ≤ s → (ls t n (.inl (s, e)) ≠ 42 ∧ ls t n (.inl (s, e)) ≠ 47) →
    ∃ α' st' toks', zR (8 + 10 * (7 - O)) 61 5 [some (.ref 12), some (.int (nI O)), some (.int (nI i)), u3] [] α1 = some (none, α') ∧ CZ t n α α' st' (L ++ toks') ∧ (¬ lL st' = true → ∃ β', KB was u1 β1 = some (none, β') ∧ SD t n β β' st') ∧ (lL st' = true → EN (3 + 3 * (6 - O)) toks' ∧ (L ++ toks').length + W.length + κ ≤ lp st' ∧ s ≤ lp st' ∧ (ls t n st' ≠ 42 ∧ ls t n st' ≠ 47 ∧ ls t n st' ≠ 43 ∧ ls t n st' ≠ 45) ∧ ∃ p L' u1' β', KB was u1 β1 = KB was u1' β' ∧ SV t n β β' st' (W ++ p.reverse) O L' b ∧ L' ++ p = L ++ toks' ∧ ∀ x, x ∈ p → 1 ≤ x ∧ x ≤ 4) := by
  intro k
  induction k with
  | zero =>
    intro α1 β1 s e i toks p L' u1 u3 hk hf hC hR hLp hp hE hL hi hl4
    have hsn : s ≤ n := hC.1.2.1.1
    have h16 := hC.1.1.2.1
    have hl : ls t n (.inl (s, e)) = 256 := sgT_no (by omega)
    exact ⟨α1, _, toks, c_sEnd hO hC.1 (by omega) (by omega), hC, fun hd => absurd rfl hd, fun _ => ⟨hE, hL, Nat.le_refl _, by omega, p, L', u1, β1, rfl, hR, hLp, hp⟩⟩
  | succ k ih =>
    intro α1 β1 s e i toks p L' u1 u3 hk hf hC hR hLp hp hE hL hi hl4
    have hsn : s ≤ n := hC.1.2.1.1
    have h16 := hC.1.1.2.1
    by_cases hl : ls t n (.inl (s, e)) = 43 ∨ ls t n (.inl (s, e)) = 45
    · obtain ⟨hs', hk3, -⟩ := ls_of (t := t) (n := n) (s := s) (e := e) (c := ls t n (.inl (s, e))) (by omega) rfl
      have hp2 : s < tkS t n s := la_pos (t := t) (n := n) (s := s) (e := e) hs' (by omega)
      have hsm : sm (W ++ p.reverse) L' := by
        refine ⟨?_, gD_rev hV p hp⟩
        have := congrArg List.length hLp
        simp at this hL ⊢
        omega
      obtain ⟨α2, a1, a2⟩ := c_advS hC.1 (by omega)
      have z2 := z_tok hC rfl (by decide +kernel) a1 a2 (fun _ => rfl)
      obtain ⟨mk, hmk⟩ := v_mark_any hWb (SV_look hR) hsm (fun x hx => by have := hp x hx; omega)
      obtain ⟨β2, b1, b2⟩ := kb_add (was := was) (u1 := u1) hR hsm hmk hl hd4 hp
      rw [hLp] at b2
      have hop : ∀ y, y ∈ [if ls t n (.inl (s, e)) = 43 then 1 else 2] → y = 1 ∨ y = 2 := fun y hy => by
        have : y = if ls t n (.inl (s, e)) = 43 then 1 else 2 := by simpa using hy
        rw [this]; split <;> omega
      have hop2 : (if ls t n (.inl (s, e)) = 43 then 1 else 2) = 1 ∨ (if ls t n (.inl (s, e)) = 43 then 1 else 2) = 2 := by split <;> omega
      generalize hopd : (if ls t n (.inl (s, e)) = 43 then 1 else 2) = op at *
      obtain ⟨α3, st3, x, d1, d2, d3, d4⟩ := hP α2 β2 _ _ O b W [op] (L ++ toks) was none none none (by omega) a2 (z2.2.2.2 rfl) b2.1 (by simpa using b2.2.2) hO (by simp at hL ⊢; omega) (by simpa using gD_app hV (x := op) (by omega)) hWb (fun y hy => by have := hop y hy; omega) (by simpa using (by omega : op ≠ 3)) (by simpa using (by omega : op ≠ 4))
      have z3 := CZ_t z2 d2
      have hS3 := CS_sh z3.1
      rw [c_sMore hO hC.1 hl (by omega) a1 (CS_sh a2), d1, b1, hopd]
      simp -implicitDefEqProofs only [tg_sI, ln_sI, tg_sL, ln_sL, tg_sR, ln_sR, tg_sC, ln_sC, ai_sI, ai_sL, gL_sI, gR_sI, gI_sL, gR_sL, gI_sR, gL_sR, gI_sI, gL_sL, gR_sR, zlt_e, zln_e, zli_e, zll_e, zbI_e, zbL_e, zbR_e, zbV_e, zeR_e, zeN_s, zeN_n, Nat.reduceEqDiff, and_self, and_true, true_and, and_false, false_and, ite_true, ite_false, reduceIte, tg_12 hS3]
      by_cases hv : lL st3 = true
      · obtain ⟨s3, e3, rfl⟩ := lx_live hv
        obtain ⟨f1, f2, f3, f3', p3, L3, u1', β3, f4, f5, f6, f7⟩ := d4 hv
        have f2 : (L ++ toks ++ x).length + (W ++ [op].reverse).length + κ ≤ s3 := f2
        have f3 : tkS t n s < s3 := f3
        have hs3n : s3 ≤ n := d2.1.2.1.1
        obtain ⟨α4, p1, p2⟩ := z_put (c := op) z3 (fun _ => by simp at f2 ⊢; omega)
        rw [p1, f4]
        simp -implicitDefEqProofs only [tg_sI, ln_sI, tg_sL, ln_sL, tg_sR, ln_sR, tg_sC, ln_sC, ai_sI, ai_sL, gL_sI, gR_sI, gI_sL, gR_sL, gI_sR, gL_sR, gI_sI, gL_sL, gR_sR, zlt_e, zln_e, zli_e, zll_e, zbI_e, zbL_e, zbR_e, zbV_e, zeR_e, zeN_s, zeN_n, Nat.reduceEqDiff, and_self, and_true, true_and, and_false, false_and, ite_true, ite_false, reduceIte]
        have p2' : CZ t n α α4 (.inl (s3, e3)) (L ++ (toks ++ (x ++ [op]))) := CZ_L p2 (fun _ => by simp)
        have f5' := SV_t b2 f5
        rw [rev_app] at f5'
        obtain ⟨α', st', toks', g1, g2, g3, g4⟩ := ih α4 β3 s3 e3 (i + 1) (toks ++ (x ++ [op])) (p3 ++ [op]) L3 u1' (some (.int (cOf op))) (by omega) (by omega) p2' f5' (by rw [← List.append_assoc, f6]; simp) (fun y hy => by
          rcases List.mem_append.mp hy with z | z
          · have := f7 y z; omega
          · have := hop y z; omega) (EN_bin (h1 := 3 + 3 * (6 - O)) (h2 := 2 + 3 * (6 - O)) hE f1 (by omega) (by omega) (by omega)) (by simp at f2 ⊢; omega) (by omega) f3'
        refine ⟨α', st', toks', g1, g2, g3, fun hv' => ?_⟩
        obtain ⟨k1, k2, k3, k4⟩ := g4 hv'
        exact ⟨k1, k2, by omega, k4⟩
      · obtain ⟨α4, p1, p2⟩ := z_put (c := op) z3 (fun z => absurd z hv)
        obtain ⟨β', k1, k2⟩ := d3 hv
        have hdx := dead_x (t := t) (n := n) hv
        rw [p1]
        simp -implicitDefEqProofs only [tg_sI, ln_sI, tg_sL, ln_sL, tg_sR, ln_sR, tg_sC, ln_sC, ai_sI, ai_sL, gL_sI, gR_sI, gI_sL, gR_sL, gI_sR, gL_sR, gI_sI, gL_sL, gR_sR, zlt_e, zln_e, zli_e, zll_e, zbI_e, zbL_e, zbR_e, zbV_e, zeR_e, zeN_s, zeN_n, Nat.reduceEqDiff, and_self, and_true, true_and, and_false, false_and, ite_true, ite_false, reduceIte]
        rw [c_sEnd hO p2.1 (by omega) (by omega)]
        exact ⟨α4, st3, [], rfl, CZ_L p2 (fun z => absurd z hv), fun _ => ⟨β', k1, SD_t b2 k2⟩, fun z => absurd z hv⟩
    · exact ⟨α1, _, toks, c_sEnd hO hC.1 (by omega) (by omega), hC, fun hd => absurd rfl hd, fun _ => ⟨hE, hL, Nat.le_refl _, by omega, p, L', u1, β1, rfl, hR, hLp, hp⟩⟩
theorem J_sum1 (hκ : 6 ≤ κ) (hP : Jprod t n f κ) : Jsum t n f κ := by
  intro α β s e O b W L was u2 u3 u4 hf hC hD hR hQ hO hL hV hWb hd4
  have hS := CS_sh hC
  have h16 := hC.1.2.1
  have hsn : s ≤ n := hC.2.1.1
  obtain ⟨α1, st1, x, d1, d2, d3, d4⟩ := hP α β s e O b W [] L was u2 u3 u4 hf hC hD hR (by simpa using hQ) hO (by simpa using hL) (by simpa using hV) hWb (fun y hy => by simp at hy) (by simpa using hd4 3 (by omega) (by omega)) (by simpa using hd4 4 (by omega) (by omega))
  rw [q_X6_readSum]
  simp -implicitDefEqProofs only [tg_sI, ln_sI, tg_sL, ln_sL, tg_sR, ln_sR, tg_sC, ln_sC, ai_sI, ai_sL, gL_sI, gR_sI, gI_sL, gR_sL, gI_sR, gL_sR, gI_sI, gL_sL, gR_sR, zlt_e, zln_e, zli_e, zll_e, zbI_e, zbL_e, zbR_e, zbV_e, zeR_e, zeN_s, zeN_n, Nat.reduceEqDiff, and_self, and_true, true_and, and_false, false_and, ite_true, ite_false, reduceIte, tg_12 hS, rk61 (show O < 2 ^ 31 by omega), rk62 (show O < 2 ^ 31 by omega), bif_lt (show 7 + 10 * (7 - O) < 8 + 10 * (7 - O) by omega), d1]
  by_cases hv : lL st1 = true
  · obtain ⟨s1, e1, rfl⟩ := lx_live hv
    obtain ⟨f1, f2, f3, f3', p1, L1, u1, β1, f4, f5, f6, f7⟩ := d4 hv
    have f3 : s < s1 := f3
    obtain ⟨α', st', toks', g1, g2, g3, g4⟩ := J_sLoop (was := was) hκ hP hO hWb hd4 hV n α1 β1 s1 e1 0 x p1 L1 u1 none (by omega) (by omega) d2 (by simpa using f5) f6 (fun y hy => by have := f7 y hy; omega) (EN_mono f1 (by omega)) (by have f2 : (L ++ x).length + (W ++ ([] : List Nat).reverse).length + κ ≤ s1 := f2; simpa using f2) (by omega) f3'
    have g1 : zR (8 + 10 * (7 - O)) 61 5 [some (.ref 12), some (.int (nI O)), some (.int 0), none] [] α1 = some (none, α') := g1
    rw [g1, f4]
    refine ⟨α', st', toks', rfl, g2, g3, fun hv' => ?_⟩
    obtain ⟨k1, k2, k3, k4⟩ := g4 hv'
    exact ⟨k1, k2, by omega, k4⟩
  · have hdx := dead_x (t := t) (n := n) hv
    have g1 := c_sEnd (i := 0) (u3 := none) hO d2.1 (by omega) (by omega)
    have g1 : zR (8 + 10 * (7 - O)) 61 5 [some (.ref 12), some (.int (nI O)), some (.int 0), none] [] α1 = some (none, α1) := g1
    rw [g1]
    exact ⟨α1, st1, x, rfl, d2, d3, fun z => absurd z hv⟩
theorem J_sum (hκ : 6 ≤ κ) : ∀ f, Jsum t n f κ
  | 0 => by
    -- no text is left: the part that is asked is a fault
    refine J_sum1 hκ (J_prod hκ ?_)
    intro α β s e O b W L was u2 u3 u4 hf hC hD hR hQ hO hb hL hW
    have hS := CS_sh hC
    have h16 := hC.1.2.1
    have hsn : s ≤ n := hC.2.1.1
    have hs : sm W L := sm_of (by omega) hsn h16 hW
    have hl : ls t n (.inl (s, e)) = 256 := sgT_no (by omega)
    have hw : lw t n (.inl (s, e)) = 35 := by
      show owT t n s e = 35
      unfold owT owC
      simp [show ¬ s < n by omega]
    have q2 : lN_ t n (.inl (s, e)) = false := by
      show nuT t n s e = false
      unfold nuT
      simp [show ¬ s < n by omega]
    have hno : lU t n 0 9999 (.inl (s, e)) = .inr (1, s) := lU_no q2 0 9999
    obtain ⟨b1, b2⟩ := ka_num (was := was) (u2 := u2) (u3 := u3) (u4 := u4) hR hQ hs (by omega) (by omega)
    rw [hno] at b2
    obtain ⟨α1, a1, a2⟩ := c_failHere hC (f := 1) (by decide) (by decide)
    have a1 : zM 107 [.ref 8, .int 1] α = some (none, α1) := a1
    have a2 : CS α1 t n (.inr (1, s)) := a2
    refine ⟨α1, .inr (1, s), [], ?_, z_tok (CZ_0 hC (by rw [List.append_nil]; exact hD)) rfl (by decide +kernel) a1 a2 (fun q => by cases q), fun hd => b2 hd, fun q => by cases q⟩
    rw [c_toBracket hO hC q2 (by omega), c_brNo (s := s) (e := e) 0 hO hC (by omega), a1]
    rfl
  | f + 1 => J_sum1 hκ (J_prod hκ (J_part hκ (J_sum hκ f)))
end
