/-! products, both at once -/
def Jprod (t : Nat → Nat) (n f κ : Nat) : Prop := ∀ (α β : zS) (s e O b : Nat) (W0 q L : List Nat) (was : Int32) (u2 u3 u4 : Option Value), n ≤ s + f → CS α t n (.inl (s, e)) → DR α L → RS β t n (.inl (s, e)) → SQ β (W0 ++ q.reverse) O L b → O ≤ 6 → L.length + (W0 ++ q.reverse).length + κ ≤ s → (∀ i, (W0 ++ q.reverse).getD i 0 < 1000) → (W0.length = b ∨ ∃ W1 m, W0 = W1 ++ [m] ∧ isM m ∧ b ≤ W1.length) → (∀ x, x ∈ q → x < 20) → (W0 ++ q.reverse).getLast? ≠ some 3 → (W0 ++ q.reverse).getLast? ≠ some 4 →
  ∃ α' st' toks, zM 62 [.ref 12, .int (nI O)] α = some (none, α') ∧ CZ t n α α' st' (L ++ toks) ∧ (¬ lL st' = true → ∃ β', KA was u2 u3 u4 β = some (none, β') ∧ SD t n β β' st') ∧ (lL st' = true → EN (2 + 3 * (6 - O)) toks ∧ (L ++ toks).length + (W0 ++ q.reverse).length + κ ≤ lp st' ∧ s < lp st' ∧ (ls t n st' ≠ 42 ∧ ls t n st' ≠ 47) ∧ ∃ p L' u1 β', KA was u2 u3 u4 β = KB was u1 β' ∧ SV t n β β' st' (W0 ++ q.reverse ++ p.reverse) O L' b ∧ L' ++ p = L ++ toks ∧ ∀ x, x ∈ p → x = 3 ∨ x = 4)
section
variable {t : Nat → Nat} {n : Nat} {α α' α1 β β0 β' β1 γ : zS} {st st1 : lx} {L W V W0 q p toks : List Nat} {c O b f κ : Nat} {was : Int32} {u1 u2 u3 u4 : Option Value}
theorem v_mark_any (hW : W0.length = b ∨ ∃ W1 m, W0 = W1 ++ [m] ∧ isM m ∧ b ≤ W1.length) (h : SV t n β β1 st (W0 ++ p.reverse) O L b) (hs : sm (W0 ++ p.reverse) L) (hp : ∀ x, x ∈ p → x < 20) : ∃ m, zM 221 [.ref 176] β1 = some (some (.int m), β1) := by
  rcases hW with z | ⟨W1, m, rfl, hm, hb⟩
  · rw [← z] at h
    exact ⟨_, v_mark_no h hs hp⟩
  · exact ⟨_, v_mark_in h hs hm hb hp⟩
theorem rev_app (W0 q p : List Nat) : W0 ++ q.reverse ++ p.reverse = W0 ++ (p ++ q).reverse := by
  rw [List.reverse_append, List.append_assoc]
/-- the class's loop over products: its end -/
theorem c_pEnd {i : Nat} (hO : O ≤ 6) (hC : CS α1 t n st) (hl : ls t n st ≠ 42 ∧ ls t n st ≠ 47) (hi : i < 2 ^ 31) : zR (7 + 10 * (7 - O)) 62 5 [some (.ref 12), some (.int (nI O)), some (.int (nI i)), u3] [] α1 = some (none, α1) := by
  have hS := CS_sh hC
  have s1 : zM 103 [.ref 8, .int 42] α1 = _ := c_atSign hC (c := 42) (by decide)
  have s2 : zM 103 [.ref 8, .int 47] α1 = _ := c_atSign hC (c := 47) (by decide)
  rw [if_neg hl.1] at s1
  rw [if_neg hl.2] at s2
  rw [q_X6_readProduct_5]
  simp -implicitDefEqProofs only [tg_sI, ln_sI, tg_sL, ln_sL, tg_sR, ln_sR, tg_sC, ln_sC, ai_sI, ai_sL, gL_sI, gR_sI, gI_sL, gR_sL, gI_sR, gL_sR, gI_sI, gL_sL, gR_sR, zlt_e, zln_e, zli_e, zll_e, zbI_e, zbL_e, zbR_e, zbV_e, zeR_e, zeN_s, zeN_n, Nat.reduceEqDiff, and_self, and_true, true_and, and_false, false_and, ite_true, ite_false, reduceIte, rk103, bif_lt (show 1 < 7 + 10 * (7 - O) by omega), tg_12 hS, gR_12_0 hS, tg_8 hS, s1, s2]
  split <;> rfl
/-- the class's loop over products: one more -/
theorem c_pMore {i : Nat} (hO : O ≤ 6) (hC : CS α1 t n st) (hl : ls t n st = 42 ∨ ls t n st = 47) (hi : i < 1600) (ha : zM 97 [.ref 8] α1 = some (none, α')) (hS' : Sh α') : zR (7 + 10 * (7 - O)) 62 5 [some (.ref 12), some (.int (nI O)), some (.int (nI i)), u3] [] α1 = zbV (zM 63 [.ref 12, .int (nI O)] α') (fun σ1 => if tg σ1 12 = 7 then zbV (zM 53 [.ref 12, .int (cOf (if ls t n st = 42 then 3 else 4))] σ1) (fun σ2 => zR (7 + 10 * (7 - O)) 62 5 [some (.ref 12), some (.int (nI O)), some (.int (nI (i + 1))), some (.int (cOf (if ls t n st = 42 then 3 else 4)))] [] σ2) else none) := by
  have hS := CS_sh hC
  have s1 : zM 103 [.ref 8, .int 42] α1 = _ := c_atSign hC (c := 42) (by decide)
  have s2 : zM 103 [.ref 8, .int 47] α1 = _ := c_atSign hC (c := 47) (by decide)
  rw [q_X6_readProduct_5, if_neg (show ¬ (1600 : Int32) ≤ nI i from nI_ge (b := 1600) hi (by omega))]
  simp -implicitDefEqProofs only [tg_sI, ln_sI, tg_sL, ln_sL, tg_sR, ln_sR, tg_sC, ln_sC, ai_sI, ai_sL, gL_sI, gR_sI, gI_sL, gR_sL, gI_sR, gL_sR, gI_sI, gL_sL, gR_sR, zlt_e, zln_e, zli_e, zll_e, zbI_e, zbL_e, zbR_e, zbV_e, zeR_e, zeN_s, zeN_n, Nat.reduceEqDiff, and_self, and_true, true_and, and_false, false_and, ite_true, ite_false, reduceIte, rk103, rk97, rk53, rk63 (show O < 2 ^ 31 by omega), bif_lt (show 1 < 7 + 10 * (7 - O) by omega), bif_lt (show 2 < 7 + 10 * (7 - O) by omega), bif_lt (show 6 + 10 * (7 - O) < 7 + 10 * (7 - O) by omega), tg_12 hS, gR_12_0 hS, tg_8 hS, s1, s2, q_X6_readProduct_23, q_X6_readProduct_25, q_X6_readProduct_30, ha, tg_12 hS', nI_1]
  rcases hl with q | q
  · rw [if_pos q, if_neg (by decide)]
    simp only [q, if_true]
    rfl
  · have q2 : ¬ ls t n st = 42 := by omega
    rw [if_neg q2]
    simp only [q, if_true, ite_true, if_neg q2, show ¬ (47 = 42) by decide, if_false]
    rfl
theorem J_pLoop (hκ : 6 ≤ κ) (hP : Jpart t n f κ) (hO : O ≤ 6) (hWb : W0.length = b ∨ ∃ W1 m, W0 = W1 ++ [m] ∧ isM m ∧ b ≤ W1.length) (hq : ∀ x, x ∈ q → x < 20) (h3 : (W0 ++ q.reverse).getLast? ≠ some 3) (h4 : (W0 ++ q.reverse).getLast? ≠ some 4) (hV : ∀ i, (W0 ++ q.reverse).getD i 0 < 1000) : ∀ k (α1 β1 : zS) (s e i : Nat) (toks p L' : List Nat) (u1 u3 : Option Value), n ≤ s + k → n ≤ s + f → CZ t n α α1 (.inl (s, e)) (L ++ toks) → SV t n β β1 (.inl (s, e)) (W0 ++ q.reverse ++ p.reverse) O L' b → L' ++ p = L ++ toks → (∀ x, x ∈ p → x = 3 ∨ x = 4) → EN (2 + 3 * (6 - O)) toks → (L ++ toks).length + (W0 ++ q.reverse).length + κ ≤ s → i ≤ s →
    ∃ α' st' toks', zR (7 + 10 * (7 - O)) 62 5 [some (.ref 12), some (.int (nI O)), some (.int (nI i)), u3] [] α1 = some (none, α') ∧ CZ t n α α' st' (L ++ toks') ∧ (¬ lL st' = true → ∃ β', KB was u1 β1 = some (none, β') ∧ SD t n β β' st') ∧ (lL st' = true → EN (2 + 3 * (6 - O)) toks' ∧ (L ++ toks').length + (W0 ++ q.reverse).length + κ ≤ lp st' ∧ s ≤ lp st' ∧ (ls t n st' ≠ 42 ∧ ls t n st' ≠ 47) ∧ ∃ p L' u1' β', KB was u1 β1 = KB was u1' β' ∧ SV t n β β' st' (W0 ++ q.reverse ++ p.reverse) O L' b ∧ L' ++ p = L ++ toks' ∧ ∀ x, x ∈ p → x = 3 ∨ x = 4) := by
  intro k
  induction k with
  | zero =>
    intro α1 β1 s e i toks p L' u1 u3 hk hf hC hR hLp hp hE hL hi
    have hsn : s ≤ n := hC.1.2.1.1
    have h16 := hC.1.1.2.1
    have hl : ls t n (.inl (s, e)) = 256 := sgT_no (by omega)
    exact ⟨α1, _, toks, c_pEnd hO hC.1 (by omega) (by omega), hC, fun hd => absurd rfl hd, fun _ => ⟨hE, hL, Nat.le_refl _, by omega, p, L', u1, β1, rfl, hR, hLp, hp⟩⟩
  | succ k ih =>
    intro α1 β1 s e i toks p L' u1 u3 hk hf hC hR hLp hp hE hL hi
    have hsn : s ≤ n := hC.1.2.1.1
    have h16 := hC.1.1.2.1
    by_cases hl : ls t n (.inl (s, e)) = 42 ∨ ls t n (.inl (s, e)) = 47
    · obtain ⟨hs', hk3, -⟩ := ls_of (t := t) (n := n) (s := s) (e := e) (c := ls t n (.inl (s, e))) (by omega) rfl
      have hp4 : ∀ x, x ∈ p → 1 ≤ x ∧ x ≤ 4 := fun x hx => by have := hp x hx; omega
      have hp2 : s < tkS t n s := la_pos (t := t) (n := n) (s := s) (e := e) hs' (by omega)
      have hsm : sm (W0 ++ q.reverse ++ p.reverse) L' := by
        refine ⟨?_, gD_rev hV p hp4⟩
        have := congrArg List.length hLp
        simp at this hL ⊢
        omega
      obtain ⟨α2, a1, a2⟩ := c_advS hC.1 (by omega)
      have z2 := z_tok hC rfl (by decide +kernel) a1 a2 (fun _ => rfl)
      have vl := SV_look hR
      have hsm' := hsm
      rw [rev_app] at vl hsm'
      obtain ⟨mk, hmk⟩ := v_mark_any hWb vl hsm' (fun x hx => by
        rcases List.mem_append.mp hx with z | z
        · have := hp x z; omega
        · exact hq x z)
      obtain ⟨β2, b1, b2⟩ := kb_mul (was := was) (u1 := u1) hR hsm hmk hl h3 h4 hp
      rw [hLp] at b2
      obtain ⟨α3, st3, x, d1, d2, d3, d4⟩ := hP α2 β2 _ _ O b (W0 ++ q.reverse ++ [if ls t n (.inl (s, e)) = 42 then 3 else 4]) (L ++ toks) was none none none (by omega) a2 (z2.2.2.2 rfl) b2.1 b2.2.2 hO (by
        have : b ≤ W0.length := by
          rcases hWb with z | ⟨W1, m, rfl, hm, hb⟩
          · omega
          · rw [List.length_append]; omega
        simp; omega) (by simp at hL ⊢; omega) (gD_app hV (by split <;> omega))
      have z3 := CZ_t z2 d2
      have hS3 := CS_sh z3.1
      rw [c_pMore hO hC.1 hl (by omega) a1 (CS_sh a2), d1, b1]
      simp -implicitDefEqProofs only [tg_sI, ln_sI, tg_sL, ln_sL, tg_sR, ln_sR, tg_sC, ln_sC, ai_sI, ai_sL, gL_sI, gR_sI, gI_sL, gR_sL, gI_sR, gL_sR, gI_sI, gL_sL, gR_sR, zlt_e, zln_e, zli_e, zll_e, zbI_e, zbL_e, zbR_e, zbV_e, zeR_e, zeN_s, zeN_n, Nat.reduceEqDiff, and_self, and_true, true_and, and_false, false_and, ite_true, ite_false, reduceIte, tg_12 hS3]
      by_cases hv : lL st3 = true
      · obtain ⟨s3, e3, rfl⟩ := lx_live hv
        obtain ⟨f1, f2, f3, u1', β3, f4, f5⟩ := d4 hv
        have f2 : (L ++ toks ++ x).length + (W0 ++ q.reverse ++ [if ls t n (.inl (s, e)) = 42 then 3 else 4]).length + κ ≤ s3 := f2
        have f3 : tkS t n s < s3 := f3
        have hs3n : s3 ≤ n := d2.1.2.1.1
        obtain ⟨α4, p1, p2⟩ := z_put (c := if ls t n (.inl (s, e)) = 42 then 3 else 4) z3 (fun _ => by simp at f2 ⊢; omega)
        rw [p1, f4]
        simp -implicitDefEqProofs only [tg_sI, ln_sI, tg_sL, ln_sL, tg_sR, ln_sR, tg_sC, ln_sC, ai_sI, ai_sL, gL_sI, gR_sI, gI_sL, gR_sL, gI_sR, gL_sR, gI_sI, gL_sL, gR_sR, zlt_e, zln_e, zli_e, zll_e, zbI_e, zbL_e, zbR_e, zbV_e, zeR_e, zeN_s, zeN_n, Nat.reduceEqDiff, and_self, and_true, true_and, and_false, false_and, ite_true, ite_false, reduceIte]
        have p2' : CZ t n α α4 (.inl (s3, e3)) (L ++ (toks ++ (x ++ [if ls t n (.inl (s, e)) = 42 then 3 else 4]))) := CZ_L p2 (fun _ => by simp)
        have f5' := SV_t b2 f5
        obtain ⟨α', st', toks', g1, g2, g3, g4⟩ := ih α4 β3 s3 e3 (i + 1) (toks ++ (x ++ [if ls t n (.inl (s, e)) = 42 then 3 else 4])) [if ls t n (.inl (s, e)) = 42 then 3 else 4] (L ++ toks ++ x) u1' (some (.int (cOf (if ls t n (.inl (s, e)) = 42 then 3 else 4)))) (by omega) (by omega) p2' (by simpa using f5') (by simp) (fun y hy => by
          have : y = if ls t n (.inl (s, e)) = 42 then 3 else 4 := by simpa using hy
          rw [this]; split <;> omega) (EN_bin (h1 := 2 + 3 * (6 - O)) (h2 := 1 + 3 * (6 - O)) hE f1 (by split <;> omega) (by omega) (by omega)) (by simp at f2 ⊢; omega) (by omega)
        refine ⟨α', st', toks', g1, g2, g3, fun hv' => ?_⟩
        obtain ⟨k1, k2, k3, k4⟩ := g4 hv'
        exact ⟨k1, k2, by omega, k4⟩
      · obtain ⟨α4, p1, p2⟩ := z_put (c := if ls t n (.inl (s, e)) = 42 then 3 else 4) z3 (fun z => absurd z hv)
        obtain ⟨β', k1, k2⟩ := d3 hv
        have hdx := dead_x (t := t) (n := n) hv
        rw [p1]
        simp -implicitDefEqProofs only [tg_sI, ln_sI, tg_sL, ln_sL, tg_sR, ln_sR, tg_sC, ln_sC, ai_sI, ai_sL, gL_sI, gR_sI, gI_sL, gR_sL, gI_sR, gL_sR, gI_sI, gL_sL, gR_sR, zlt_e, zln_e, zli_e, zll_e, zbI_e, zbL_e, zbR_e, zbV_e, zeR_e, zeN_s, zeN_n, Nat.reduceEqDiff, and_self, and_true, true_and, and_false, false_and, ite_true, ite_false, reduceIte]
        rw [c_pEnd hO p2.1 (by omega) (by omega)]
        exact ⟨α4, st3, [], rfl, CZ_L p2 (fun z => absurd z hv), fun _ => ⟨β', k1, SD_t b2 k2⟩, fun z => absurd z hv⟩
    · exact ⟨α1, _, toks, c_pEnd hO hC.1 (by omega) (by omega), hC, fun hd => absurd rfl hd, fun _ => ⟨hE, hL, Nat.le_refl _, by omega, p, L', u1, β1, rfl, hR, hLp, hp⟩⟩
theorem J_prod (hκ : 6 ≤ κ) (hP : Jpart t n f κ) : Jprod t n f κ := by
  intro α β s e O b W0 q L was u2 u3 u4 hf hC hD hR hQ hO hL hV hWb hq h3 h4
  have hS := CS_sh hC
  have h16 := hC.1.2.1
  have hsn : s ≤ n := hC.2.1.1
  have hb : b ≤ (W0 ++ q.reverse).length := by
    have : b ≤ W0.length := by
      rcases hWb with z | ⟨W1, m, rfl, hm, hb⟩
      · omega
      · rw [List.length_append]; omega
    simp; omega
  obtain ⟨α1, st1, x, d1, d2, d3, d4⟩ := hP α β s e O b (W0 ++ q.reverse) L was u2 u3 u4 hf hC hD hR hQ hO hb hL hV
  rw [q_X6_readProduct]
  simp -implicitDefEqProofs only [tg_sI, ln_sI, tg_sL, ln_sL, tg_sR, ln_sR, tg_sC, ln_sC, ai_sI, ai_sL, gL_sI, gR_sI, gI_sL, gR_sL, gI_sR, gL_sR, gI_sI, gL_sL, gR_sR, zlt_e, zln_e, zli_e, zll_e, zbI_e, zbL_e, zbR_e, zbV_e, zeR_e, zeN_s, zeN_n, Nat.reduceEqDiff, and_self, and_true, true_and, and_false, false_and, ite_true, ite_false, reduceIte, tg_12 hS, rk62 (show O < 2 ^ 31 by omega), rk63 (show O < 2 ^ 31 by omega), bif_lt (show 6 + 10 * (7 - O) < 7 + 10 * (7 - O) by omega), d1]
  by_cases hv : lL st1 = true
  · obtain ⟨s1, e1, rfl⟩ := lx_live hv
    obtain ⟨f1, f2, f3, u1, β1, f4, f5⟩ := d4 hv
    have f3 : s < s1 := f3
    obtain ⟨α', st', toks', g1, g2, g3, g4⟩ := J_pLoop (was := was) hκ hP hO hWb hq h3 h4 hV n α1 β1 s1 e1 0 x [] (L ++ x) u1 none (by omega) (by omega) d2 (by simpa using f5) (by simp) (fun y hy => by simp at hy) (EN_mono f1 (by omega)) f2 (by omega)
    have g1 : zR (7 + 10 * (7 - O)) 62 5 [some (.ref 12), some (.int (nI O)), some (.int 0), none] [] α1 = some (none, α') := g1
    rw [g1, f4]
    refine ⟨α', st', toks', rfl, g2, g3, fun hv' => ?_⟩
    obtain ⟨k1, k2, k3, k4⟩ := g4 hv'
    exact ⟨k1, k2, by omega, k4⟩
  · have hdx := dead_x (t := t) (n := n) hv
    have g1 := c_pEnd (i := 0) (u3 := none) hO d2.1 (by omega) (by omega)
    have g1 : zR (7 + 10 * (7 - O)) 62 5 [some (.ref 12), some (.int (nI O)), some (.int 0), none] [] α1 = some (none, α1) := g1
    rw [g1]
    exact ⟨α1, st1, x, rfl, d2, d3, fun z => absurd z hv⟩
end
