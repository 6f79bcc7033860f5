/-! statements of a house, both at once: which one -/
section
variable {t : Nat → Nat} {n : Nat} {α α' β β' γ : zS} {st : lx} {S N M K : Nat} {X Y : Nat → Nat → Prop}
/-- a word of the reference that isn't here -/
theorem r_no {w s e : Nat} (hw : w < 35) (h : RS β t n (.inl (s, e))) (hq : lw t n (.inl (s, e)) ≠ w) : ∃ β', zM 196 [.ref 176, .ref (178 + w)] β = some (some (.int 0), β') ∧ RS β' t n (.inl (s, e)) ∧ gI β' 176 2 = nI s ∧ Un XL β β' ∧ Sh β' := by
  obtain ⟨β', h1, h2, h3⟩ := r_takes hw h
  rw [if_neg hq] at h1 h2
  exact ⟨β', h1, h2, h3 hq s e rfl, Un_ref (RS_sh h) h1 rfl (by decide +kernel), RS_sh h2⟩
theorem r_yes {w : Nat} (hw : w < 35) (h : RS β t n st) (hq : lw t n st = w) : ∃ β', zM 196 [.ref 176, .ref (178 + w)] β = some (some (.int 1), β') ∧ RS β' t n (la t n st) ∧ Un XL β β' ∧ Sh β' := by
  obtain ⟨β', h1, h2, -⟩ := r_takes hw h
  rw [if_pos hq] at h1 h2
  exact ⟨β', h1, h2, Un_ref (RS_sh h) h1 rfl (by decide +kernel), RS_sh h2⟩
theorem JR_w (u : Un (fun r _ => r = 8) α α') (w : Un XL β β') {α1 β1 : zS} (h : JR t n S α' β' α1 β1 st) : JR t n S α β α1 β1 st := by
  obtain ⟨j1, j2, j3, j4, j5⟩ := h
  exact ⟨j1, j2, (u.mono (fun r j _ _ q => .inl q)).trans j3, (w.mono (fun r j _ _ q => .inl q)).trans j4, j5⟩
/-- the class at a word that begins no statement -/
theorem c_other {w : Nat} (hC : CS α t n st) (hw : lw t n st = w) (h : w ≠ 0 ∧ w ≠ 3 ∧ w ≠ 8 ∧ w ≠ 9 ∧ w ≠ 10 ∧ w ≠ 11 ∧ w ≠ 12 ∧ w ≠ 13) : zM 8 [.ref 11, .ref S] α = zbV (zM 107 [.ref 8, .int 1] α) (fun σ => some (none, σ)) := by
  have hS := CS_sh hC
  have h35 := lw_le (t := t) (n := n) st
  have ho := c_own hC
  rw [hw] at ho h35
  rw [q_X1_readStatement]
  simp -implicitDefEqProofs only [tg_sI, ln_sI, tg_sL, ln_sL, tg_sR, ln_sR, tg_sC, ln_sC, ai_sI, ai_sL, gL_sI, gR_sI, gI_sL, gR_sL, gI_sR, gL_sR, gI_sI, gL_sL, gR_sR, zlt_e, zln_e, zli_e, zll_e, zbI_e, zbL_e, zbR_e, zbV_e, zeR_e, zeN_s, zeN_n, Nat.reduceEqDiff, and_self, and_true, true_and, and_false, false_and, ite_true, ite_false, reduceIte, tg_11 hS, gR_11_0 hS, tg_8 hS, ho]
  have hv : owJ w ≠ 0 ∧ owJ w ≠ 3 ∧ owJ w ≠ 8 ∧ owJ w ≠ 9 ∧ owJ w ≠ 10 ∧ owJ w ≠ 11 ∧ owJ w ≠ 12 ∧ owJ w ≠ 13 := by
    have : ∀ w, w < 36 → (w = 0 ∨ w = 3 ∨ w = 8 ∨ w = 9 ∨ w = 10 ∨ w = 11 ∨ w = 12 ∨ w = 13) ∨ (owJ w ≠ 0 ∧ owJ w ≠ 3 ∧ owJ w ≠ 8 ∧ owJ w ≠ 9 ∧ owJ w ≠ 10 ∧ owJ w ≠ 11 ∧ owJ w ≠ 12 ∧ owJ w ≠ 13) := by decide +kernel
    exact (this w (by omega)).resolve_left (by omega)
  obtain ⟨v0, v3, v8, v9, v10, v11, v12, v13⟩ := hv
  rw [if_neg v0, if_neg v3, if_neg v8, if_neg v9, if_neg v10, if_neg v11, if_neg v12, if_neg v13]
  simp only [ite_self]
theorem j_disp {s e c : Nat} (hP : HP S) (hC : CS α t n (.inl (s, e))) (hR : RS β t n (.inl (s, e))) (h2 : gI β 176 2 = nI s) (hc : gI β 176 58 = nI c) (hc1 : c < 100) (hJ : JH α β S N M K) : ∃ α1 β1 st1, zM 8 [.ref 11, .ref S] α = some (none, α1) ∧ zM 213 [.ref 176] β = zR 7 213 98 [some (.ref 176), some (.int (nI s))] [] β1 ∧ JR t n S α β α1 β1 st1 := by
  have hb := HPb hP
  have hS := CS_sh hC
  have hS2 := RS_sh hR
  have hc2 : ¬ nI c = 100 := fun q => by have := (nI_eq (b := 100) (by omega) (by omega)).mp q; omega
  have ho := c_own hC
  have adv := fun (hq : lw t n (.inl (s, e)) < 35) => c_advW hC hq
  generalize hw : lw t n (.inl (s, e)) = w at *
  rw [q_X12_houseTold]
  simp -implicitDefEqProofs only [tg_sI, ln_sI, tg_sL, ln_sL, tg_sR, ln_sR, tg_sC, ln_sC, ai_sI, ai_sL, gL_sI, gR_sI, gI_sL, gR_sL, gI_sR, gL_sR, gI_sI, gL_sL, gR_sR, zlt_e, zln_e, zli_e, zll_e, zbI_e, zbL_e, zbR_e, zbV_e, zeR_e, zeN_s, zeN_n, Nat.reduceEqDiff, and_self, and_true, true_and, and_false, false_and, ite_true, ite_false, reduceIte, tg_176 hS2, gR_176_10 hS2, hc, h2]
  rw [if_neg hc2]
  by_cases q0 : w = 0
  · subst q0
    obtain ⟨β1, r1, r2, r3, r4⟩ := r_yes (w := 0) (by decide) hR hw
    have r1 : zM 196 [.ref 176, .ref 178] β = some (some (.int 1), β1) := r1
    have hJ1 := JH_rd hJ hP hS hS2 (Un.refl _ _) r3
    obtain ⟨α', β', st', j1, j2, j3⟩ := j_last hP hC (by rw [hw]; decide) r2 hJ1
    refine ⟨α', β', st', ?_, ?_, JR_w (Un.refl _ _) r3 j3⟩
    · rw [q_X1_readStatement]
      simp -implicitDefEqProofs only [tg_sI, ln_sI, tg_sL, ln_sL, tg_sR, ln_sR, tg_sC, ln_sC, ai_sI, ai_sL, gL_sI, gR_sI, gI_sL, gR_sL, gI_sR, gL_sR, gI_sI, gL_sL, gR_sR, zlt_e, zln_e, zli_e, zll_e, zbI_e, zbL_e, zbR_e, zbV_e, zeR_e, zeN_s, zeN_n, Nat.reduceEqDiff, and_self, and_true, true_and, and_false, false_and, ite_true, ite_false, reduceIte, tg_11 hS, gR_11_0 hS, tg_8 hS, ho]
      rw [if_pos (show owJ 0 = 0 by decide), j1]
      rfl
    · simp -implicitDefEqProofs only [tg_sI, ln_sI, tg_sL, ln_sL, tg_sR, ln_sR, tg_sC, ln_sC, ai_sI, ai_sL, gL_sI, gR_sI, gI_sL, gR_sL, gI_sR, gL_sR, gI_sI, gL_sL, gR_sR, zlt_e, zln_e, zli_e, zll_e, zbI_e, zbL_e, zbR_e, zbV_e, zeR_e, zeN_s, zeN_n, Nat.reduceEqDiff, and_self, and_true, true_and, and_false, false_and, ite_true, ite_false, reduceIte, r1, tg_176 r4, j2]
      rw [if_neg (by decide)]
  obtain ⟨b1, x1, x2, x3, x4, x5⟩ := r_no (w := 0) (by decide) hR (by rw [hw]; exact q0)
  have x1 : zM 196 [.ref 176, .ref 178] β = some (some (.int 0), b1) := x1
  simp -implicitDefEqProofs only [tg_sI, ln_sI, tg_sL, ln_sL, tg_sR, ln_sR, tg_sC, ln_sC, ai_sI, ai_sL, gL_sI, gR_sI, gI_sL, gR_sL, gI_sR, gL_sR, gI_sI, gL_sL, gR_sR, zlt_e, zln_e, zli_e, zll_e, zbI_e, zbL_e, zbR_e, zbV_e, zeR_e, zeN_s, zeN_n, Nat.reduceEqDiff, and_self, and_true, true_and, and_false, false_and, ite_true, ite_false, reduceIte, x1, tg_176 x5, gR_176_13 x5]
  try rw [if_pos rfl]
  by_cases q3 : w = 3
  · subst q3
    obtain ⟨β1, r1, r2, r3, r4⟩ := r_yes (w := 3) (by decide) x2 hw
    have r1 : zM 196 [.ref 176, .ref 181] b1 = some (some (.int 1), β1) := r1
    have r3 := x4.trans r3
    have hJ1 := JH_rd hJ hP hS hS2 (Un.refl _ _) r3
    obtain ⟨α', β', st', j1, j2, j3⟩ := j_sort hP hC (by rw [hw]; decide) r2 hJ1
    refine ⟨α', β', st', ?_, ?_, JR_w (Un.refl _ _) r3 j3⟩
    · rw [q_X1_readStatement]
      simp -implicitDefEqProofs only [tg_sI, ln_sI, tg_sL, ln_sL, tg_sR, ln_sR, tg_sC, ln_sC, ai_sI, ai_sL, gL_sI, gR_sI, gI_sL, gR_sL, gI_sR, gL_sR, gI_sI, gL_sL, gR_sR, zlt_e, zln_e, zli_e, zll_e, zbI_e, zbL_e, zbR_e, zbV_e, zeR_e, zeN_s, zeN_n, Nat.reduceEqDiff, and_self, and_true, true_and, and_false, false_and, ite_true, ite_false, reduceIte, tg_11 hS, gR_11_0 hS, tg_8 hS, ho]
      rw [if_neg (show ¬ owJ 3 = 0 by decide), if_neg (show ¬ owJ 3 = 1 by decide), if_neg (show ¬ owJ 3 = 2 by decide), if_pos (show owJ 3 = 3 by decide), j1]
      rfl
    · simp -implicitDefEqProofs only [tg_sI, ln_sI, tg_sL, ln_sL, tg_sR, ln_sR, tg_sC, ln_sC, ai_sI, ai_sL, gL_sI, gR_sI, gI_sL, gR_sL, gI_sR, gL_sR, gI_sI, gL_sL, gR_sR, zlt_e, zln_e, zli_e, zll_e, zbI_e, zbL_e, zbR_e, zbV_e, zeR_e, zeN_s, zeN_n, Nat.reduceEqDiff, and_self, and_true, true_and, and_false, false_and, ite_true, ite_false, reduceIte, r1, tg_176 r4, j2]
      rw [if_neg (by decide), q_X12_houseTold_29]
  obtain ⟨b2, y1, y2, y3, y4, y5⟩ := r_no (w := 3) (by decide) x2 (by rw [hw]; exact q3)
  have y1 : zM 196 [.ref 176, .ref 181] b1 = some (some (.int 0), b2) := y1
  simp -implicitDefEqProofs only [tg_sI, ln_sI, tg_sL, ln_sL, tg_sR, ln_sR, tg_sC, ln_sC, ai_sI, ai_sL, gL_sI, gR_sI, gI_sL, gR_sL, gI_sR, gL_sR, gI_sI, gL_sL, gR_sR, zlt_e, zln_e, zli_e, zll_e, zbI_e, zbL_e, zbR_e, zbV_e, zeR_e, zeN_s, zeN_n, Nat.reduceEqDiff, and_self, and_true, true_and, and_false, false_and, ite_true, ite_false, reduceIte, y1]
  first | rw [if_pos rfl, q_X12_houseTold_30] | rw [q_X12_houseTold_30]
  simp -implicitDefEqProofs only [tg_sI, ln_sI, tg_sL, ln_sL, tg_sR, ln_sR, tg_sC, ln_sC, ai_sI, ai_sL, gL_sI, gR_sI, gI_sL, gR_sL, gI_sR, gL_sR, gI_sI, gL_sL, gR_sR, zlt_e, zln_e, zli_e, zll_e, zbI_e, zbL_e, zbR_e, zbV_e, zeR_e, zeN_s, zeN_n, Nat.reduceEqDiff, and_self, and_true, true_and, and_false, false_and, ite_true, ite_false, reduceIte, tg_176 y5, gR_176_18 y5]
  have y4 := x4.trans y4
  -- what all behind here share: the class goes on by one
  by_cases q8 : w = 8
  · subst q8
    obtain ⟨β1, r1, r2, r3, r4⟩ := r_yes (w := 8) (by decide) y2 hw
    have r1 : zM 196 [.ref 176, .ref 186] b2 = some (some (.int 1), β1) := r1
    have r3 := y4.trans r3
    obtain ⟨α1, a1, a2⟩ := adv (by decide)
    have hS1 := CS_sh a2
    have u1 := Un_tok hS a1 rfl (by decide +kernel)
    have hJ1 := JH_rd hJ hP hS hS2 u1 r3
    obtain ⟨α', β', j1, j2, j3⟩ := j_keeps hP a2 r2 hJ1
    refine ⟨α', β', _, ?_, ?_, JR_w u1 r3 j3⟩
    · rw [q_X1_readStatement]
      simp -implicitDefEqProofs only [tg_sI, ln_sI, tg_sL, ln_sL, tg_sR, ln_sR, tg_sC, ln_sC, ai_sI, ai_sL, gL_sI, gR_sI, gI_sL, gR_sL, gI_sR, gL_sR, gI_sI, gL_sL, gR_sR, zlt_e, zln_e, zli_e, zll_e, zbI_e, zbL_e, zbR_e, zbV_e, zeR_e, zeN_s, zeN_n, Nat.reduceEqDiff, and_self, and_true, true_and, and_false, false_and, ite_true, ite_false, reduceIte, tg_11 hS, gR_11_0 hS, tg_8 hS, ho]
      rw [if_neg (show ¬ owJ 8 = 0 by decide), if_neg (show ¬ owJ 8 = 1 by decide), if_neg (show ¬ owJ 8 = 2 by decide), if_neg (show ¬ owJ 8 = 3 by decide), if_neg (show ¬ owJ 8 = 4 by decide), if_neg (show ¬ owJ 8 = 5 by decide), if_neg (show ¬ owJ 8 = 6 by decide), if_neg (show ¬ owJ 8 = 7 by decide), if_pos (show owJ 8 = 8 by decide), a1]
      simp -implicitDefEqProofs only [tg_sI, ln_sI, tg_sL, ln_sL, tg_sR, ln_sR, tg_sC, ln_sC, ai_sI, ai_sL, gL_sI, gR_sI, gI_sL, gR_sL, gI_sR, gL_sR, gI_sI, gL_sL, gR_sR, zlt_e, zln_e, zli_e, zll_e, zbI_e, zbL_e, zbR_e, zbV_e, zeR_e, zeN_s, zeN_n, Nat.reduceEqDiff, and_self, and_true, true_and, and_false, false_and, ite_true, ite_false, reduceIte, tg_P hS1 hP, gR_P_3 hS1 hP, tg_11 hS1, j1]
    · simp -implicitDefEqProofs only [tg_sI, ln_sI, tg_sL, ln_sL, tg_sR, ln_sR, tg_sC, ln_sC, ai_sI, ai_sL, gL_sI, gR_sI, gI_sL, gR_sL, gI_sR, gL_sR, gI_sI, gL_sL, gR_sR, zlt_e, zln_e, zli_e, zll_e, zbI_e, zbL_e, zbR_e, zbV_e, zeR_e, zeN_s, zeN_n, Nat.reduceEqDiff, and_self, and_true, true_and, and_false, false_and, ite_true, ite_false, reduceIte, r1, tg_176 r4, j2]
      rw [if_neg (by decide)]
  obtain ⟨b3, z1, z2, z3, z4, z5⟩ := r_no (w := 8) (by decide) y2 (by rw [hw]; exact q8)
  have z1 : zM 196 [.ref 176, .ref 186] b2 = some (some (.int 0), b3) := z1
  simp -implicitDefEqProofs only [tg_sI, ln_sI, tg_sL, ln_sL, tg_sR, ln_sR, tg_sC, ln_sC, ai_sI, ai_sL, gL_sI, gR_sI, gI_sL, gR_sL, gI_sR, gL_sR, gI_sI, gL_sL, gR_sR, zlt_e, zln_e, zli_e, zll_e, zbI_e, zbL_e, zbR_e, zbV_e, zeR_e, zeN_s, zeN_n, Nat.reduceEqDiff, and_self, and_true, true_and, and_false, false_and, ite_true, ite_false, reduceIte, z1, tg_176 z5, gR_176_19 z5]
  try rw [if_pos rfl]
  have z4 := y4.trans z4
  by_cases q9 : w = 9
  · subst q9
    obtain ⟨β1, r1, r2, r3, r4⟩ := r_yes (w := 9) (by decide) z2 hw
    have r1 : zM 196 [.ref 176, .ref 187] b3 = some (some (.int 1), β1) := r1
    have r3 := z4.trans r3
    obtain ⟨α1, a1, a2⟩ := adv (by decide)
    have hS1 := CS_sh a2
    have u1 := Un_tok hS a1 rfl (by decide +kernel)
    have hJ1 := JH_rd hJ hP hS hS2 u1 r3
    obtain ⟨α', β', v, x, j1, j2, j3, j4, j5⟩ := j_set (c := 0) (hi := 9999) (by decide) rfl hP a2 r2 hJ1
    have j1 : zM 110 [.ref 8, .int 0, .int 9999] α1 = some (some (.int v), α') := j1
    have j2 : zM 200 [.ref 176, .int 0, .int 9999] β1 = some (some (.int x), β') := j2
    refine ⟨_, _, _, ?_, ?_, JR_w u1 r3 j5⟩
    · rw [q_X1_readStatement]
      simp -implicitDefEqProofs only [tg_sI, ln_sI, tg_sL, ln_sL, tg_sR, ln_sR, tg_sC, ln_sC, ai_sI, ai_sL, gL_sI, gR_sI, gI_sL, gR_sL, gI_sR, gL_sR, gI_sI, gL_sL, gR_sR, zlt_e, zln_e, zli_e, zll_e, zbI_e, zbL_e, zbR_e, zbV_e, zeR_e, zeN_s, zeN_n, Nat.reduceEqDiff, and_self, and_true, true_and, and_false, false_and, ite_true, ite_false, reduceIte, tg_11 hS, gR_11_0 hS, tg_8 hS, ho]
      rw [if_neg (show ¬ owJ 9 = 0 by decide), if_neg (show ¬ owJ 9 = 1 by decide), if_neg (show ¬ owJ 9 = 2 by decide), if_neg (show ¬ owJ 9 = 3 by decide), if_neg (show ¬ owJ 9 = 4 by decide), if_neg (show ¬ owJ 9 = 5 by decide), if_neg (show ¬ owJ 9 = 6 by decide), if_neg (show ¬ owJ 9 = 7 by decide), if_neg (show ¬ owJ 9 = 8 by decide), if_pos (show owJ 9 = 9 by decide), a1]
      simp -implicitDefEqProofs only [tg_sI, ln_sI, tg_sL, ln_sL, tg_sR, ln_sR, tg_sC, ln_sC, ai_sI, ai_sL, gL_sI, gR_sI, gI_sL, gR_sL, gI_sR, gL_sR, gI_sI, gL_sL, gR_sR, zlt_e, zln_e, zli_e, zll_e, zbI_e, zbL_e, zbR_e, zbV_e, zeR_e, zeN_s, zeN_n, Nat.reduceEqDiff, and_self, and_true, true_and, and_false, false_and, ite_true, ite_false, reduceIte, tg_11 hS1, gR_11_0 hS1, tg_8 hS1, j1, j3]
    · simp -implicitDefEqProofs only [tg_sI, ln_sI, tg_sL, ln_sL, tg_sR, ln_sR, tg_sC, ln_sC, ai_sI, ai_sL, gL_sI, gR_sI, gI_sL, gR_sL, gI_sR, gL_sR, gI_sI, gL_sL, gR_sR, zlt_e, zln_e, zli_e, zll_e, zbI_e, zbL_e, zbR_e, zbV_e, zeR_e, zeN_s, zeN_n, Nat.reduceEqDiff, and_self, and_true, true_and, and_false, false_and, ite_true, ite_false, reduceIte, r1, tg_176 r4, gR_176_56 r4, j2]
      rw [if_neg (by decide), if_pos (show ai β' 32 32 223 0 = true from ai_nI (k := 0) (.inl (tg_223 j4)) (ln_223 j4) (by omega) (by omega)), q_X12_houseTold_51]
      rfl
  obtain ⟨b4, c1, c2, c3, c4, c5⟩ := r_no (w := 9) (by decide) z2 (by rw [hw]; exact q9)
  have c1 : zM 196 [.ref 176, .ref 187] b3 = some (some (.int 0), b4) := c1
  simp -implicitDefEqProofs only [tg_sI, ln_sI, tg_sL, ln_sL, tg_sR, ln_sR, tg_sC, ln_sC, ai_sI, ai_sL, gL_sI, gR_sI, gI_sL, gR_sL, gI_sR, gL_sR, gI_sI, gL_sL, gR_sR, zlt_e, zln_e, zli_e, zll_e, zbI_e, zbL_e, zbR_e, zbV_e, zeR_e, zeN_s, zeN_n, Nat.reduceEqDiff, and_self, and_true, true_and, and_false, false_and, ite_true, ite_false, reduceIte, c1, tg_176 c5, gR_176_20 c5]
  try rw [if_pos rfl]
  have c4 := z4.trans c4
  by_cases q10 : w = 10
  · subst q10
    obtain ⟨β1, r1, r2, r3, r4⟩ := r_yes (w := 10) (by decide) c2 hw
    have r1 : zM 196 [.ref 176, .ref 188] b4 = some (some (.int 1), β1) := r1
    have r3 := c4.trans r3
    obtain ⟨α1, a1, a2⟩ := adv (by decide)
    have hS1 := CS_sh a2
    have u1 := Un_tok hS a1 rfl (by decide +kernel)
    have hJ1 := JH_rd hJ hP hS hS2 u1 r3
    obtain ⟨α', β', v, x, j1, j2, j3, j4, j5⟩ := j_set (c := 1) (hi := 9999) (by decide) rfl hP a2 r2 hJ1
    have j1 : zM 110 [.ref 8, .int 0, .int 9999] α1 = some (some (.int v), α') := j1
    have j2 : zM 200 [.ref 176, .int 0, .int 9999] β1 = some (some (.int x), β') := j2
    refine ⟨_, _, _, ?_, ?_, JR_w u1 r3 j5⟩
    · rw [q_X1_readStatement]
      simp -implicitDefEqProofs only [tg_sI, ln_sI, tg_sL, ln_sL, tg_sR, ln_sR, tg_sC, ln_sC, ai_sI, ai_sL, gL_sI, gR_sI, gI_sL, gR_sL, gI_sR, gL_sR, gI_sI, gL_sL, gR_sR, zlt_e, zln_e, zli_e, zll_e, zbI_e, zbL_e, zbR_e, zbV_e, zeR_e, zeN_s, zeN_n, Nat.reduceEqDiff, and_self, and_true, true_and, and_false, false_and, ite_true, ite_false, reduceIte, tg_11 hS, gR_11_0 hS, tg_8 hS, ho]
      rw [if_neg (show ¬ owJ 10 = 0 by decide), if_neg (show ¬ owJ 10 = 1 by decide), if_neg (show ¬ owJ 10 = 2 by decide), if_neg (show ¬ owJ 10 = 3 by decide), if_neg (show ¬ owJ 10 = 4 by decide), if_neg (show ¬ owJ 10 = 5 by decide), if_neg (show ¬ owJ 10 = 6 by decide), if_neg (show ¬ owJ 10 = 7 by decide), if_neg (show ¬ owJ 10 = 8 by decide), if_neg (show ¬ owJ 10 = 9 by decide), if_pos (show owJ 10 = 10 by decide), a1]
      simp -implicitDefEqProofs only [tg_sI, ln_sI, tg_sL, ln_sL, tg_sR, ln_sR, tg_sC, ln_sC, ai_sI, ai_sL, gL_sI, gR_sI, gI_sL, gR_sL, gI_sR, gL_sR, gI_sI, gL_sL, gR_sR, zlt_e, zln_e, zli_e, zll_e, zbI_e, zbL_e, zbR_e, zbV_e, zeR_e, zeN_s, zeN_n, Nat.reduceEqDiff, and_self, and_true, true_and, and_false, false_and, ite_true, ite_false, reduceIte, tg_11 hS1, gR_11_0 hS1, tg_8 hS1, j1, j3]
    · simp -implicitDefEqProofs only [tg_sI, ln_sI, tg_sL, ln_sL, tg_sR, ln_sR, tg_sC, ln_sC, ai_sI, ai_sL, gL_sI, gR_sI, gI_sL, gR_sL, gI_sR, gL_sR, gI_sI, gL_sL, gR_sR, zlt_e, zln_e, zli_e, zll_e, zbI_e, zbL_e, zbR_e, zbV_e, zeR_e, zeN_s, zeN_n, Nat.reduceEqDiff, and_self, and_true, true_and, and_false, false_and, ite_true, ite_false, reduceIte, r1]
      rw [if_neg (by decide), q_X12_houseTold_57]
      simp -implicitDefEqProofs only [tg_sI, ln_sI, tg_sL, ln_sL, tg_sR, ln_sR, tg_sC, ln_sC, ai_sI, ai_sL, gL_sI, gR_sI, gI_sL, gR_sL, gI_sR, gL_sR, gI_sI, gL_sL, gR_sR, zlt_e, zln_e, zli_e, zll_e, zbI_e, zbL_e, zbR_e, zbV_e, zeR_e, zeN_s, zeN_n, Nat.reduceEqDiff, and_self, and_true, true_and, and_false, false_and, ite_true, ite_false, reduceIte, tg_176 r4, gR_176_56 r4, j2]
      rw [if_pos (show ai β' 32 32 223 1 = true from ai_nI (k := 1) (.inl (tg_223 j4)) (ln_223 j4) (by omega) (by omega))]
      rfl
  obtain ⟨b5, d1, d2, d3, d4, d5⟩ := r_no (w := 10) (by decide) c2 (by rw [hw]; exact q10)
  have d1 : zM 196 [.ref 176, .ref 188] b4 = some (some (.int 0), b5) := d1
  simp -implicitDefEqProofs only [tg_sI, ln_sI, tg_sL, ln_sL, tg_sR, ln_sR, tg_sC, ln_sC, ai_sI, ai_sL, gL_sI, gR_sI, gI_sL, gR_sL, gI_sR, gL_sR, gI_sI, gL_sL, gR_sR, zlt_e, zln_e, zli_e, zll_e, zbI_e, zbL_e, zbR_e, zbV_e, zeR_e, zeN_s, zeN_n, Nat.reduceEqDiff, and_self, and_true, true_and, and_false, false_and, ite_true, ite_false, reduceIte, d1]
  first | rw [if_pos rfl, q_X12_houseTold_66] | rw [q_X12_houseTold_66]
  simp -implicitDefEqProofs only [tg_sI, ln_sI, tg_sL, ln_sL, tg_sR, ln_sR, tg_sC, ln_sC, ai_sI, ai_sL, gL_sI, gR_sI, gI_sL, gR_sL, gI_sR, gL_sR, gI_sI, gL_sL, gR_sR, zlt_e, zln_e, zli_e, zll_e, zbI_e, zbL_e, zbR_e, zbV_e, zeR_e, zeN_s, zeN_n, Nat.reduceEqDiff, and_self, and_true, true_and, and_false, false_and, ite_true, ite_false, reduceIte, tg_176 d5, gR_176_21 d5]
  have d4 := c4.trans d4
  by_cases q11 : w = 11
  · subst q11
    obtain ⟨β1, r1, r2, r3, r4⟩ := r_yes (w := 11) (by decide) d2 hw
    have r1 : zM 196 [.ref 176, .ref 189] b5 = some (some (.int 1), β1) := r1
    have r3 := d4.trans r3
    obtain ⟨α1, a1, a2⟩ := adv (by decide)
    have hS1 := CS_sh a2
    have u1 := Un_tok hS a1 rfl (by decide +kernel)
    have hJ1 := JH_rd hJ hP hS hS2 u1 r3
    obtain ⟨α', β', v, x, j1, j2, j3, j4, j5⟩ := j_set (c := 2) (hi := 99) (by decide) rfl hP a2 r2 hJ1
    have j1 : zM 110 [.ref 8, .int 0, .int 99] α1 = some (some (.int v), α') := j1
    have j2 : zM 200 [.ref 176, .int 0, .int 99] β1 = some (some (.int x), β') := j2
    refine ⟨_, _, _, ?_, ?_, JR_w u1 r3 j5⟩
    · rw [q_X1_readStatement]
      simp -implicitDefEqProofs only [tg_sI, ln_sI, tg_sL, ln_sL, tg_sR, ln_sR, tg_sC, ln_sC, ai_sI, ai_sL, gL_sI, gR_sI, gI_sL, gR_sL, gI_sR, gL_sR, gI_sI, gL_sL, gR_sR, zlt_e, zln_e, zli_e, zll_e, zbI_e, zbL_e, zbR_e, zbV_e, zeR_e, zeN_s, zeN_n, Nat.reduceEqDiff, and_self, and_true, true_and, and_false, false_and, ite_true, ite_false, reduceIte, tg_11 hS, gR_11_0 hS, tg_8 hS, ho]
      rw [if_neg (show ¬ owJ 11 = 0 by decide), if_neg (show ¬ owJ 11 = 1 by decide), if_neg (show ¬ owJ 11 = 2 by decide), if_neg (show ¬ owJ 11 = 3 by decide), if_neg (show ¬ owJ 11 = 4 by decide), if_neg (show ¬ owJ 11 = 5 by decide), if_neg (show ¬ owJ 11 = 6 by decide), if_neg (show ¬ owJ 11 = 7 by decide), if_neg (show ¬ owJ 11 = 8 by decide), if_neg (show ¬ owJ 11 = 9 by decide), if_neg (show ¬ owJ 11 = 10 by decide), if_pos (show owJ 11 = 11 by decide), a1]
      simp -implicitDefEqProofs only [tg_sI, ln_sI, tg_sL, ln_sL, tg_sR, ln_sR, tg_sC, ln_sC, ai_sI, ai_sL, gL_sI, gR_sI, gI_sL, gR_sL, gI_sR, gL_sR, gI_sI, gL_sL, gR_sR, zlt_e, zln_e, zli_e, zll_e, zbI_e, zbL_e, zbR_e, zbV_e, zeR_e, zeN_s, zeN_n, Nat.reduceEqDiff, and_self, and_true, true_and, and_false, false_and, ite_true, ite_false, reduceIte, tg_11 hS1, gR_11_0 hS1, tg_8 hS1, j1, j3]
    · simp -implicitDefEqProofs only [tg_sI, ln_sI, tg_sL, ln_sL, tg_sR, ln_sR, tg_sC, ln_sC, ai_sI, ai_sL, gL_sI, gR_sI, gI_sL, gR_sL, gI_sR, gL_sR, gI_sI, gL_sL, gR_sR, zlt_e, zln_e, zli_e, zll_e, zbI_e, zbL_e, zbR_e, zbV_e, zeR_e, zeN_s, zeN_n, Nat.reduceEqDiff, and_self, and_true, true_and, and_false, false_and, ite_true, ite_false, reduceIte, r1, tg_176 r4, gR_176_56 r4, j2]
      rw [if_neg (by decide), if_pos (show ai β' 32 32 223 2 = true from ai_nI (k := 2) (.inl (tg_223 j4)) (ln_223 j4) (by omega) (by omega))]
      rfl
  obtain ⟨b6, f1, f2, f3, f4, f5⟩ := r_no (w := 11) (by decide) d2 (by rw [hw]; exact q11)
  have f1 : zM 196 [.ref 176, .ref 189] b5 = some (some (.int 0), b6) := f1
  simp -implicitDefEqProofs only [tg_sI, ln_sI, tg_sL, ln_sL, tg_sR, ln_sR, tg_sC, ln_sC, ai_sI, ai_sL, gL_sI, gR_sI, gI_sL, gR_sL, gI_sR, gL_sR, gI_sI, gL_sL, gR_sR, zlt_e, zln_e, zli_e, zll_e, zbI_e, zbL_e, zbR_e, zbV_e, zeR_e, zeN_s, zeN_n, Nat.reduceEqDiff, and_self, and_true, true_and, and_false, false_and, ite_true, ite_false, reduceIte, f1, tg_176 f5, gR_176_22 f5]
  try rw [if_pos rfl]
  have f4 := d4.trans f4
  by_cases q12 : w = 12
  · subst q12
    obtain ⟨β1, r1, r2, r3, r4⟩ := r_yes (w := 12) (by decide) f2 hw
    have r1 : zM 196 [.ref 176, .ref 190] b6 = some (some (.int 1), β1) := r1
    have r3 := f4.trans r3
    have hJ1 := JH_rd hJ hP hS hS2 (Un.refl _ _) r3
    obtain ⟨α', β', st', j1, j2, j3⟩ := j_stock hP hC (by rw [hw]; decide) r2 hJ1
    refine ⟨α', β', st', ?_, ?_, JR_w (Un.refl _ _) r3 j3⟩
    · rw [q_X1_readStatement]
      simp -implicitDefEqProofs only [tg_sI, ln_sI, tg_sL, ln_sL, tg_sR, ln_sR, tg_sC, ln_sC, ai_sI, ai_sL, gL_sI, gR_sI, gI_sL, gR_sL, gI_sR, gL_sR, gI_sI, gL_sL, gR_sR, zlt_e, zln_e, zli_e, zll_e, zbI_e, zbL_e, zbR_e, zbV_e, zeR_e, zeN_s, zeN_n, Nat.reduceEqDiff, and_self, and_true, true_and, and_false, false_and, ite_true, ite_false, reduceIte, tg_11 hS, gR_11_0 hS, tg_8 hS, ho]
      rw [if_neg (show ¬ owJ 12 = 0 by decide), if_neg (show ¬ owJ 12 = 1 by decide), if_neg (show ¬ owJ 12 = 2 by decide), if_neg (show ¬ owJ 12 = 3 by decide), if_neg (show ¬ owJ 12 = 4 by decide), if_neg (show ¬ owJ 12 = 5 by decide), if_neg (show ¬ owJ 12 = 6 by decide), if_neg (show ¬ owJ 12 = 7 by decide), if_neg (show ¬ owJ 12 = 8 by decide), if_neg (show ¬ owJ 12 = 9 by decide), if_neg (show ¬ owJ 12 = 10 by decide), if_neg (show ¬ owJ 12 = 11 by decide), if_pos (show owJ 12 = 12 by decide), j1]
      rfl
    · simp -implicitDefEqProofs only [tg_sI, ln_sI, tg_sL, ln_sL, tg_sR, ln_sR, tg_sC, ln_sC, ai_sI, ai_sL, gL_sI, gR_sI, gI_sL, gR_sL, gI_sR, gL_sR, gI_sI, gL_sL, gR_sR, zlt_e, zln_e, zli_e, zll_e, zbI_e, zbL_e, zbR_e, zbV_e, zeR_e, zeN_s, zeN_n, Nat.reduceEqDiff, and_self, and_true, true_and, and_false, false_and, ite_true, ite_false, reduceIte, r1, tg_176 r4, j2]
      rw [if_neg (by decide)]
  obtain ⟨b7, g1, g2, g3, g4, g5⟩ := r_no (w := 12) (by decide) f2 (by rw [hw]; exact q12)
  have g1 : zM 196 [.ref 176, .ref 190] b6 = some (some (.int 0), b7) := g1
  simp -implicitDefEqProofs only [tg_sI, ln_sI, tg_sL, ln_sL, tg_sR, ln_sR, tg_sC, ln_sC, ai_sI, ai_sL, gL_sI, gR_sI, gI_sL, gR_sL, gI_sR, gL_sR, gI_sI, gL_sL, gR_sR, zlt_e, zln_e, zli_e, zll_e, zbI_e, zbL_e, zbR_e, zbV_e, zeR_e, zeN_s, zeN_n, Nat.reduceEqDiff, and_self, and_true, true_and, and_false, false_and, ite_true, ite_false, reduceIte, g1, tg_176 g5, gR_176_23 g5]
  try rw [if_pos rfl]
  have g4 := f4.trans g4
  obtain ⟨β1, r1, r2⟩ := r_asks (w := 13) (by decide) g2
  have r1 : zM 197 [.ref 176, .ref 191] b7 = some (none, β1) := r1
  have r3 := g4.trans (Un_ref g5 r1 rfl (by decide +kernel))
  have r4 := RS_sh r2
  have hbad := bad_of r2
  simp -implicitDefEqProofs only [tg_sI, ln_sI, tg_sL, ln_sL, tg_sR, ln_sR, tg_sC, ln_sC, ai_sI, ai_sL, gL_sI, gR_sI, gI_sL, gR_sL, gI_sR, gL_sR, gI_sI, gL_sL, gR_sR, zlt_e, zln_e, zli_e, zll_e, zbI_e, zbL_e, zbR_e, zbV_e, zeR_e, zeN_s, zeN_n, Nat.reduceEqDiff, and_self, and_true, true_and, and_false, false_and, ite_true, ite_false, reduceIte, r1, tg_176 r4, hbad]
  by_cases q13 : w = 13
  · subst q13
    have hla : lW t n 13 (.inl (s, e)) = la t n (.inl (s, e)) := by unfold lW; rw [if_pos hw]
    rw [hla] at r2 ⊢
    have hJ1 := JH_rd hJ hP hS hS2 (Un.refl _ _) r3
    obtain ⟨α', β', st', j1, j2, j3⟩ := j_ask hP hC (by rw [hw]; decide) r2 hJ1
    refine ⟨α', β', st', ?_, ?_, JR_w (Un.refl _ _) r3 j3⟩
    · rw [q_X1_readStatement]
      simp -implicitDefEqProofs only [tg_sI, ln_sI, tg_sL, ln_sL, tg_sR, ln_sR, tg_sC, ln_sC, ai_sI, ai_sL, gL_sI, gR_sI, gI_sL, gR_sL, gI_sR, gL_sR, gI_sI, gL_sL, gR_sR, zlt_e, zln_e, zli_e, zll_e, zbI_e, zbL_e, zbR_e, zbV_e, zeR_e, zeN_s, zeN_n, Nat.reduceEqDiff, and_self, and_true, true_and, and_false, false_and, ite_true, ite_false, reduceIte, tg_11 hS, gR_11_0 hS, tg_8 hS, ho]
      rw [if_neg (show ¬ owJ 13 = 0 by decide), if_neg (show ¬ owJ 13 = 1 by decide), if_neg (show ¬ owJ 13 = 2 by decide), if_neg (show ¬ owJ 13 = 3 by decide), if_neg (show ¬ owJ 13 = 4 by decide), if_neg (show ¬ owJ 13 = 5 by decide), if_neg (show ¬ owJ 13 = 6 by decide), if_neg (show ¬ owJ 13 = 7 by decide), if_neg (show ¬ owJ 13 = 8 by decide), if_neg (show ¬ owJ 13 = 9 by decide), if_neg (show ¬ owJ 13 = 10 by decide), if_neg (show ¬ owJ 13 = 11 by decide), if_neg (show ¬ owJ 13 = 12 by decide), if_pos (show owJ 13 = 13 by decide), j1]
      rfl
    · rw [if_pos (show lL (la t n (.inl (s, e))) = true from rfl), q_X12_houseTold_95]
      simp -implicitDefEqProofs only [tg_sI, ln_sI, tg_sL, ln_sL, tg_sR, ln_sR, tg_sC, ln_sC, ai_sI, ai_sL, gL_sI, gR_sI, gI_sL, gR_sL, gI_sR, gL_sR, gI_sI, gL_sL, gR_sR, zlt_e, zln_e, zli_e, zll_e, zbI_e, zbL_e, zbR_e, zbV_e, zeR_e, zeN_s, zeN_n, Nat.reduceEqDiff, and_self, and_true, true_and, and_false, false_and, ite_true, ite_false, reduceIte, tg_176 r4, j2]
  · have hla : lW t n 13 (.inl (s, e)) = .inr (1, s) := by unfold lW; rw [if_neg (by rw [hw]; exact q13)]; rfl
    rw [hla] at r2 ⊢
    obtain ⟨α1, a1, a2⟩ := c_failHere hC (f := 1) (by decide) (by decide)
    have a1 : zM 107 [.ref 8, .int 1] α = some (none, α1) := a1
    have u1 := Un_tok hS a1 rfl (by decide +kernel)
    refine ⟨α1, β1, .inr (1, s), ?_, ?_, a2, r2, u1.mono (fun r j _ _ q => .inl q), r3.mono (fun r j _ _ q => .inl q), fun q => by cases q⟩
    · rw [c_other hC hw ⟨q0, q3, q8, q9, q10, q11, q12, q13⟩, a1]
      rfl
    · rw [if_neg (show ¬ lL (.inr (1, s)) = true from fun q => by cases q)]
end
