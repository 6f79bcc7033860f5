/-! calls that read a number of the house, of a person -/
section
variable {σ σ' σ1 σ2 α α' β β' : zS} {X : Nat → Nat → Prop} {u : Option Value} {B P S N M K np c k n m i mC mR : Nat} {aC aR : List Value} {t : Nat → Nat} {st : lx}
theorem ix0 : ix (0 : Int32) = 0 := rfl
theorem ix2 : ix (2 : Int32) = 2 := rfl
theorem RR_hn (h : RR B σ c P S N M K np t n) : HN σ P N M K := h.2.2.2.2.2.1.1
theorem RR_pn (h : RR B σ c P S N M K np t n) : PN σ np := h.2.2.2.2.2.2.2.1
theorem RR_cL (h : RR B σ c P S N M K np t n) (a : Int32) : zM 125 [.ref 6, .int a] σ = some (some (.int (if 0 ≤ a ∧ a < nI N then 1 else 0)), σ) := c_isLast h.1 h.2.1.1 h.2.1.2.2.2.1 (RR_hn h).1.1 a
theorem RR_rL (h : RR B σ c P S N M K np t n) (a : Int32) : zM 240 [.ref 176, .int a] σ = some (some (.int (if 0 ≤ a ∧ a < nI N then 1 else 0)), σ) := r_isLast h.1 (RR_hn h).1.2.2 (by have := (RR_hn h).1.2.1; omega) a
theorem RR_cP (h : RR B σ c P S N M K np t n) (a : Int32) : zM 128 [.ref 6, .int a] σ = some (some (.int (if 0 ≤ a ∧ a < nI np then 1 else 0)), σ) := c_isPerson h.1 (RR_pn h).2.1 a
theorem RR_rP (h : RR B σ c P S N M K np t n) (a : Int32) : zM 239 [.ref 176, .int a] σ = some (some (.int (if 0 ≤ a ∧ a < nI np then 1 else 0)), σ) := r_isPerson h.1 (RR_pn h).2.2 (by have := (RR_pn h).1; omega) a
theorem op_truth (h : RR B σ c P S N M K np t n) (a : Int32) : Al B σ c 179 [.ref 6, .int a] 309 [.ref 176, .int a] := by
  have hS := h.1
  have hP := h.2.1.1
  have n8 := (RR_hn h).1.2.1
  rcases rng_no a (N := N) (by omega) with q | ⟨k, hk, rfl⟩
  · refine Al_rd h (-1) ?_ ?_
    · rw [q_X11_truth]
      simp -implicitDefEqProofs only [tg_sI, ln_sI, tg_sL, ln_sL, tg_sR, ln_sR, tg_sC, ln_sC, ai_sI, ai_sL, gL_sI, gR_sI, gI_sL, gR_sL, gI_sR, gL_sR, gI_sI, gL_sL, gR_sR, zlt_e, zln_e, zli_e, zll_e, zbI_e, zbL_e, zbR_e, zbV_e, zeR_e, zeN_s, zeN_n, Nat.reduceEqDiff, and_self, and_true, true_and, and_false, false_and, ite_true, ite_false, reduceIte, tg_6 hS, RR_cL h, if_neg q]
    · rw [q_X12_truth]
      simp -implicitDefEqProofs only [tg_sI, ln_sI, tg_sL, ln_sL, tg_sR, ln_sR, tg_sC, ln_sC, ai_sI, ai_sL, gL_sI, gR_sI, gI_sL, gR_sL, gI_sR, gL_sR, gI_sI, gL_sL, gR_sR, zlt_e, zln_e, zli_e, zll_e, zbI_e, zbL_e, zbR_e, zbV_e, zeR_e, zeN_s, zeN_n, Nat.reduceEqDiff, and_self, and_true, true_and, and_false, false_and, ite_true, ite_false, reduceIte, tg_176 hS, RR_rL h, if_neg q]
  · have q := rng_ok hk (by omega)
    have hU : HU σ P k := h.2.2.2.2.2.1.2.2.2.2.2.2.2.2.1 k hk
    refine Al_rd h (gI σ 241 k) ?_ ?_
    · rw [q_X11_truth]
      simp -implicitDefEqProofs only [tg_sI, ln_sI, tg_sL, ln_sL, tg_sR, ln_sR, tg_sC, ln_sC, ai_sI, ai_sL, gL_sI, gR_sI, gI_sL, gR_sL, gI_sR, gL_sR, gI_sI, gL_sL, gR_sR, zlt_e, zln_e, zli_e, zll_e, zbI_e, zbL_e, zbR_e, zbV_e, zeR_e, zeN_s, zeN_n, Nat.reduceEqDiff, and_self, and_true, true_and, and_false, false_and, ite_true, ite_false, reduceIte, tg_6 hS, RR_cL h, if_pos q, h.2.1.2.2.2.1, tg_P hS hP, gR_P_0 hS hP]
      rw [if_neg (by decide), if_pos (ai_nI (.inl (tg_P1 hS hP)) (ln_P1 hS hP) (show k < 8 by omega) (by omega)), ixn (by omega), gR_Plast hS hP (by omega)]
      simp -implicitDefEqProofs only [tg_sI, ln_sI, tg_sL, ln_sL, tg_sR, ln_sR, tg_sC, ln_sC, ai_sI, ai_sL, gL_sI, gR_sI, gI_sL, gR_sL, gI_sR, gL_sR, gI_sI, gL_sL, gR_sR, zlt_e, zln_e, zli_e, zll_e, zbI_e, zbL_e, zbR_e, zbV_e, zeR_e, zeN_s, zeN_n, Nat.reduceEqDiff, and_self, and_true, true_and, and_false, false_and, ite_true, ite_false, reduceIte, tg_Plast hS hP (show k < 8 by omega), hU.1]
    · rw [q_X12_truth]
      simp -implicitDefEqProofs only [tg_sI, ln_sI, tg_sL, ln_sL, tg_sR, ln_sR, tg_sC, ln_sC, ai_sI, ai_sL, gL_sI, gR_sI, gI_sL, gR_sL, gI_sR, gL_sR, gI_sI, gL_sL, gR_sR, zlt_e, zln_e, zli_e, zll_e, zbI_e, zbL_e, zbR_e, zbV_e, zeR_e, zeN_s, zeN_n, Nat.reduceEqDiff, and_self, and_true, true_and, and_false, false_and, ite_true, ite_false, reduceIte, tg_176 hS, RR_rL h, if_pos q, gR_176_80 hS]
      rw [if_neg (by decide), if_pos (ai_nI (.inl (tg_241 hS)) (ln_241 hS) (show k < 8 by omega) (by omega)), ixn (by omega)]
theorem op_last (h : RR B σ c P S N M K np t n) (a b : Int32) : Al B σ c 138 [.ref 6, .int a, .int b] 245 [.ref 176, .int a, .int b] := by
  have hS := h.1
  have hP := h.2.1.1
  have n8 := (RR_hn h).1.2.1
  rcases rng_no a (N := N) (by omega) with q | ⟨k, hk, rfl⟩
  · refine Al_rd h (-1) ?_ ?_
    · rw [q_X11_last]
      simp -implicitDefEqProofs only [tg_sI, ln_sI, tg_sL, ln_sL, tg_sR, ln_sR, tg_sC, ln_sC, ai_sI, ai_sL, gL_sI, gR_sI, gI_sL, gR_sL, gI_sR, gL_sR, gI_sI, gL_sL, gR_sR, zlt_e, zln_e, zli_e, zll_e, zbI_e, zbL_e, zbR_e, zbV_e, zeR_e, zeN_s, zeN_n, Nat.reduceEqDiff, and_self, and_true, true_and, and_false, false_and, ite_true, ite_false, reduceIte, tg_6 hS, RR_cL h, if_neg q]
    · rw [q_X12_last]
      simp -implicitDefEqProofs only [tg_sI, ln_sI, tg_sL, ln_sL, tg_sR, ln_sR, tg_sC, ln_sC, ai_sI, ai_sL, gL_sI, gR_sI, gI_sL, gR_sL, gI_sR, gL_sR, gI_sI, gL_sL, gR_sR, zlt_e, zln_e, zli_e, zll_e, zbI_e, zbL_e, zbR_e, zbV_e, zeR_e, zeN_s, zeN_n, Nat.reduceEqDiff, and_self, and_true, true_and, and_false, false_and, ite_true, ite_false, reduceIte, tg_176 hS, RR_rL h, if_neg q]
  · have q := rng_ok hk (by omega)
    by_cases qb : -1 ≤ b ∧ b ≤ 1
    · obtain ⟨d, e1, -, e3⟩ := sh_ix b (-1) 1 1 (by decide) (by omega) (by decide) qb
      have e3 : d < 3 := by
        have : (1 : Int32).toInt = 1 := by decide
        omega
      have e1 : b + 1 = nI d := e1
      obtain ⟨g, -, hg⟩ : HR σ P k := h.2.2.2.2.2.1.2.2.2.2.2.2.2.1 k hk
      refine Al_rd h (nI (g d)) ?_ ?_
      · rw [q_X11_last]
        simp -implicitDefEqProofs only [tg_sI, ln_sI, tg_sL, ln_sL, tg_sR, ln_sR, tg_sC, ln_sC, ai_sI, ai_sL, gL_sI, gR_sI, gI_sL, gR_sL, gI_sR, gL_sR, gI_sI, gL_sL, gR_sR, zlt_e, zln_e, zli_e, zll_e, zbI_e, zbL_e, zbR_e, zbV_e, zeR_e, zeN_s, zeN_n, Nat.reduceEqDiff, and_self, and_true, true_and, and_false, false_and, ite_true, ite_false, reduceIte, tg_6 hS, RR_cL h, if_pos q, sr_c, if_pos qb, h.2.1.2.2.2.1, tg_P hS hP, gR_P_0 hS hP, e1]
        rw [if_neg (by decide), if_neg (by decide), if_pos (ai_nI (.inl (tg_P1 hS hP)) (ln_P1 hS hP) (show k < 8 by omega) (by omega)), ixn (show k < 2 ^ 31 by omega), gR_Plast hS hP (by omega)]
        simp -implicitDefEqProofs only [tg_sI, ln_sI, tg_sL, ln_sL, tg_sR, ln_sR, tg_sC, ln_sC, ai_sI, ai_sL, gL_sI, gR_sI, gI_sL, gR_sL, gI_sR, gL_sR, gI_sI, gL_sL, gR_sR, zlt_e, zln_e, zli_e, zll_e, zbI_e, zbL_e, zbR_e, zbV_e, zeR_e, zeN_s, zeN_n, Nat.reduceEqDiff, and_self, and_true, true_and, and_false, false_and, ite_true, ite_false, reduceIte, tg_Plast hS hP (show k < 8 by omega), gR_Pruns hS hP (show k < 8 by omega)]
        rw [if_pos (ai_nI (.inl (tg_Pruns hS hP (show k < 8 by omega))) (ln_Pruns hS hP (by omega)) e3 (by omega)), ixn (by omega), (hg d e3).1]
      · have e2 : 3 * nI k + b + 1 = nI (3 * k + d) := by
          rw [Int32.add_assoc, e1, nI_mulL, nI_add]
        rw [q_X12_last]
        simp -implicitDefEqProofs only [tg_sI, ln_sI, tg_sL, ln_sL, tg_sR, ln_sR, tg_sC, ln_sC, ai_sI, ai_sL, gL_sI, gR_sI, gI_sL, gR_sL, gI_sR, gL_sR, gI_sI, gL_sL, gR_sR, zlt_e, zln_e, zli_e, zll_e, zbI_e, zbL_e, zbR_e, zbV_e, zeR_e, zeN_s, zeN_n, Nat.reduceEqDiff, and_self, and_true, true_and, and_false, false_and, ite_true, ite_false, reduceIte, tg_176 hS, RR_rL h, if_pos q, sr_r, if_pos qb, gR_176_74 hS, e2]
        rw [if_neg (by decide), if_neg (by decide), if_pos (ai_nI (.inl (tg_235 hS)) (ln_235 hS) (show 3 * k + d < 24 by omega) (by omega)), ixn (by omega), (hg d e3).2]
    · refine Al_rd h (-1) ?_ ?_
      · rw [q_X11_last]
        simp -implicitDefEqProofs only [tg_sI, ln_sI, tg_sL, ln_sL, tg_sR, ln_sR, tg_sC, ln_sC, ai_sI, ai_sL, gL_sI, gR_sI, gI_sL, gR_sL, gI_sR, gL_sR, gI_sI, gL_sL, gR_sR, zlt_e, zln_e, zli_e, zll_e, zbI_e, zbL_e, zbR_e, zbV_e, zeR_e, zeN_s, zeN_n, Nat.reduceEqDiff, and_self, and_true, true_and, and_false, false_and, ite_true, ite_false, reduceIte, tg_6 hS, RR_cL h, if_pos q, sr_c, if_neg qb]
        rw [if_neg (by decide)]
      · rw [q_X12_last]
        simp -implicitDefEqProofs only [tg_sI, ln_sI, tg_sL, ln_sL, tg_sR, ln_sR, tg_sC, ln_sC, ai_sI, ai_sL, gL_sI, gR_sI, gI_sL, gR_sL, gI_sR, gL_sR, gI_sI, gL_sL, gR_sR, zlt_e, zln_e, zli_e, zll_e, zbI_e, zbL_e, zbR_e, zbV_e, zeR_e, zeN_s, zeN_n, Nat.reduceEqDiff, and_self, and_true, true_and, and_false, false_and, ite_true, ite_false, reduceIte, tg_176 hS, RR_rL h, if_pos q, sr_r, if_neg qb]
        rw [if_neg (by decide)]
theorem op_foot (h : RR B σ c P S N M K np t n) (a b : Int32) : Al B σ c 137 [.ref 6, .int a, .int b] 244 [.ref 176, .int a, .int b] := by
  have hS := h.1
  have n20 := (RR_pn h).1
  rcases rng_no a (N := np) (by omega) with q | ⟨k, hk, rfl⟩
  · refine Al_rd h (-1) ?_ ?_
    · rw [q_X11_foot]
      simp -implicitDefEqProofs only [tg_sI, ln_sI, tg_sL, ln_sL, tg_sR, ln_sR, tg_sC, ln_sC, ai_sI, ai_sL, gL_sI, gR_sI, gI_sL, gR_sL, gI_sR, gL_sR, gI_sI, gL_sL, gR_sR, zlt_e, zln_e, zli_e, zll_e, zbI_e, zbL_e, zbR_e, zbV_e, zeR_e, zeN_s, zeN_n, Nat.reduceEqDiff, and_self, and_true, true_and, and_false, false_and, ite_true, ite_false, reduceIte, tg_6 hS, RR_cP h, if_neg q]
    · rw [q_X12_foot]
      simp -implicitDefEqProofs only [tg_sI, ln_sI, tg_sL, ln_sL, tg_sR, ln_sR, tg_sC, ln_sC, ai_sI, ai_sL, gL_sI, gR_sI, gI_sL, gR_sL, gI_sR, gL_sR, gI_sI, gL_sL, gR_sR, zlt_e, zln_e, zli_e, zll_e, zbI_e, zbL_e, zbR_e, zbV_e, zeR_e, zeN_s, zeN_n, Nat.reduceEqDiff, and_self, and_true, true_and, and_false, false_and, ite_true, ite_false, reduceIte, tg_176 hS, RR_rP h, if_neg q]
  · have q := rng_ok hk (by omega)
    have k20 : k < 20 := by omega
    by_cases qb : -2 ≤ b ∧ b ≤ 2
    · obtain ⟨d, e1, -, e3⟩ := sh_ix b (-2) 2 2 (by decide) (by omega) (by decide) qb
      have e3 : d < 5 := by
        have : (2 : Int32).toInt = 2 := by decide
        omega
      have e1 : b + 2 = nI d := e1
      obtain ⟨so, z, -, -, -, -, ⟨g, -, hg⟩, -⟩ := h.2.2.2.2.2.2.2.2.1 k hk
      refine Al_rd h (nI (g d)) ?_ ?_
      · rw [q_X11_foot]
        simp -implicitDefEqProofs only [tg_sI, ln_sI, tg_sL, ln_sL, tg_sR, ln_sR, tg_sC, ln_sC, ai_sI, ai_sL, gL_sI, gR_sI, gI_sL, gR_sL, gI_sR, gL_sR, gI_sI, gL_sL, gR_sR, zlt_e, zln_e, zli_e, zll_e, zbI_e, zbL_e, zbR_e, zbV_e, zeR_e, zeN_s, zeN_n, Nat.reduceEqDiff, and_self, and_true, true_and, and_false, false_and, ite_true, ite_false, reduceIte, tg_6 hS, RR_cP h, if_pos q, sg_c, if_pos qb, gR_6_9 hS, e1]
        rw [if_neg (by decide), if_neg (by decide), if_pos (ai_nI (.inl (tg_104 hS)) (ln_104 hS) k20 (by omega)), ixn (show k < 2 ^ 31 by omega), gR_people hS k20]
        simp -implicitDefEqProofs only [tg_sI, ln_sI, tg_sL, ln_sL, tg_sR, ln_sR, tg_sC, ln_sC, ai_sI, ai_sL, gL_sI, gR_sI, gI_sL, gR_sL, gI_sR, gL_sR, gI_sI, gL_sL, gR_sR, zlt_e, zln_e, zli_e, zll_e, zbI_e, zbL_e, zbR_e, zbV_e, zeR_e, zeN_s, zeN_n, Nat.reduceEqDiff, and_self, and_true, true_and, and_false, false_and, ite_true, ite_false, reduceIte, tg_person hS k20, gR_pfeet hS k20]
        rw [if_pos (ai_nI (.inl (tg_pfeet hS k20)) (ln_pfeet hS k20) e3 (by omega)), ixn (by omega), (hg d e3).1]
      · have e2 : 5 * nI k + b + 2 = nI (5 * k + d) := by
          rw [Int32.add_assoc, e1, nI_mulL, nI_add]
        rw [q_X12_foot]
        simp -implicitDefEqProofs only [tg_sI, ln_sI, tg_sL, ln_sL, tg_sR, ln_sR, tg_sC, ln_sC, ai_sI, ai_sL, gL_sI, gR_sI, gI_sL, gR_sL, gI_sR, gL_sR, gI_sI, gL_sL, gR_sR, zlt_e, zln_e, zli_e, zll_e, zbI_e, zbL_e, zbR_e, zbV_e, zeR_e, zeN_s, zeN_n, Nat.reduceEqDiff, and_self, and_true, true_and, and_false, false_and, ite_true, ite_false, reduceIte, tg_176 hS, RR_rP h, if_pos q, sg_r, if_pos qb, gR_176_73 hS, e2]
        rw [if_neg (by decide), if_neg (by decide), if_pos (ai_nI (.inl (tg_234 hS)) (ln_234 hS) (show 5 * k + d < 100 by omega) (by omega)), ixn (by omega), (hg d e3).2]
    · refine Al_rd h (-1) ?_ ?_
      · rw [q_X11_foot]
        simp -implicitDefEqProofs only [tg_sI, ln_sI, tg_sL, ln_sL, tg_sR, ln_sR, tg_sC, ln_sC, ai_sI, ai_sL, gL_sI, gR_sI, gI_sL, gR_sL, gI_sR, gL_sR, gI_sI, gL_sL, gR_sR, zlt_e, zln_e, zli_e, zll_e, zbI_e, zbL_e, zbR_e, zbV_e, zeR_e, zeN_s, zeN_n, Nat.reduceEqDiff, and_self, and_true, true_and, and_false, false_and, ite_true, ite_false, reduceIte, tg_6 hS, RR_cP h, if_pos q, sg_c, if_neg qb]
        rw [if_neg (by decide)]
      · rw [q_X12_foot]
        simp -implicitDefEqProofs only [tg_sI, ln_sI, tg_sL, ln_sL, tg_sR, ln_sR, tg_sC, ln_sC, ai_sI, ai_sL, gL_sI, gR_sI, gI_sL, gR_sL, gI_sR, gL_sR, gI_sI, gL_sL, gR_sR, zlt_e, zln_e, zli_e, zll_e, zbI_e, zbL_e, zbR_e, zbV_e, zeR_e, zeN_s, zeN_n, Nat.reduceEqDiff, and_self, and_true, true_and, and_false, false_and, ite_true, ite_false, reduceIte, tg_176 hS, RR_rP h, if_pos q, sg_r, if_neg qb]
        rw [if_neg (by decide)]
theorem op_octet (h : RR B σ c P S N M K np t n) (a : Int32) : Al B σ c 184 [.ref 6, .int a] 315 [.ref 176, .int a] := by
  have hS := h.1
  obtain ⟨len, l1, l2, l3, l4⟩ : IM σ := h.2.2.2.2.2.2.2.2.2.1
  by_cases q : a < 0
  · refine Al_rd h (-1) ?_ ?_
    · rw [q_X11_octet]
      simp -implicitDefEqProofs only [tg_sI, ln_sI, tg_sL, ln_sL, tg_sR, ln_sR, tg_sC, ln_sC, ai_sI, ai_sL, gL_sI, gR_sI, gI_sL, gR_sL, gI_sR, gL_sR, gI_sI, gL_sL, gR_sR, zlt_e, zln_e, zli_e, zll_e, zbI_e, zbL_e, zbR_e, zbV_e, zeR_e, zeN_s, zeN_n, Nat.reduceEqDiff, and_self, and_true, true_and, and_false, false_and, ite_true, ite_false, reduceIte, tg_6 hS, gR_6_14 hS, tg_110 hS, q_X2_byteAt, if_pos q]
    · rw [q_X12_octet, if_pos q]
  · by_cases p : nI len ≤ a
    · refine Al_rd h (-1) ?_ ?_
      · rw [q_X11_octet]
        simp -implicitDefEqProofs only [tg_sI, ln_sI, tg_sL, ln_sL, tg_sR, ln_sR, tg_sC, ln_sC, ai_sI, ai_sL, gL_sI, gR_sI, gI_sL, gR_sL, gI_sR, gL_sR, gI_sI, gL_sL, gR_sR, zlt_e, zln_e, zli_e, zll_e, zbI_e, zbL_e, zbR_e, zbV_e, zeR_e, zeN_s, zeN_n, Nat.reduceEqDiff, and_self, and_true, true_and, and_false, false_and, ite_true, ite_false, reduceIte, tg_6 hS, gR_6_14 hS, tg_110 hS, q_X2_byteAt, if_neg q, l2, if_pos p]
      · rw [q_X12_octet, if_neg q]
        simp -implicitDefEqProofs only [tg_sI, ln_sI, tg_sL, ln_sL, tg_sR, ln_sR, tg_sC, ln_sC, ai_sI, ai_sL, gL_sI, gR_sI, gI_sL, gR_sL, gI_sR, gL_sR, gI_sI, gL_sL, gR_sR, zlt_e, zln_e, zli_e, zll_e, zbI_e, zbL_e, zbR_e, zbV_e, zeR_e, zeN_s, zeN_n, Nat.reduceEqDiff, and_self, and_true, true_and, and_false, false_and, ite_true, ite_false, reduceIte, tg_176 hS, l3, if_pos p]
    · rcases pk_ix a (n := len) (by omega) with z | z | ⟨k, hk, rfl⟩
      · exact absurd z q
      · exact absurd z p
      · obtain ⟨b, b1, b2, b3⟩ := l4 k hk
        refine Al_rd h (nI b) ?_ ?_
        · rw [q_X11_octet]
          simp -implicitDefEqProofs only [tg_sI, ln_sI, tg_sL, ln_sL, tg_sR, ln_sR, tg_sC, ln_sC, ai_sI, ai_sL, gL_sI, gR_sI, gI_sL, gR_sL, gI_sR, gL_sR, gI_sI, gL_sL, gR_sR, zlt_e, zln_e, zli_e, zll_e, zbI_e, zbL_e, zbR_e, zbV_e, zeR_e, zeN_s, zeN_n, Nat.reduceEqDiff, and_self, and_true, true_and, and_false, false_and, ite_true, ite_false, reduceIte, tg_6 hS, gR_6_14 hS, tg_110 hS, q_X2_byteAt, if_neg q, l2, if_neg p, gR_110_0 hS]
          rw [if_pos (ai_nI (.inl (tg_111 hS)) (ln_111 hS) (show k < 290 by omega) (by omega)), ixn (by omega), b2, sb_and b b1, zbI_e]
        · rw [q_X12_octet, if_neg q]
          simp -implicitDefEqProofs only [tg_sI, ln_sI, tg_sL, ln_sL, tg_sR, ln_sR, tg_sC, ln_sC, ai_sI, ai_sL, gL_sI, gR_sI, gI_sL, gR_sL, gI_sR, gL_sR, gI_sI, gL_sL, gR_sR, zlt_e, zln_e, zli_e, zll_e, zbI_e, zbL_e, zbR_e, zbV_e, zeR_e, zeN_s, zeN_n, Nat.reduceEqDiff, and_self, and_true, true_and, and_false, false_and, ite_true, ite_false, reduceIte, tg_176 hS, l3, if_neg p, gR_176_96 hS]
          rw [if_pos (ai_nI (.inl (tg_252 hS)) (ln_252 hS) (show k < 310 by omega) (by omega)), ixn (by omega), b3]
end
