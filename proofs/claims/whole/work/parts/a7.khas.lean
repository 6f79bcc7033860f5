/-! has -/
section
variable {σ σ' σ1 σ2 α α' β β' : zS} {X : Nat → Nat → Prop} {u : Option Value} {B P S N M K np c k n m i mC mR : Nat} {aC aR : List Value} {t : Nat → Nat} {st : lx}
theorem cnt_s (p : Nat → Bool) (i : Nat) : nI (cnt p (i + 1)) = if p i = true then nI (cnt p i) + 1 else nI (cnt p i) := by
  show nI (cnt p i + if p i = true then 1 else 0) = _
  split
  · rw [nI_1]
  · rfl
theorem c_rules (hS : Sh σ) (hU : ∀ k, k < 3 → RUk σ k) : zM 46 [.ref 12] σ = some (some (.int (nI (cnt (fun k => decide (gI σ 227 k = 1)) 3))), σ) := by
  have e := lp_seq (G := fun i => zR 2 46 4 [some (.ref 12), some (.int (nI (cnt (fun k => decide (gI σ 227 k = 1)) i))), some (.int (nI i))] [] σ) 3 (fun i hi => by
    rw [q_X6_count_4, if_neg (show ¬ (3 : Int32) ≤ nI i from nI_ge (b := 3) hi (by omega)), cnt_s]
    have a3 : ai σ 80 80 13 (nI i) = true := ai_nI (.inl (tg_13 hS)) (ln_13 hS) hi (by omega)
    simp -implicitDefEqProofs only [tg_sI, ln_sI, tg_sL, ln_sL, tg_sR, ln_sR, tg_sC, ln_sC, ai_sI, ai_sL, gL_sI, gR_sI, gI_sL, gR_sL, gI_sR, gL_sR, gI_sI, gL_sL, gR_sR, zlt_e, zln_e, zli_e, zll_e, zbI_e, zbL_e, zbR_e, zbV_e, zeR_e, zeN_s, zeN_n, Nat.reduceEqDiff, and_self, and_true, true_and, and_false, false_and, ite_true, ite_false, reduceIte, tg_12 hS, q_X6_isThere, if_neg (nI_pos (show i < 2 ^ 31 by omega)), if_neg (show ¬ (3 : Int32) ≤ nI i from nI_ge (b := 3) hi (by omega)), gR_12_1 hS, a3, ixn (show i < 2 ^ 31 by omega)]
    rcases hU i hi with ⟨u1, u2⟩ | ⟨r, SS, u1, -, -, -, -, -, -, -, u2, -⟩
    · simp -implicitDefEqProofs only [tg_sI, ln_sI, tg_sL, ln_sL, tg_sR, ln_sR, tg_sC, ln_sC, ai_sI, ai_sL, gL_sI, gR_sI, gI_sL, gR_sL, gI_sR, gL_sR, gI_sI, gL_sL, gR_sR, zlt_e, zln_e, zli_e, zll_e, zbI_e, zbL_e, zbR_e, zbV_e, zeR_e, zeN_s, zeN_n, Nat.reduceEqDiff, and_self, and_true, true_and, and_false, false_and, ite_true, ite_false, reduceIte, u1, nI_1]
      rw [if_neg (by rw [u2]; decide)]
    · simp -implicitDefEqProofs only [tg_sI, ln_sI, tg_sL, ln_sL, tg_sR, ln_sR, tg_sC, ln_sC, ai_sI, ai_sL, gL_sI, gR_sI, gI_sL, gR_sL, gI_sR, gL_sR, gI_sI, gL_sL, gR_sR, zlt_e, zln_e, zli_e, zll_e, zbI_e, zbL_e, zbR_e, zbV_e, zeR_e, zeN_s, zeN_n, Nat.reduceEqDiff, and_self, and_true, true_and, and_false, false_and, ite_true, ite_false, reduceIte, u1, nI_1]
      rw [if_neg (by decide), if_pos (by rw [u2]; decide)])
  rw [q_X6_count]
  refine Eq.trans e ?_
  rw [q_X6_count_4, if_pos (show (3 : Int32) ≤ nI 3 by decide)]
theorem r_rules (hS : Sh σ) (hU : ∀ k, k < 3 → RUk σ k) (x : Int32) : zR 1 237 13 [some (.ref 176), some (.int x), some (.int 0), some (.int 0)] [] σ = some (some (.int (nI (cnt (fun k => decide (gI σ 227 k = 1)) 3))), σ) := by
  have e := lp_seq (G := fun i => zR 1 237 13 [some (.ref 176), some (.int x), some (.int (nI (cnt (fun k => decide (gI σ 227 k = 1)) i))), some (.int (nI i))] [] σ) 3 (fun i hi => by
    rw [q_X12_has_13, if_neg (show ¬ (3 : Int32) ≤ nI i from nI_ge (b := 3) hi (by omega)), cnt_s]
    simp -implicitDefEqProofs only [tg_sI, ln_sI, tg_sL, ln_sL, tg_sR, ln_sR, tg_sC, ln_sC, ai_sI, ai_sL, gL_sI, gR_sI, gI_sL, gR_sL, gI_sR, gL_sR, gI_sI, gL_sL, gR_sR, zlt_e, zln_e, zli_e, zll_e, zbI_e, zbL_e, zbR_e, zbV_e, zeR_e, zeN_s, zeN_n, Nat.reduceEqDiff, and_self, and_true, true_and, and_false, false_and, ite_true, ite_false, reduceIte, tg_176 hS, gR_176_64 hS]
    rw [if_pos (ai_nI (.inl (tg_227 hS)) (ln_227 hS) hi (by omega)), ixn (by omega), nI_1]
    rcases hU i hi with ⟨u1, u2⟩ | ⟨r, SS, u1, -, -, -, -, -, -, -, u2, -⟩
    · rw [if_pos u2, if_neg (by rw [u2]; decide)]
    · rw [if_neg (by rw [u2]; decide), if_pos (by rw [u2]; decide)])
  refine Eq.trans e ?_
  rw [q_X12_has_13, if_pos (show (3 : Int32) ≤ nI 3 by decide)]
theorem PB_0 (h : PB σ N k m) (hN : N ≤ 8) : (gI σ (116 + 3 * k) 6 = 0) = (gI σ 238 k = -1) := by
  rcases h with ⟨x1, x2, x3, x4⟩ | ⟨l, b, y1, y2, y3, -, -, x1, x2, x3, x4⟩
  · rw [x3, x2]; simp
  · rw [x3, x2]
    apply propext
    constructor
    · intro q; exact absurd q (nI_ne0 (by omega) (by omega))
    · intro q; exact absurd q (nI_nm1 (by have := y1; omega))
theorem c_boxes (h : RR B σ c P S N M K np t n) : zM 122 [.ref 6] σ = some (some (.int (nI (cnt (fun k => !decide (gI σ 238 k = -1)) np))), σ) := by
  have hS := h.1
  have n20 := (RR_pn h).1
  have h10 := (RR_pn h).2.1
  have e := lp_seq (G := fun i => zR 2 122 4 [some (.ref 6), some (.int (nI (cnt (fun k => !decide (gI σ 238 k = -1)) i))), some (.int (nI i))] [] σ) np (fun i hi => by
    have i20 : i < 20 := by omega
    obtain ⟨so, z, -, -, -, -, -, p6, -⟩ := h.2.2.2.2.2.2.2.2.1 i hi
    have e0 := PB_0 p6 (RR_hn h).1.2.1
    rw [q_X11_countBoxesOut_4, cnt_s]
    simp -implicitDefEqProofs only [tg_sI, ln_sI, tg_sL, ln_sL, tg_sR, ln_sR, tg_sC, ln_sC, ai_sI, ai_sL, gL_sI, gR_sI, gI_sL, gR_sL, gI_sR, gL_sR, gI_sI, gL_sL, gR_sR, zlt_e, zln_e, zli_e, zll_e, zbI_e, zbL_e, zbR_e, zbV_e, zeR_e, zeN_s, zeN_n, Nat.reduceEqDiff, and_self, and_true, true_and, and_false, false_and, ite_true, ite_false, reduceIte, tg_6 hS, h10, gR_6_9 hS]
    rw [if_neg (nI_ge hi (by omega)), if_pos (ai_nI (.inl (tg_104 hS)) (ln_104 hS) i20 (by omega)), ixn (by omega), gR_people hS i20]
    simp -implicitDefEqProofs only [tg_sI, ln_sI, tg_sL, ln_sL, tg_sR, ln_sR, tg_sC, ln_sC, ai_sI, ai_sL, gL_sI, gR_sI, gI_sL, gR_sL, gI_sR, gL_sR, gI_sI, gL_sL, gR_sR, zlt_e, zln_e, zli_e, zll_e, zbI_e, zbL_e, zbR_e, zbV_e, zeR_e, zeN_s, zeN_n, Nat.reduceEqDiff, and_self, and_true, true_and, and_false, false_and, ite_true, ite_false, reduceIte, tg_person hS i20, q_X4_hasBox, e0, nI_1]
    by_cases q : gI σ 238 i = -1
    · simp -implicitDefEqProofs only [tg_sI, ln_sI, tg_sL, ln_sL, tg_sR, ln_sR, tg_sC, ln_sC, ai_sI, ai_sL, gL_sI, gR_sI, gI_sL, gR_sL, gI_sR, gL_sR, gI_sI, gL_sL, gR_sR, zlt_e, zln_e, zli_e, zll_e, zbI_e, zbL_e, zbR_e, zbV_e, zeR_e, zeN_s, zeN_n, Nat.reduceEqDiff, and_self, and_true, true_and, and_false, false_and, ite_true, ite_false, reduceIte, if_pos q]
      rw [if_neg (by simp [q])]
    · simp -implicitDefEqProofs only [tg_sI, ln_sI, tg_sL, ln_sL, tg_sR, ln_sR, tg_sC, ln_sC, ai_sI, ai_sL, gL_sI, gR_sI, gI_sL, gR_sL, gI_sR, gL_sR, gI_sI, gL_sL, gR_sR, zlt_e, zln_e, zli_e, zll_e, zbI_e, zbL_e, zbR_e, zbV_e, zeR_e, zeN_s, zeN_n, Nat.reduceEqDiff, and_self, and_true, true_and, and_false, false_and, ite_true, ite_false, reduceIte, if_neg q]
      rw [if_neg (by decide), if_pos (by simp [q])])
  rw [q_X11_countBoxesOut]
  refine Eq.trans e ?_
  rw [q_X11_countBoxesOut_4, tg_6 hS, if_pos rfl, h10, if_pos (nI_le (Nat.le_refl _) (by omega))]
theorem r_boxes (h : RR B σ c P S N M K np t n) (x : Int32) : zR 1 237 38 [some (.ref 176), some (.int x), some (.int 0), some (.int 0)] [] σ = some (some (.int (nI (cnt (fun k => !decide (gI σ 238 k = -1)) np))), σ) := by
  have hS := h.1
  have n20 := (RR_pn h).1
  have h70 := (RR_pn h).2.2
  have e := lp_seq (G := fun i => zR 1 237 38 [some (.ref 176), some (.int x), some (.int (nI (cnt (fun k => !decide (gI σ 238 k = -1)) i))), some (.int (nI i))] [] σ) np (fun i hi => by
    rw [q_X12_has_38, cnt_s]
    simp -implicitDefEqProofs only [tg_sI, ln_sI, tg_sL, ln_sL, tg_sR, ln_sR, tg_sC, ln_sC, ai_sI, ai_sL, gL_sI, gR_sI, gI_sL, gR_sL, gI_sR, gL_sR, gI_sI, gL_sL, gR_sR, zlt_e, zln_e, zli_e, zll_e, zbI_e, zbL_e, zbR_e, zbV_e, zeR_e, zeN_s, zeN_n, Nat.reduceEqDiff, and_self, and_true, true_and, and_false, false_and, ite_true, ite_false, reduceIte, tg_176 hS, h70, gR_176_77 hS]
    rw [if_neg (nI_ge hi (by omega)), if_pos (ai_nI (.inl (tg_238 hS)) (ln_238 hS) (show i < 20 by omega) (by omega)), ixn (by omega), nI_1]
    by_cases q : gI σ 238 i = -1
    · rw [if_pos q, if_neg (by simp [q])]
    · rw [if_neg q, if_pos (by simp [q])])
  refine Eq.trans e ?_
  rw [q_X12_has_38, tg_176 hS, if_pos rfl, h70, if_pos (nI_le (Nat.le_refl _) (by omega))]
theorem op_has (h : RR B σ c P S N M K np t n) (a : Int32) : Al B σ c 121 [.ref 6, .int a] 237 [.ref 176, .int a] := by
  have hS := h.1
  have hP := h.2.1.1
  have h65 := h.2.1.2.2.2.1
  have hN := RR_hn h
  obtain ⟨f1, f2⟩ : HF σ P := h.2.2.2.2.2.1.2.1
  obtain ⟨f3, -, f5, f6⟩ : HC σ P := h.2.2.2.2.2.1.2.2.1
  obtain ⟨v1, -, v2, v3⟩ := f1
  obtain ⟨w1, -, w2, w3⟩ := f2
  obtain ⟨dy, cm, -, -, d1, d2, d3, d4, -⟩ : HD σ P N c := h.2.2.2.2.2.2.1
  have hU : ∀ k, k < 3 → RUk σ k := h.2.2.2.2.2.2.2.2.2.2.2.1
  have x214 : ∀ k, k < 6 → ai σ 32 48 214 (nI k) = true := fun k hk => ai_nI (.inl (tg_214 hS)) (ln_214 hS) hk (by omega)
  have x223 : ∀ k, k < 6 → ai σ 32 48 223 (nI k) = true := fun k hk => ai_nI (.inl (tg_223 hS)) (ln_223 hS) hk (by omega)
  by_cases q0 : a = 0
  · subst q0
    refine Al_rd h (nI N) ?_ ?_
    · rw [q_X11_has, if_pos rfl]
      simp -implicitDefEqProofs only [tg_sI, ln_sI, tg_sL, ln_sL, tg_sR, ln_sR, tg_sC, ln_sC, ai_sI, ai_sL, gL_sI, gR_sI, gI_sL, gR_sL, gI_sR, gL_sR, gI_sI, gL_sL, gR_sR, zlt_e, zln_e, zli_e, zll_e, zbI_e, zbL_e, zbR_e, zbV_e, zeR_e, zeN_s, zeN_n, Nat.reduceEqDiff, and_self, and_true, true_and, and_false, false_and, ite_true, ite_false, reduceIte, tg_6 hS, h65, tg_P hS hP, hN.1.1]
    · rw [q_X12_has, if_pos rfl]
      simp -implicitDefEqProofs only [tg_sI, ln_sI, tg_sL, ln_sL, tg_sR, ln_sR, tg_sC, ln_sC, ai_sI, ai_sL, gL_sI, gR_sI, gI_sL, gR_sL, gI_sR, gL_sR, gI_sI, gL_sL, gR_sR, zlt_e, zln_e, zli_e, zll_e, zbI_e, zbL_e, zbR_e, zbV_e, zeR_e, zeN_s, zeN_n, Nat.reduceEqDiff, and_self, and_true, true_and, and_false, false_and, ite_true, ite_false, reduceIte, tg_176 hS, gR_176_47 hS, show (3 : Int32) + 0 = nI 3 from rfl, x214 3 (by omega), ixn (show 3 < 2 ^ 31 by omega), hN.1.2.2]
  by_cases q1 : a = 1
  · subst q1
    refine Al_rd h (nI M) ?_ ?_
    · rw [q_X11_has, if_neg (by decide), if_pos rfl]
      simp -implicitDefEqProofs only [tg_sI, ln_sI, tg_sL, ln_sL, tg_sR, ln_sR, tg_sC, ln_sC, ai_sI, ai_sL, gL_sI, gR_sI, gI_sL, gR_sL, gI_sR, gL_sR, gI_sI, gL_sL, gR_sR, zlt_e, zln_e, zli_e, zll_e, zbI_e, zbL_e, zbR_e, zbV_e, zeR_e, zeN_s, zeN_n, Nat.reduceEqDiff, and_self, and_true, true_and, and_false, false_and, ite_true, ite_false, reduceIte, tg_6 hS, h65, tg_P hS hP, hN.2.1.1]
    · rw [q_X12_has, if_neg (by decide), if_pos rfl]
      simp -implicitDefEqProofs only [tg_sI, ln_sI, tg_sL, ln_sL, tg_sR, ln_sR, tg_sC, ln_sC, ai_sI, ai_sL, gL_sI, gR_sI, gI_sL, gR_sL, gI_sR, gL_sR, gI_sI, gL_sL, gR_sR, zlt_e, zln_e, zli_e, zll_e, zbI_e, zbL_e, zbR_e, zbV_e, zeR_e, zeN_s, zeN_n, Nat.reduceEqDiff, and_self, and_true, true_and, and_false, false_and, ite_true, ite_false, reduceIte, tg_176 hS, gR_176_47 hS, show (3 : Int32) + 1 = nI 4 from rfl, x214 4 (by omega), ixn (show 4 < 2 ^ 31 by omega), hN.2.1.2.2]
  by_cases q2 : a = 2
  · subst q2
    refine Al_rd h (nI K) ?_ ?_
    · rw [q_X11_has, if_neg (by decide), if_neg (by decide), if_pos rfl]
      simp -implicitDefEqProofs only [tg_sI, ln_sI, tg_sL, ln_sL, tg_sR, ln_sR, tg_sC, ln_sC, ai_sI, ai_sL, gL_sI, gR_sI, gI_sL, gR_sL, gI_sR, gL_sR, gI_sI, gL_sL, gR_sR, zlt_e, zln_e, zli_e, zll_e, zbI_e, zbL_e, zbR_e, zbV_e, zeR_e, zeN_s, zeN_n, Nat.reduceEqDiff, and_self, and_true, true_and, and_false, false_and, ite_true, ite_false, reduceIte, tg_6 hS, h65, tg_P hS hP, hN.2.2.1]
    · rw [q_X12_has, if_neg (by decide), if_neg (by decide), if_pos rfl]
      simp -implicitDefEqProofs only [tg_sI, ln_sI, tg_sL, ln_sL, tg_sR, ln_sR, tg_sC, ln_sC, ai_sI, ai_sL, gL_sI, gR_sI, gI_sL, gR_sL, gI_sR, gL_sR, gI_sI, gL_sL, gR_sR, zlt_e, zln_e, zli_e, zll_e, zbI_e, zbL_e, zbR_e, zbV_e, zeR_e, zeN_s, zeN_n, Nat.reduceEqDiff, and_self, and_true, true_and, and_false, false_and, ite_true, ite_false, reduceIte, tg_176 hS, gR_176_47 hS, show (3 : Int32) + 2 = nI 5 from rfl, x214 5 (by omega), ixn (show 5 < 2 ^ 31 by omega), hN.2.2.2.2]
  by_cases q3 : a = 3
  · subst q3
    refine Al_rd h (nI (cnt (fun k => decide (gI σ 227 k = 1)) 3)) ?_ ?_
    · rw [q_X11_has, if_neg (by decide), if_neg (by decide), if_neg (by decide), if_pos rfl]
      simp -implicitDefEqProofs only [tg_sI, ln_sI, tg_sL, ln_sL, tg_sR, ln_sR, tg_sC, ln_sC, ai_sI, ai_sL, gL_sI, gR_sI, gI_sL, gR_sL, gI_sR, gL_sR, gI_sI, gL_sL, gR_sR, zlt_e, zln_e, zli_e, zll_e, zbI_e, zbL_e, zbR_e, zbV_e, zeR_e, zeN_s, zeN_n, Nat.reduceEqDiff, and_self, and_true, true_and, and_false, false_and, ite_true, ite_false, reduceIte, tg_6 hS, gR_6_4 hS, tg_12 hS, c_rules hS hU]
    · rw [q_X12_has, if_neg (by decide), if_neg (by decide), if_neg (by decide), if_pos rfl]
      exact r_rules hS hU _
  by_cases q4 : a = 4
  · subst q4
    refine Al_rd h (nI np) ?_ ?_
    · rw [q_X11_has, if_neg (by decide), if_neg (by decide), if_neg (by decide), if_neg (by decide), if_pos rfl]
      simp -implicitDefEqProofs only [tg_sI, ln_sI, tg_sL, ln_sL, tg_sR, ln_sR, tg_sC, ln_sC, ai_sI, ai_sL, gL_sI, gR_sI, gI_sL, gR_sL, gI_sR, gL_sR, gI_sI, gL_sL, gR_sR, zlt_e, zln_e, zli_e, zll_e, zbI_e, zbL_e, zbR_e, zbV_e, zeR_e, zeN_s, zeN_n, Nat.reduceEqDiff, and_self, and_true, true_and, and_false, false_and, ite_true, ite_false, reduceIte, tg_6 hS, (RR_pn h).2.1]
    · rw [q_X12_has, if_neg (by decide), if_neg (by decide), if_neg (by decide), if_neg (by decide), if_pos rfl]
      simp -implicitDefEqProofs only [tg_sI, ln_sI, tg_sL, ln_sL, tg_sR, ln_sR, tg_sC, ln_sC, ai_sI, ai_sL, gL_sI, gR_sI, gI_sL, gR_sL, gI_sR, gL_sR, gI_sI, gL_sL, gR_sR, zlt_e, zln_e, zli_e, zll_e, zbI_e, zbL_e, zbR_e, zbV_e, zeR_e, zeN_s, zeN_n, Nat.reduceEqDiff, and_self, and_true, true_and, and_false, false_and, ite_true, ite_false, reduceIte, tg_176 hS, (RR_pn h).2.2]
  by_cases q5 : a = 5
  · subst q5
    refine Al_rd h (nI v1) ?_ ?_
    · rw [q_X11_has, if_neg (by decide), if_neg (by decide), if_neg (by decide), if_neg (by decide), if_neg (by decide), if_pos rfl]
      simp -implicitDefEqProofs only [tg_sI, ln_sI, tg_sL, ln_sL, tg_sR, ln_sR, tg_sC, ln_sC, ai_sI, ai_sL, gL_sI, gR_sI, gI_sL, gR_sL, gI_sR, gL_sR, gI_sI, gL_sL, gR_sR, zlt_e, zln_e, zli_e, zll_e, zbI_e, zbL_e, zbR_e, zbV_e, zeR_e, zeN_s, zeN_n, Nat.reduceEqDiff, and_self, and_true, true_and, and_false, false_and, ite_true, ite_false, reduceIte, tg_6 hS, h65, tg_P hS hP, v2]
    · rw [q_X12_has, if_neg (by decide), if_neg (by decide), if_neg (by decide), if_neg (by decide), if_neg (by decide), if_pos rfl]
      simp -implicitDefEqProofs only [tg_sI, ln_sI, tg_sL, ln_sL, tg_sR, ln_sR, tg_sC, ln_sC, ai_sI, ai_sL, gL_sI, gR_sI, gI_sL, gR_sL, gI_sR, gL_sR, gI_sI, gL_sL, gR_sR, zlt_e, zln_e, zli_e, zll_e, zbI_e, zbL_e, zbR_e, zbV_e, zeR_e, zeN_s, zeN_n, Nat.reduceEqDiff, and_self, and_true, true_and, and_false, false_and, ite_true, ite_false, reduceIte, tg_176 hS, gR_176_56 hS, show (5 : Int32) - 2 = nI 3 from rfl, x223 3 (by omega), ixn (show 3 < 2 ^ 31 by omega), v3]
  by_cases q6 : a = 6
  · subst q6
    refine Al_rd h (nI w1) ?_ ?_
    · rw [q_X11_has, if_neg (by decide), if_neg (by decide), if_neg (by decide), if_neg (by decide), if_neg (by decide), if_neg (by decide), if_pos rfl]
      simp -implicitDefEqProofs only [tg_sI, ln_sI, tg_sL, ln_sL, tg_sR, ln_sR, tg_sC, ln_sC, ai_sI, ai_sL, gL_sI, gR_sI, gI_sL, gR_sL, gI_sR, gL_sR, gI_sI, gL_sL, gR_sR, zlt_e, zln_e, zli_e, zll_e, zbI_e, zbL_e, zbR_e, zbV_e, zeR_e, zeN_s, zeN_n, Nat.reduceEqDiff, and_self, and_true, true_and, and_false, false_and, ite_true, ite_false, reduceIte, tg_6 hS, h65, tg_P hS hP, w2]
    · rw [q_X12_has, if_neg (by decide), if_neg (by decide), if_neg (by decide), if_neg (by decide), if_neg (by decide), if_neg (by decide), if_pos rfl]
      simp -implicitDefEqProofs only [tg_sI, ln_sI, tg_sL, ln_sL, tg_sR, ln_sR, tg_sC, ln_sC, ai_sI, ai_sL, gL_sI, gR_sI, gI_sL, gR_sL, gI_sR, gL_sR, gI_sI, gL_sL, gR_sR, zlt_e, zln_e, zli_e, zll_e, zbI_e, zbL_e, zbR_e, zbV_e, zeR_e, zeN_s, zeN_n, Nat.reduceEqDiff, and_self, and_true, true_and, and_false, false_and, ite_true, ite_false, reduceIte, tg_176 hS, gR_176_56 hS, show (6 : Int32) - 2 = nI 4 from rfl, x223 4 (by omega), ixn (show 4 < 2 ^ 31 by omega), w3]
  by_cases q7 : a = 7
  · subst q7
    refine Al_rd h (nI f3) ?_ ?_
    · rw [q_X11_has, if_neg (by decide), if_neg (by decide), if_neg (by decide), if_neg (by decide), if_neg (by decide), if_neg (by decide), if_neg (by decide), if_pos rfl]
      simp -implicitDefEqProofs only [tg_sI, ln_sI, tg_sL, ln_sL, tg_sR, ln_sR, tg_sC, ln_sC, ai_sI, ai_sL, gL_sI, gR_sI, gI_sL, gR_sL, gI_sR, gL_sR, gI_sI, gL_sL, gR_sR, zlt_e, zln_e, zli_e, zll_e, zbI_e, zbL_e, zbR_e, zbV_e, zeR_e, zeN_s, zeN_n, Nat.reduceEqDiff, and_self, and_true, true_and, and_false, false_and, ite_true, ite_false, reduceIte, tg_6 hS, h65, tg_P hS hP, f5]
    · rw [q_X12_has, if_neg (by decide), if_neg (by decide), if_neg (by decide), if_neg (by decide), if_neg (by decide), if_neg (by decide), if_neg (by decide), if_pos rfl]
      simp -implicitDefEqProofs only [tg_sI, ln_sI, tg_sL, ln_sL, tg_sR, ln_sR, tg_sC, ln_sC, ai_sI, ai_sL, gL_sI, gR_sI, gI_sL, gR_sL, gI_sR, gL_sR, gI_sI, gL_sL, gR_sR, zlt_e, zln_e, zli_e, zll_e, zbI_e, zbL_e, zbR_e, zbV_e, zeR_e, zeN_s, zeN_n, Nat.reduceEqDiff, and_self, and_true, true_and, and_false, false_and, ite_true, ite_false, reduceIte, tg_176 hS, gR_176_56 hS, show (7 : Int32) - 2 = nI 5 from rfl, x223 5 (by omega), ixn (show 5 < 2 ^ 31 by omega), f6]
  by_cases q8 : a = 8
  · subst q8
    refine Al_rd h (nI (cnt (fun k => !decide (gI σ 238 k = -1)) np)) ?_ ?_
    · rw [q_X11_has, if_neg (by decide), if_neg (by decide), if_neg (by decide), if_neg (by decide), if_neg (by decide), if_neg (by decide), if_neg (by decide), if_neg (by decide), if_pos rfl]
      simp -implicitDefEqProofs only [tg_sI, ln_sI, tg_sL, ln_sL, tg_sR, ln_sR, tg_sC, ln_sC, ai_sI, ai_sL, gL_sI, gR_sI, gI_sL, gR_sL, gI_sR, gL_sR, gI_sI, gL_sL, gR_sR, zlt_e, zln_e, zli_e, zll_e, zbI_e, zbL_e, zbR_e, zbV_e, zeR_e, zeN_s, zeN_n, Nat.reduceEqDiff, and_self, and_true, true_and, and_false, false_and, ite_true, ite_false, reduceIte, tg_6 hS, c_boxes h]
    · rw [q_X12_has, if_neg (by decide), if_neg (by decide), if_neg (by decide), if_neg (by decide), if_neg (by decide), if_neg (by decide), if_neg (by decide), if_neg (by decide), if_pos rfl]
      exact r_boxes h _
  by_cases q9 : a = 9
  · subst q9
    refine Al_rd h (nI dy) ?_ ?_
    · rw [q_X11_has, if_neg (by decide), if_neg (by decide), if_neg (by decide), if_neg (by decide), if_neg (by decide), if_neg (by decide), if_neg (by decide), if_neg (by decide), if_neg (by decide), if_pos rfl]
      simp -implicitDefEqProofs only [tg_sI, ln_sI, tg_sL, ln_sL, tg_sR, ln_sR, tg_sC, ln_sC, ai_sI, ai_sL, gL_sI, gR_sI, gI_sL, gR_sL, gI_sR, gL_sR, gI_sI, gL_sL, gR_sR, zlt_e, zln_e, zli_e, zll_e, zbI_e, zbL_e, zbR_e, zbV_e, zeR_e, zeN_s, zeN_n, Nat.reduceEqDiff, and_self, and_true, true_and, and_false, false_and, ite_true, ite_false, reduceIte, tg_6 hS, h65, tg_P hS hP, gR_P_4 hS hP, tg_P5 hS hP, q_X9_day, d1]
    · rw [q_X12_has, if_neg (by decide), if_neg (by decide), if_neg (by decide), if_neg (by decide), if_neg (by decide), if_neg (by decide), if_neg (by decide), if_neg (by decide), if_neg (by decide), if_pos rfl]
      simp -implicitDefEqProofs only [tg_sI, ln_sI, tg_sL, ln_sL, tg_sR, ln_sR, tg_sC, ln_sC, ai_sI, ai_sL, gL_sI, gR_sI, gI_sL, gR_sL, gI_sR, gL_sR, gI_sI, gL_sL, gR_sR, zlt_e, zln_e, zli_e, zll_e, zbI_e, zbL_e, zbR_e, zbV_e, zeR_e, zeN_s, zeN_n, Nat.reduceEqDiff, and_self, and_true, true_and, and_false, false_and, ite_true, ite_false, reduceIte, tg_176 hS, d2]
  by_cases q10 : a = 10
  · subst q10
    refine Al_rd h (nI cm) ?_ ?_
    · rw [q_X11_has, if_neg (by decide), if_neg (by decide), if_neg (by decide), if_neg (by decide), if_neg (by decide), if_neg (by decide), if_neg (by decide), if_neg (by decide), if_neg (by decide), if_neg (by decide), if_pos rfl]
      simp -implicitDefEqProofs only [tg_sI, ln_sI, tg_sL, ln_sL, tg_sR, ln_sR, tg_sC, ln_sC, ai_sI, ai_sL, gL_sI, gR_sI, gI_sL, gR_sL, gI_sR, gL_sR, gI_sI, gL_sL, gR_sR, zlt_e, zln_e, zli_e, zll_e, zbI_e, zbL_e, zbR_e, zbV_e, zeR_e, zeN_s, zeN_n, Nat.reduceEqDiff, and_self, and_true, true_and, and_false, false_and, ite_true, ite_false, reduceIte, tg_6 hS, h65, tg_P hS hP, gR_P_4 hS hP, tg_P5 hS hP, q_X9_onTheWay, d3]
    · rw [q_X12_has, if_neg (by decide), if_neg (by decide), if_neg (by decide), if_neg (by decide), if_neg (by decide), if_neg (by decide), if_neg (by decide), if_neg (by decide), if_neg (by decide), if_neg (by decide), if_pos rfl]
      simp -implicitDefEqProofs only [tg_sI, ln_sI, tg_sL, ln_sL, tg_sR, ln_sR, tg_sC, ln_sC, ai_sI, ai_sL, gL_sI, gR_sI, gI_sL, gR_sL, gI_sR, gL_sR, gI_sI, gL_sL, gR_sR, zlt_e, zln_e, zli_e, zll_e, zbI_e, zbL_e, zbR_e, zbV_e, zeR_e, zeN_s, zeN_n, Nat.reduceEqDiff, and_self, and_true, true_and, and_false, false_and, ite_true, ite_false, reduceIte, tg_176 hS, d4]
  refine Al_rd h (-1) ?_ ?_
  · rw [q_X11_has, if_neg q0, if_neg q1, if_neg q2, if_neg q3, if_neg q4, if_neg q5, if_neg q6, if_neg q7, if_neg q8, if_neg q9, if_neg q10]
  · rw [q_X12_has, if_neg q0, if_neg q1, if_neg q2, if_neg q3, if_neg q4, if_neg q5, if_neg q6, if_neg q7, if_neg q8, if_neg q9, if_neg q10]
end
