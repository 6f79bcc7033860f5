/-! who -/
section
variable {σ σ' σ1 σ2 α α' β β' : zS} {X : Nat → Nat → Prop} {u : Option Value} {B P S N M K np c k n m i mC mR : Nat} {aC aR : List Value} {t : Nat → Nat} {st : lx}
theorem r_kept (hS : Sh σ) (hk : k < 20) : zM 246 [.ref 176, .int (nI k)] σ = some (some (.int (s32 (fun j => gI σ 242 (160 * k + j)) 160)), σ) := by
  have e := lp_seq (G := fun i => zR 1 246 4 [some (.ref 176), some (.int (nI k)), some (.int (s32 (fun j => gI σ 242 (160 * k + j)) i)), some (.int (nI i))] [] σ) 160 (fun i hi => by
    rw [q_X12_pairsKept_4, if_neg (show ¬ (160 : Int32) ≤ nI i from nI_ge (b := 160) hi (by omega))]
    simp -implicitDefEqProofs only [tg_sI, ln_sI, tg_sL, ln_sL, tg_sR, ln_sR, tg_sC, ln_sC, ai_sI, ai_sL, gL_sI, gR_sI, gI_sL, gR_sL, gI_sR, gL_sR, gI_sI, gL_sL, gR_sR, zlt_e, zln_e, zli_e, zll_e, zbI_e, zbL_e, zbR_e, zbV_e, zeR_e, zeN_s, zeN_n, Nat.reduceEqDiff, and_self, and_true, true_and, and_false, false_and, ite_true, ite_false, reduceIte, tg_176 hS, gR_176_81 hS]
    rw [nI_mulL 160 k, nI_add, if_pos (ai_nI (.inl (tg_242 hS)) (ln_242 hS) (show 160 * k + i < 3200 by omega) (by omega)), ixn (by omega), nI_1]
    rfl)
  rw [q_X12_pairsKept]
  refine Eq.trans e ?_
  rw [q_X12_pairsKept_4, if_pos (show (160 : Int32) ≤ nI 160 by decide)]
theorem ad_eq {a b s : Int32} (h : a = b + s) : (a = b) = (s = 0) := by
  apply propext
  subst h
  constructor
  · intro q
    have e : b + s = b + 0 := by rw [q, Int32.add_zero]
    exact (Int32.add_right_inj b).mp e
  · intro q
    rw [q, Int32.add_zero]
theorem op_who (h : RR B σ c P S N M K np t n) (a b : Int32) : Al B σ c 139 [.ref 6, .int a, .int b] 247 [.ref 176, .int a, .int b] := by
  have hS := h.1
  have n20 := (RR_pn h).1
  rcases rng_no a (N := np) (by omega) with q | ⟨k, hk, rfl⟩
  · refine Al_rd h (-1) ?_ ?_
    · rw [q_X11_who]
      simp -implicitDefEqProofs only [tg_sI, ln_sI, tg_sL, ln_sL, tg_sR, ln_sR, tg_sC, ln_sC, ai_sI, ai_sL, gL_sI, gR_sI, gI_sL, gR_sL, gI_sR, gL_sR, gI_sI, gL_sL, gR_sR, zlt_e, zln_e, zli_e, zll_e, zbI_e, zbL_e, zbR_e, zbV_e, zeR_e, zeN_s, zeN_n, Nat.reduceEqDiff, and_self, and_true, true_and, and_false, false_and, ite_true, ite_false, reduceIte, tg_6 hS, RR_cP h, if_neg q]
    · rw [q_X12_who]
      simp -implicitDefEqProofs only [tg_sI, ln_sI, tg_sL, ln_sL, tg_sR, ln_sR, tg_sC, ln_sC, ai_sI, ai_sL, gL_sI, gR_sI, gI_sL, gR_sL, gI_sR, gL_sR, gI_sI, gL_sL, gR_sR, zlt_e, zln_e, zli_e, zll_e, zbI_e, zbL_e, zbR_e, zbV_e, zeR_e, zeN_s, zeN_n, Nat.reduceEqDiff, and_self, and_true, true_and, and_false, false_and, ite_true, ite_false, reduceIte, tg_176 hS, RR_rP h, if_neg q]
  · have q := rng_ok hk (by omega)
    have k20 : k < 20 := by omega
    obtain ⟨so, z, -, -, -, p4, -, p6, p7, p8⟩ := h.2.2.2.2.2.2.2.2.1 k hk
    have e0 : gI σ (116 + 3 * k) 0 = gI σ 232 k := by rw [p4.1, p4.2.1]
    have e1 : gI σ (116 + 3 * k) 1 = gI σ 233 k := by rw [p4.2.2.1, p4.2.2.2]
    have e45 : gI σ (116 + 3 * k) 5 = gI σ 238 k ∧ gI σ (116 + 3 * k) 6 = gI σ 239 k := by
      rcases p6 with ⟨x1, x2, x3, x4⟩ | ⟨l, b, -, -, -, -, -, x1, x2, x3, x4⟩
      · exact ⟨by rw [x1, x2], by rw [x3, x4]⟩
      · exact ⟨by rw [x1, x2], by rw [x3, x4]⟩
    have e7 := ad_eq p8.2.2.2.2
    have ak : ∀ r, r = 232 ∨ r = 233 ∨ (236 ≤ r ∧ r ≤ 240) → ai σ 32 48 r (nI k) = true := fun r hr => by
      rcases (show r = 232 ∨ r = 233 ∨ r = 236 ∨ r = 237 ∨ r = 238 ∨ r = 239 ∨ r = 240 by omega) with rfl | rfl | rfl | rfl | rfl | rfl | rfl
      · exact ai_nI (.inl (tg_232 hS)) (ln_232 hS) k20 (by omega)
      · exact ai_nI (.inl (tg_233 hS)) (ln_233 hS) k20 (by omega)
      · exact ai_nI (.inl (tg_236 hS)) (ln_236 hS) k20 (by omega)
      · exact ai_nI (.inl (tg_237 hS)) (ln_237 hS) k20 (by omega)
      · exact ai_nI (.inl (tg_238 hS)) (ln_238 hS) k20 (by omega)
      · exact ai_nI (.inl (tg_239 hS)) (ln_239 hS) k20 (by omega)
      · exact ai_nI (.inl (tg_240 hS)) (ln_240 hS) k20 (by omega)
    refine Al_rd h (if b = 0 then gI σ 232 k else if b = 1 then gI σ 233 k else if b = 2 then gI σ 236 k else if b = 3 then gI σ 237 k else if b = 4 then gI σ 238 k else if b = 5 then gI σ 239 k else if b = 6 then gI σ 240 k else if b = 7 then (if gI σ 237 k < 3 then 0 else if s32 (fun j => gI σ 242 (160 * k + j)) 160 = 0 then 1 else 0) else -1) ?_ ?_
    · rw [q_X11_who]
      simp -implicitDefEqProofs only [tg_sI, ln_sI, tg_sL, ln_sL, tg_sR, ln_sR, tg_sC, ln_sC, ai_sI, ai_sL, gL_sI, gR_sI, gI_sL, gR_sL, gI_sR, gL_sR, gI_sI, gL_sL, gR_sR, zlt_e, zln_e, zli_e, zll_e, zbI_e, zbL_e, zbR_e, zbV_e, zeR_e, zeN_s, zeN_n, Nat.reduceEqDiff, and_self, and_true, true_and, and_false, false_and, ite_true, ite_false, reduceIte, tg_6 hS, RR_cP h, if_pos q, gR_6_9 hS]
      rw [if_neg (by decide), if_pos (ai_nI (.inl (tg_104 hS)) (ln_104 hS) k20 (by omega)), ixn (by omega), gR_people hS k20]
      simp -implicitDefEqProofs only [tg_sI, ln_sI, tg_sL, ln_sL, tg_sR, ln_sR, tg_sC, ln_sC, ai_sI, ai_sL, gL_sI, gR_sI, gI_sL, gR_sL, gI_sR, gL_sR, gI_sI, gL_sL, gR_sR, zlt_e, zln_e, zli_e, zll_e, zbI_e, zbL_e, zbR_e, zbV_e, zeR_e, zeN_s, zeN_n, Nat.reduceEqDiff, and_self, and_true, true_and, and_false, false_and, ite_true, ite_false, reduceIte, tg_person hS k20, q_X4_isSeldomHonest, e0, e1, p8.1, p8.2.1, e45.1, e45.2, p7.1, e7]
      iterate 7 (split; · rfl)
      split
      · split
        · rfl
        · split <;> rfl
      · rfl
    · rw [q_X12_who]
      simp -implicitDefEqProofs only [tg_sI, ln_sI, tg_sL, ln_sL, tg_sR, ln_sR, tg_sC, ln_sC, ai_sI, ai_sL, gL_sI, gR_sI, gI_sL, gR_sL, gI_sR, gL_sR, gI_sI, gL_sL, gR_sR, zlt_e, zln_e, zli_e, zll_e, zbI_e, zbL_e, zbR_e, zbV_e, zeR_e, zeN_s, zeN_n, Nat.reduceEqDiff, and_self, and_true, true_and, and_false, false_and, ite_true, ite_false, reduceIte, tg_176 hS, RR_rP h, if_pos q, gR_176_71 hS, gR_176_72 hS, gR_176_75 hS, gR_176_76 hS, gR_176_77 hS, gR_176_78 hS, gR_176_79 hS, ak 232 (by omega), ak 233 (by omega), ak 236 (by omega), ak 237 (by omega), ak 238 (by omega), ak 239 (by omega), ak 240 (by omega), ixn (show k < 2 ^ 31 by omega), r_kept hS k20]
      rw [if_neg (by decide)]
      iterate 7 (split; · rfl)
      split
      · split
        · rfl
        · split <;> rfl
      · rfl
end
