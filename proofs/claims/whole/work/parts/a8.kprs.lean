/-! person: what both write -/
section
variable {σ σ' σ1 σ2 α α' β β' : zS} {X : Nat → Nat → Prop} {u : Option Value} {B P S N M K np c k n m i so mC mR : Nat} {aC aR : List Value} {t : Nat → Nat} {st : lx}
theorem s32_0 {f : Nat → Int32} : ∀ n, (∀ k, k < n → f k = 0) → s32 f n = 0 := by
  intro n
  induction n with
  | zero => intro _; rfl
  | succ n ih =>
    intro h
    show s32 f n + f n = 0
    rw [ih (fun k hk => h k (by omega)), h n (by omega)]
    rfl
theorem r_comes (hS : Sh σ) (hk : k < 20) (hso : so < 4) (z : Int32) : ∃ σ', zM 241 [.ref 176, .int (nI k), .int (nI so), .int z] σ = some (none, σ') ∧ Sh σ' ∧ Un (fun r j => ((r = 232 ∨ r = 233 ∨ (236 ≤ r ∧ r ≤ 240)) ∧ j = k) ∨ (r = 234 ∧ 5 * k ≤ j ∧ j < 5 * k + 5) ∨ (r = 242 ∧ 160 * k ≤ j ∧ j < 160 * k + 160)) σ σ' ∧ gI σ' 232 k = nI so ∧ gI σ' 233 k = z ∧ (∀ d, d < 5 → gI σ' 234 (5 * k + d) = 100 * gI σ 217 (20 + 5 * so + d)) ∧ gI σ' 236 k = 0 ∧ gI σ' 237 k = 0 ∧ gI σ' 238 k = -1 ∧ gI σ' 239 k = 0 ∧ gI σ' 240 k = -1 ∧ ∀ j, j < 160 → gI σ' 242 (160 * k + j) = 0 := by
  have hS0 : Sh (sI (sI σ 232 k (nI so)) 233 k z) := (hS.sI (by omega)).sI (by omega)
  obtain ⟨s1, e1, k1, k2, k3⟩ := lp_run (F := fun i (g : zS) => zR 1 241 12 [some (.ref 176), some (.int (nI k)), some (.int (nI so)), some (.int z), some (.int (nI i))] [] g) (fun i g => Sh g ∧ Un (fun r j => r = 234 ∧ 5 * k ≤ j ∧ j < 5 * k + 5) (sI (sI σ 232 k (nI so)) 233 k z) g ∧ ∀ d, d < i → gI g 234 (5 * k + d) = 100 * gI σ 217 (20 + 5 * so + d)) 5 (by
    intro i g hi ⟨x1, x2, x3⟩
    refine ⟨sI g 234 (5 * k + i) (100 * gI g 217 (20 + 5 * so + i)), ?_, x1.sI (by omega), x2.trans (Un_sI (by omega)), fun d hd => ?_⟩
    · rw [q_X12_comes_12, if_neg (show ¬ (5 : Int32) ≤ nI i from nI_ge (b := 5) hi (by omega))]
      simp -implicitDefEqProofs only [tg_sI, ln_sI, tg_sL, ln_sL, tg_sR, ln_sR, tg_sC, ln_sC, ai_sI, ai_sL, gL_sI, gR_sI, gI_sL, gR_sL, gI_sR, gL_sR, gI_sI, gL_sL, gR_sR, zlt_e, zln_e, zli_e, zll_e, zbI_e, zbL_e, zbR_e, zbV_e, zeR_e, zeN_s, zeN_n, Nat.reduceEqDiff, and_self, and_true, true_and, and_false, false_and, ite_true, ite_false, reduceIte, tg_176 x1, gR_176_73 x1, gR_176_50 x1]
      rw [nI_mulL 5 so, nI_addL 20 (5 * so), nI_add, nI_mulL 5 k, nI_add, if_pos (ai_nI (.inl (tg_217 x1)) (ln_217 x1) (show 20 + 5 * so + i < 40 by omega) (by omega)), if_pos (ai_nI (.inl (tg_234 x1)) (ln_234 x1) (show 5 * k + i < 100 by omega) (by omega)), ixn (show 20 + 5 * so + i < 2 ^ 31 by omega), ixn (show 5 * k + i < 2 ^ 31 by omega), nI_1]
    · rw [gI_sI]
      by_cases q : d = i
      · subst q
        rw [if_pos ⟨rfl, rfl⟩, x2.i (by omega) (by omega) (by omega) (by omega), gI_sI, if_neg (by omega), gI_sI, if_neg (by omega)]
      · rw [if_neg (by omega)]; exact x3 d (by omega)) _ ⟨hS0, Un.refl _ _, fun d hd => by omega⟩
  have e1 : zR 1 241 12 [some (.ref 176), some (.int (nI k)), some (.int (nI so)), some (.int z), some (.int 0)] [] (sI (sI σ 232 k (nI so)) 233 k z) = zR 1 241 12 [some (.ref 176), some (.int (nI k)), some (.int (nI so)), some (.int z), some (.int 5)] [] s1 := e1
  have hS2 : Sh (sI (sI (sI (sI (sI s1 236 k 0) 237 k 0) 238 k (-1)) 239 k 0) 240 k (-1)) := ((((k1.sI (by omega)).sI (by omega)).sI (by omega)).sI (by omega)).sI (by omega)
  obtain ⟨s3, e3, l1, l2, l3⟩ := lp_run (F := fun i (g : zS) => zR 1 241 64 [some (.ref 176), some (.int (nI k)), some (.int (nI so)), some (.int z), some (.int (nI i))] [] g) (fun i g => Sh g ∧ Un (fun r j => r = 242 ∧ 160 * k ≤ j ∧ j < 160 * k + 160) (sI (sI (sI (sI (sI s1 236 k 0) 237 k 0) 238 k (-1)) 239 k 0) 240 k (-1)) g ∧ ∀ d, d < i → gI g 242 (160 * k + d) = 0) 160 (by
    intro i g hi ⟨x1, x2, x3⟩
    refine ⟨sI g 242 (160 * k + i) 0, ?_, x1.sI (by omega), x2.trans (Un_sI (by omega)), fun d hd => ?_⟩
    · rw [q_X12_comes_64, if_neg (show ¬ (160 : Int32) ≤ nI i from nI_ge (b := 160) hi (by omega))]
      simp -implicitDefEqProofs only [tg_sI, ln_sI, tg_sL, ln_sL, tg_sR, ln_sR, tg_sC, ln_sC, ai_sI, ai_sL, gL_sI, gR_sI, gI_sL, gR_sL, gI_sR, gL_sR, gI_sI, gL_sL, gR_sR, zlt_e, zln_e, zli_e, zll_e, zbI_e, zbL_e, zbR_e, zbV_e, zeR_e, zeN_s, zeN_n, Nat.reduceEqDiff, and_self, and_true, true_and, and_false, false_and, ite_true, ite_false, reduceIte, tg_176 x1, gR_176_81 x1]
      rw [nI_mulL 160 k, nI_add, if_pos (ai_nI (.inl (tg_242 x1)) (ln_242 x1) (show 160 * k + i < 3200 by omega) (by omega)), ixn (by omega), nI_1]
    · rw [gI_sI]
      split
      · rfl
      · exact x3 d (by omega)) _ ⟨hS2, Un.refl _ _, fun d hd => by omega⟩
  have e3 : zR 1 241 64 [some (.ref 176), some (.int (nI k)), some (.int (nI so)), some (.int z), some (.int 0)] [] (sI (sI (sI (sI (sI s1 236 k 0) 237 k 0) 238 k (-1)) 239 k 0) 240 k (-1)) = zR 1 241 64 [some (.ref 176), some (.int (nI k)), some (.int (nI so)), some (.int z), some (.int 160)] [] s3 := e3
  have m1 : Un (fun r j => (236 ≤ r ∧ r ≤ 240) ∧ j = k) s1 (sI (sI (sI (sI (sI s1 236 k 0) 237 k 0) 238 k (-1)) 239 k 0) 240 k (-1)) := (Un_sI (by omega)).trans ((Un_sI (by omega)).trans ((Un_sI (by omega)).trans ((Un_sI (by omega)).trans (Un_sI (by omega)))))
  refine ⟨s3, ?_, l1, ((Un_sI (by omega)).trans (Un_sI (by omega))).trans ((k2.mono (fun r j _ _ q => by omega)).trans ((m1.mono (fun r j _ _ q => by omega)).trans (l2.mono (fun r j _ _ q => by omega)))), ?_, ?_, fun d hd => ?_, ?_, ?_, ?_, ?_, ?_, l3⟩
  · rw [q_X12_comes]
    simp -implicitDefEqProofs only [tg_sI, ln_sI, tg_sL, ln_sL, tg_sR, ln_sR, tg_sC, ln_sC, ai_sI, ai_sL, gL_sI, gR_sI, gI_sL, gR_sL, gI_sR, gL_sR, gI_sI, gL_sL, gR_sR, zlt_e, zln_e, zli_e, zll_e, zbI_e, zbL_e, zbR_e, zbV_e, zeR_e, zeN_s, zeN_n, Nat.reduceEqDiff, and_self, and_true, true_and, and_false, false_and, ite_true, ite_false, reduceIte, tg_176 hS, gR_176_71 hS, gR_176_72 hS]
    rw [if_pos (ai_nI (.inl (tg_232 hS)) (ln_232 hS) hk (by omega)), if_pos (ai_nI (.inl (tg_233 hS)) (ln_233 hS) hk (by omega)), ixn (by omega), e1, q_X12_comes_12, if_pos (by decide)]
    simp -implicitDefEqProofs only [tg_sI, ln_sI, tg_sL, ln_sL, tg_sR, ln_sR, tg_sC, ln_sC, ai_sI, ai_sL, gL_sI, gR_sI, gI_sL, gR_sL, gI_sR, gL_sR, gI_sI, gL_sL, gR_sR, zlt_e, zln_e, zli_e, zll_e, zbI_e, zbL_e, zbR_e, zbV_e, zeR_e, zeN_s, zeN_n, Nat.reduceEqDiff, and_self, and_true, true_and, and_false, false_and, ite_true, ite_false, reduceIte, tg_176 k1, gR_176_75 k1, gR_176_76 k1, gR_176_77 k1, gR_176_78 k1, gR_176_79 k1]
    rw [if_pos (ai_nI (.inl (tg_236 k1)) (ln_236 k1) hk (by omega)), if_pos (ai_nI (.inl (tg_237 k1)) (ln_237 k1) hk (by omega)), if_pos (ai_nI (.inl (tg_238 k1)) (ln_238 k1) hk (by omega)), if_pos (ai_nI (.inl (tg_239 k1)) (ln_239 k1) hk (by omega)), if_pos (ai_nI (.inl (tg_240 k1)) (ln_240 k1) hk (by omega)), ixn (by omega), q_X12_comes_62, e3, q_X12_comes_64, if_pos (by decide)]
  · rw [l2.i (by omega) (by omega) (by omega) (by omega), m1.i (by omega) (by omega) (by omega) (by omega), k2.i (by omega) (by omega) (by omega) (by omega), gI_sI, if_neg (by omega), gI_sI, if_pos ⟨rfl, rfl⟩]
  · rw [l2.i (by omega) (by omega) (by omega) (by omega), m1.i (by omega) (by omega) (by omega) (by omega), k2.i (by omega) (by omega) (by omega) (by omega), gI_sI, if_pos ⟨rfl, rfl⟩]
  · rw [l2.i (by omega) (by omega) (by omega) (by omega), m1.i (by omega) (by omega) (by omega) (by omega)]; exact k3 d hd
  · rw [l2.i (by omega) (by omega) (by omega) (by omega)]; simp only [gI_sI]; simp
  · rw [l2.i (by omega) (by omega) (by omega) (by omega)]; simp only [gI_sI]; simp
  · rw [l2.i (by omega) (by omega) (by omega) (by omega)]; simp only [gI_sI]; simp
  · rw [l2.i (by omega) (by omega) (by omega) (by omega)]; simp only [gI_sI]; simp
  · rw [l2.i (by omega) (by omega) (by omega) (by omega)]; simp only [gI_sI]; simp
end
