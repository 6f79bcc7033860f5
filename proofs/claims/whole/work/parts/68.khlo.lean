/-! the statements of a house one after the other, both at once -/
def XRs (r j : Nat) : Prop := XR r j ∨ (r = 176 ∧ j = 58)
section
variable {t : Nat → Nat} {n : Nat} {α α' β β' γ : zS} {st : lx} {S N M K : Nat} {X Y : Nat → Nat → Prop}
theorem nI_nm1 {k : Nat} (h : k < 2 ^ 31) : ¬ nI k = -1 := by
  intro q
  have := congrArg Int32.toInt q
  rw [nI_toInt h] at this
  have e : (-1 : Int32).toInt = -1 := rfl
  omega
/-- one statement and what ends it -/
theorem j_stmt {s e c : Nat} (hP : HP S) (hC : CS α t n (.inl (s, e))) (hR : RS β t n (.inl (s, e))) (h2 : gI β 176 2 = nI s) (hc : gI β 176 58 = nI c) (hc1 : c < 100) (hJ : JH α β S N M K) : ∃ α1 α2 β2 st2, zM 8 [.ref 11, .ref S] α = some (none, α1) ∧ Sh α1 ∧ zM 109 [.ref 8, .int 59] α1 = some (none, α2) ∧ zM 213 [.ref 176] β = some (none, β2) ∧ CS α2 t n st2 ∧ RS β2 t n st2 ∧ Un (fun r _ => XC S r) α α2 ∧ Un XRs β β2 ∧ (lL st2 = true → ∃ N M K, JH α2 β2 S N M K) ∧ (lL st2 = true → gI β2 176 58 = nI (c + 1)) := by
  obtain ⟨α1, β1, st1, a1, a2, a3, a4, a5, a6, a7⟩ := j_disp hP hC hR h2 hc hc1 hJ
  have hS1 := CS_sh a3
  have hS2 := RS_sh a4
  obtain ⟨α2, b1, b2⟩ := c_takeSign a3 (c := 59) (by decide)
  obtain ⟨β2, d1, d2⟩ := r_asksSign (c := 59) (by decide) (by decide) a4
  have b1 : zM 109 [.ref 8, .int 59] α1 = some (none, α2) := b1
  have d1 : zM 199 [.ref 176, .int 59] β1 = some (none, β2) := d1
  have u2 := Un_tok hS1 b1 rfl (by decide +kernel)
  have w2 := Un_ref hS2 d1 rfl (by decide +kernel)
  have hS3 := RS_sh d2
  have h58 : gI β2 176 58 = nI c := by
    rw [w2.i (by omega) (by omega) (by omega) (by unfold XL; omega), a6.i (by omega) (by omega) (by omega) (by unfold XR XL XW; omega)]
    exact hc
  refine ⟨α1, α2, sI β2 176 58 (nI (c + 1)), _, a1, hS1, b1, ?_, b2, RS_f d2 (by omega), a5.trans (u2.mono (fun r j _ _ q => .inl q)), ?_, fun q => ?_, fun _ => ?_⟩
  · rw [a2, q_X12_houseTold_98]
    simp -implicitDefEqProofs only [tg_sI, ln_sI, tg_sL, ln_sL, tg_sR, ln_sR, tg_sC, ln_sC, ai_sI, ai_sL, gL_sI, gR_sI, gI_sL, gR_sL, gI_sR, gL_sR, gI_sI, gL_sL, gR_sR, zlt_e, zln_e, zli_e, zll_e, zbI_e, zbL_e, zbR_e, zbV_e, zeR_e, zeN_s, zeN_n, Nat.reduceEqDiff, and_self, and_true, true_and, and_false, false_and, ite_true, ite_false, reduceIte, tg_176 hS2, d1, tg_176 hS3, h58, nI_1]
  · exact (a6.mono (fun r j _ _ q => .inl q)).trans ((w2.mono (fun r j _ _ q => .inl (.inl q))).trans (Un_sI (.inr ⟨rfl, rfl⟩)))
  · have hl1 : lL st1 = true := by
      match st1, q with
      | .inl _, _ => rfl
      | .inr z, q =>
        unfold lG at q
        split at q <;> exact q
    obtain ⟨N, M, K, hJ1⟩ := a7 hl1
    refine ⟨N, M, K, ?_⟩
    exact JH_un (JH_rd hJ1 hP hS1 hS2 u2 w2) hP (CS_sh b2) hS3 (Un.refl (fun _ _ => False) _) (Un_sI (X := fun r j => r = 176 ∧ j = 58) ⟨rfl, rfl⟩) (fun r j _ _ q => q) (fun r j _ _ q => by omega)
  · rw [gI_sI, if_pos ⟨rfl, rfl⟩]
theorem j_loop (hP : HP S) (l1 : Int32) : ∀ d c α β st, d + c = 100 → CS α t n st → RS β t n st → (lL st = true → ∃ N M K, JH α β S N M K) → (lL st = true → gI β 176 58 = nI c) → ∃ α' β' st' c', zR 7 7 4 [some (.ref 11), some (.ref S), some (.int (nI c))] [] α = zR 7 7 28 [some (.ref 11), some (.ref S), some (.int (nI c'))] [] α' ∧ zR 8 214 31 [some (.ref 176), some (.int l1)] [] β = zR 8 214 31 [some (.ref 176), some (.int l1)] [] β' ∧ CS α' t n st' ∧ RS β' t n st' ∧ Un (fun r _ => XC S r) α α' ∧ Un XRs β β' ∧ c' ≤ 100 ∧ (lL st' = true → lE n st' = true ∧ (∃ N M K, JH α' β' S N M K) ∧ gI β' 176 58 = nI c') := by
  intro d
  induction d with
  | zero =>
    intro c α β st hd hC hR hJ hc
    have hc0 : c = 100 := by omega
    subst hc0
    have hS := CS_sh hC
    have hS2 := RS_sh hR
    rw [q_X1_read_4, if_pos (show (100 : Int32) ≤ nI 100 by decide)]
    simp -implicitDefEqProofs only [tg_sI, ln_sI, tg_sL, ln_sL, tg_sR, ln_sR, tg_sC, ln_sC, ai_sI, ai_sL, gL_sI, gR_sI, gI_sL, gR_sL, gI_sR, gL_sR, gI_sI, gL_sL, gR_sR, zlt_e, zln_e, zli_e, zll_e, zbI_e, zbL_e, zbR_e, zbV_e, zeR_e, zeN_s, zeN_n, Nat.reduceEqDiff, and_self, and_true, true_and, and_false, false_and, ite_true, ite_false, reduceIte, tg_11 hS, gR_11_0 hS, tg_8 hS, c_atEnd hC]
    by_cases he : lE n st = true
    · rw [if_pos he, if_neg (by decide)]
      exact ⟨α, β, st, 100, rfl, rfl, hC, hR, Un.refl _ _, Un.refl _ _, by omega, fun q => ⟨he, hJ q, hc q⟩⟩
    · rw [if_neg he, if_pos rfl]
      match st, hC, hR, hJ, hc, he with
      | .inr z, _, _, _, _, he => exact absurd rfl he
      | .inl (s, e), hC, hR, hJ, hc, he =>
        have hs : s < n := by
          have : ¬ n ≤ s := fun q => he (by simpa [lE] using q)
          omega
        have hs2 : s < 2000 := by have := hC.1.2.1; omega
        have h256 : t s < 256 := hC.1.2.2.1 s
        obtain ⟨α', f1, f2⟩ := c_failHere hC (f := 5) (by decide) (by decide)
        have f1 : zM 107 [.ref 8, .int 5] α = some (none, α') := f1
        have hRl := RS_look hR
        have hSl := RS_sh hRl
        obtain ⟨β', g1, g2⟩ := r_fail hRl (f := 5) (p := s) (by decide) (by decide) hs2
        have g1 : zM 191 [.ref 176, .int 5, .int (nI s)] (sI β 176 2 (nI s)) = some (none, β') := g1
        refine ⟨α', β', .inr (5, s), 100, ?_, ?_, f2, g2, (Un_tok hS f1 rfl (by decide +kernel)).mono (fun r j _ _ q => .inl q), ?_, by omega, fun q => by cases q⟩
        · rw [f1]
          rfl
        · rw [q_X12_house_31]
          simp -implicitDefEqProofs only [tg_sI, ln_sI, tg_sL, ln_sL, tg_sR, ln_sR, tg_sC, ln_sC, ai_sI, ai_sL, gL_sI, gR_sI, gI_sL, gR_sL, gI_sR, gL_sR, gI_sI, gL_sL, gR_sR, zlt_e, zln_e, zli_e, zll_e, zbI_e, zbL_e, zbR_e, zbV_e, zeR_e, zeN_s, zeN_n, Nat.reduceEqDiff, and_self, and_true, true_and, and_false, false_and, ite_true, ite_false, reduceIte, tg_176 hS2, bad_live hR, r_look hR]
          rw [if_pos hs, if_neg (nI_nm1 (by omega)), q_X12_houseTold]
          simp -implicitDefEqProofs only [tg_sI, ln_sI, tg_sL, ln_sL, tg_sR, ln_sR, tg_sC, ln_sC, ai_sI, ai_sL, gL_sI, gR_sI, gI_sL, gR_sL, gI_sR, gL_sR, gI_sI, gL_sL, gR_sR, zlt_e, zln_e, zli_e, zll_e, zbI_e, zbL_e, zbR_e, zbV_e, zeR_e, zeN_s, zeN_n, Nat.reduceEqDiff, and_self, and_true, true_and, and_false, false_and, ite_true, ite_false, reduceIte, tg_176 hS2, hc rfl]
          rw [if_pos (show nI 100 = 100 from rfl), g1]
          rfl
        · exact (Un_sI (.inl (.inl ⟨rfl, .inl rfl⟩))).trans ((Un_ref hSl g1 rfl (by decide +kernel)).mono (fun r j _ _ q => .inl (.inl q)))
  | succ d ih =>
    intro c α β st hd hC hR hJ hc
    have hS := CS_sh hC
    have hS2 := RS_sh hR
    rw [q_X1_read_4, if_neg (show ¬ (100 : Int32) ≤ nI c from nI_ge (b := 100) (by omega) (by omega))]
    simp -implicitDefEqProofs only [tg_sI, ln_sI, tg_sL, ln_sL, tg_sR, ln_sR, tg_sC, ln_sC, ai_sI, ai_sL, gL_sI, gR_sI, gI_sL, gR_sL, gI_sR, gL_sR, gI_sI, gL_sL, gR_sR, zlt_e, zln_e, zli_e, zll_e, zbI_e, zbL_e, zbR_e, zbV_e, zeR_e, zeN_s, zeN_n, Nat.reduceEqDiff, and_self, and_true, true_and, and_false, false_and, ite_true, ite_false, reduceIte, tg_11 hS, gR_11_0 hS, tg_8 hS, c_atEnd hC]
    by_cases he : lE n st = true
    · rw [if_pos he, if_neg (by decide)]
      exact ⟨α, β, st, c, by rw [if_neg (by decide)], rfl, hC, hR, Un.refl _ _, Un.refl _ _, by omega, fun q => ⟨he, hJ q, hc q⟩⟩
    · rw [if_neg he, if_pos rfl]
      match st, hC, hR, hJ, hc, he with
      | .inr z, _, _, _, _, he => exact absurd rfl he
      | .inl (s, e), hC, hR, hJ, hc, he =>
        have hs : s < n := by
          have : ¬ n ≤ s := fun q => he (by simpa [lE] using q)
          omega
        have h256 : t s < 256 := hC.1.2.2.1 s
        have hRl := RS_look hR
        have hSl := RS_sh hRl
        obtain ⟨N, M, K, hJ0⟩ := hJ rfl
        have wl : Un XL β (sI β 176 2 (nI s)) := Un_sI ⟨rfl, .inl rfl⟩
        have hJl := JH_rd hJ0 hP hS hS2 (Un.refl _ _) wl
        obtain ⟨α1, α2, β2, st2, a1, a2, a3, a4, a5, a6, a7, a8, a9, a10⟩ := j_stmt hP hC hRl (by rw [gI_sI, if_pos ⟨rfl, rfl⟩]) (c := c) (by rw [gI_sI, if_neg (by omega)]; exact hc rfl) (by omega) hJl
        obtain ⟨α', β', st', c', b1, b2, b3, b4, b5, b6, b7, b8⟩ := ih (c + 1) α2 β2 st2 (by omega) a5 a6 a9 a10
        refine ⟨α', β', st', c', ?_, ?_, b3, b4, a7.trans b5, ?_, b7, b8⟩
        · simp -implicitDefEqProofs only [tg_sI, ln_sI, tg_sL, ln_sL, tg_sR, ln_sR, tg_sC, ln_sC, ai_sI, ai_sL, gL_sI, gR_sI, gI_sL, gR_sL, gI_sR, gL_sR, gI_sI, gL_sL, gR_sR, zlt_e, zln_e, zli_e, zll_e, zbI_e, zbL_e, zbR_e, zbV_e, zeR_e, zeN_s, zeN_n, Nat.reduceEqDiff, and_self, and_true, true_and, and_false, false_and, ite_true, ite_false, reduceIte, a1, tg_11 a2, gR_11_0 a2, tg_8 a2, a3, nI_1]
          exact b1
        · rw [q_X12_house_31]
          simp -implicitDefEqProofs only [tg_sI, ln_sI, tg_sL, ln_sL, tg_sR, ln_sR, tg_sC, ln_sC, ai_sI, ai_sL, gL_sI, gR_sI, gI_sL, gR_sL, gI_sR, gL_sR, gI_sI, gL_sL, gR_sR, zlt_e, zln_e, zli_e, zll_e, zbI_e, zbL_e, zbR_e, zbV_e, zeR_e, zeN_s, zeN_n, Nat.reduceEqDiff, and_self, and_true, true_and, and_false, false_and, ite_true, ite_false, reduceIte, tg_176 hS2, bad_live hR, r_look hR]
          rw [if_pos hs, if_neg (nI_nm1 (by omega)), a4]
          exact b2
        · exact (wl.mono (fun r j _ _ q => .inl (.inl q))).trans (a8.trans b6)
end
