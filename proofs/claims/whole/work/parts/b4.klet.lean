/-! letter: the name that is asked for -/
section
variable {σ σ' σ1 σ2 α α' β β' : zS} {X : Nat → Nat → Prop} {u : Option Value} {B P S N M K np c k n m i so p q l s z mC mR : Nat} {aC aR : List Value} {t : Nat → Nat} {st : lx}
/-- how many of a kind -/
def kn (N M K : Nat) (d : Nat) : Nat := if d = 0 then N else if d = 1 then M else K
theorem c_nameOf (h : RR B σ c P S N M K np t n) (a b : Int32) : ((¬ ∃ d k, d < 3 ∧ k < kn N M K d ∧ a = nI d ∧ b = nI k) ∧ zM 124 [.ref 6, .int a, .int b] σ = some (some (.int 0), σ)) ∨ ∃ d k x, d < 3 ∧ k < kn N M K d ∧ a = nI d ∧ b = nI k ∧ zM 124 [.ref 6, .int a, .int b] σ = some (some (.int x), σ) ∧ NM x (gL σ 213 (24 + 8 * d + k)) := by
  have hS := h.1
  have hP := h.2.1.1
  have h65 := h.2.1.2.2.2.1
  have hN := RR_hn h
  have n1 := hN.1.2.1
  have n2 := hN.2.1.2.1
  have n3 := hN.2.2.2.1
  have cL := RR_cL h b
  have cS := c_isSort (a := b) hS hP h65 hN.2.1.1
  have cQ := c_isQuestion (a := b) hS hP h65 hN.2.2.1
  have nij : ∀ {i j : Nat}, i < 2 ^ 31 → j < 2 ^ 31 → nI i = nI j → i = j := fun hi hj e => by
    have := congrArg Int32.toInt e
    rw [nI_toInt hi, nI_toInt hj] at this
    omega
  by_cases a0 : a = 0
  · subst a0
    rcases rng_no b (N := N) (by omega) with q | ⟨k, hk, rfl⟩
    · refine .inl ⟨?_, ?_⟩
      · rintro ⟨d, k, d1, d2, d3, rfl⟩
        have : d = 0 := (nij (i := 0) (by omega) (by omega) d3).symm
        subst this
        exact q (rng_ok d2 (by show N < _; omega))
      · rw [q_X11_nameOf, if_pos rfl]
        simp -implicitDefEqProofs only [tg_sI, ln_sI, tg_sL, ln_sL, tg_sR, ln_sR, tg_sC, ln_sC, ai_sI, ai_sL, gL_sI, gR_sI, gI_sL, gR_sL, gI_sR, gL_sR, gI_sI, gL_sL, gR_sR, zlt_e, zln_e, zli_e, zll_e, zbI_e, zbL_e, zbR_e, zbV_e, zeR_e, zeN_s, zeN_n, Nat.reduceEqDiff, and_self, and_true, true_and, and_false, false_and, ite_true, ite_false, reduceIte, tg_6 hS, cL, if_neg q]
        rw [if_neg (by decide), if_neg (by decide)]
    · refine .inr ⟨0, k, gI σ (P + 8 + 2 * k) 0, by omega, hk, rfl, rfl, ?_, (h.2.2.2.2.2.1.2.2.2.2.1 k hk).1⟩
      rw [q_X11_nameOf, if_pos rfl]
      simp -implicitDefEqProofs only [tg_sI, ln_sI, tg_sL, ln_sL, tg_sR, ln_sR, tg_sC, ln_sC, ai_sI, ai_sL, gL_sI, gR_sI, gI_sL, gR_sL, gI_sR, gL_sR, gI_sI, gL_sL, gR_sR, zlt_e, zln_e, zli_e, zll_e, zbI_e, zbL_e, zbR_e, zbV_e, zeR_e, zeN_s, zeN_n, Nat.reduceEqDiff, and_self, and_true, true_and, and_false, false_and, ite_true, ite_false, reduceIte, tg_6 hS, cL, if_pos (rng_ok hk (show N < 2 ^ 31 by omega)), h65, tg_P hS hP, gR_P_0 hS hP]
      rw [if_neg (by decide), if_pos (ai_nI (.inl (tg_P1 hS hP)) (ln_P1 hS hP) (show k < 8 by omega) (by omega)), ixn (by omega), gR_Plast hS hP (by omega), zeR_e, tg_Plast hS hP (by omega), if_pos rfl]
  by_cases a1 : a = 1
  · subst a1
    rcases rng_no b (N := M) (by omega) with q | ⟨k, hk, rfl⟩
    · refine .inl ⟨?_, ?_⟩
      · rintro ⟨d, k, d1, d2, d3, rfl⟩
        have : d = 1 := (nij (i := 1) (by omega) (by omega) d3).symm
        subst this
        exact q (rng_ok d2 (by show M < _; omega))
      · rw [q_X11_nameOf, if_neg (by decide), if_pos rfl]
        simp -implicitDefEqProofs only [tg_sI, ln_sI, tg_sL, ln_sL, tg_sR, ln_sR, tg_sC, ln_sC, ai_sI, ai_sL, gL_sI, gR_sI, gI_sL, gR_sL, gI_sR, gL_sR, gI_sI, gL_sL, gR_sR, zlt_e, zln_e, zli_e, zll_e, zbI_e, zbL_e, zbR_e, zbV_e, zeR_e, zeN_s, zeN_n, Nat.reduceEqDiff, and_self, and_true, true_and, and_false, false_and, ite_true, ite_false, reduceIte, tg_6 hS, cS, if_neg q]
        rw [if_neg (by decide)]
    · refine .inr ⟨1, k, gI σ (P + 24 + 2 * k) 0, by omega, hk, rfl, rfl, ?_, (h.2.2.2.2.2.1.2.2.2.2.2.1 k hk).1⟩
      rw [q_X11_nameOf, if_neg (by decide), if_pos rfl]
      simp -implicitDefEqProofs only [tg_sI, ln_sI, tg_sL, ln_sL, tg_sR, ln_sR, tg_sC, ln_sC, ai_sI, ai_sL, gL_sI, gR_sI, gI_sL, gR_sL, gI_sR, gL_sR, gI_sI, gL_sL, gR_sR, zlt_e, zln_e, zli_e, zll_e, zbI_e, zbL_e, zbR_e, zbV_e, zeR_e, zeN_s, zeN_n, Nat.reduceEqDiff, and_self, and_true, true_and, and_false, false_and, ite_true, ite_false, reduceIte, tg_6 hS, cS, if_pos (rng_ok hk (show M < 2 ^ 31 by omega)), h65, tg_P hS hP, gR_P_1 hS hP]
      rw [if_neg (by decide), if_pos (ai_nI (.inl (tg_P2 hS hP)) (ln_P2 hS hP) (show k < 4 by omega) (by omega)), ixn (by omega), gR_Psort hS hP (by omega), zeR_e, tg_Psort hS hP (by omega), if_pos rfl]
  by_cases a2 : a = 2
  · subst a2
    rcases rng_no b (N := K) (by omega) with q | ⟨k, hk, rfl⟩
    · refine .inl ⟨?_, ?_⟩
      · rintro ⟨d, k, d1, d2, d3, rfl⟩
        have : d = 2 := (nij (i := 2) (by omega) (by omega) d3).symm
        subst this
        exact q (rng_ok d2 (by show K < _; omega))
      · rw [q_X11_nameOf, if_neg (by decide), if_neg (by decide), if_pos rfl, q_X11_nameOf_30]
        simp -implicitDefEqProofs only [tg_sI, ln_sI, tg_sL, ln_sL, tg_sR, ln_sR, tg_sC, ln_sC, ai_sI, ai_sL, gL_sI, gR_sI, gI_sL, gR_sL, gI_sR, gL_sR, gI_sI, gL_sL, gR_sR, zlt_e, zln_e, zli_e, zll_e, zbI_e, zbL_e, zbR_e, zbV_e, zeR_e, zeN_s, zeN_n, Nat.reduceEqDiff, and_self, and_true, true_and, and_false, false_and, ite_true, ite_false, reduceIte, tg_6 hS, cQ, if_neg q]
    · refine .inr ⟨2, k, gI σ (P + 32 + 2 * k) 0, by omega, hk, rfl, rfl, ?_, (h.2.2.2.2.2.1.2.2.2.2.2.2.1 k hk).1⟩
      rw [q_X11_nameOf, if_neg (by decide), if_neg (by decide), if_pos rfl, q_X11_nameOf_30]
      simp -implicitDefEqProofs only [tg_sI, ln_sI, tg_sL, ln_sL, tg_sR, ln_sR, tg_sC, ln_sC, ai_sI, ai_sL, gL_sI, gR_sI, gI_sL, gR_sL, gI_sR, gL_sR, gI_sI, gL_sL, gR_sR, zlt_e, zln_e, zli_e, zll_e, zbI_e, zbL_e, zbR_e, zbV_e, zeR_e, zeN_s, zeN_n, Nat.reduceEqDiff, and_self, and_true, true_and, and_false, false_and, ite_true, ite_false, reduceIte, tg_6 hS, cQ, if_pos (rng_ok hk (show K < 2 ^ 31 by omega)), h65, tg_P hS hP, gR_P_2 hS hP]
      rw [if_neg (by decide), if_pos (ai_nI (.inl (tg_P3 hS hP)) (ln_P3 hS hP) (show k < 6 by omega) (by omega)), ixn (by omega), gR_Pquest hS hP (by omega), zeR_e, tg_Pquest hS hP (by omega), if_pos rfl]
  · refine .inl ⟨?_, ?_⟩
    · rintro ⟨d, k, d1, d2, rfl, -⟩
      rcases (show d = 0 ∨ d = 1 ∨ d = 2 by omega) with rfl | rfl | rfl
      · exact a0 rfl
      · exact a1 rfl
      · exact a2 rfl
    · rw [q_X11_nameOf, if_neg a0, if_neg a1, if_neg a2]
end
