/-! the class's step from token to token -/
section
variable {σ : zS} {t : Nat → Nat} {n : Nat}
theorem lt_of_cell {x y : Nat} (h : x < y) (hy : y ≤ 1600) : nI x < nI y := nI_lt h (by omega)
theorem rn_loop {s m : Nat} (hT : TC σ t n) (hs : gI σ 8 5 = nI s) (hm : gI σ 8 3 = nI m) (hmn : m ≤ n) (hsn : s ≤ m) (hl : ∀ j, s ≤ j → j < m → kO (t j) = 2) : ∀ d i, d + i = min 4 (m - s) → zR 1 100 6 [some (.ref 8), some (.int (nI (s + i)))] [] (sI σ 8 6 (nI (nvp t s i))) = some (none, sI σ 8 6 (nI (nv t s m))) := by
  obtain ⟨hS, hn, hc, htx, h81, h82, h9⟩ := hT
  intro d
  induction d with
  | zero =>
    intro i hi
    have hi : i = min 4 (m - s) := by omega
    rw [q_X10_readNumber_6]
    simp -implicitDefEqProofs only [tg_sI, ln_sI, tg_sL, ln_sL, tg_sR, ln_sR, tg_sC, ln_sC, ai_sI, ai_sL, gL_sI, gR_sI, gI_sL, gR_sL, gI_sR, gL_sR, gI_sI, gL_sL, gR_sR, zlt_e, zln_e, zli_e, zll_e, zbI_e, zbL_e, zbR_e, zbV_e, zeR_e, zeN_s, zeN_n, Nat.reduceEqDiff, and_self, and_true, true_and, and_false, false_and, ite_true, ite_false, reduceIte, tg_8 hS, hs, hm, h81]
    rw [show (4 : Int32) = nI 4 from rfl, nI_add]
    unfold nv
    rw [← hi]
    by_cases h : m ≤ s + i
    · rw [if_pos (nI_le h (by omega))]
    · rw [if_neg (nI_ge (by omega) (by omega)), if_pos (nI_le (by omega) (by omega))]
  | succ d ih =>
    intro i hi
    rw [q_X10_readNumber_6]
    simp -implicitDefEqProofs only [tg_sI, ln_sI, tg_sL, ln_sL, tg_sR, ln_sR, tg_sC, ln_sC, ai_sI, ai_sL, gL_sI, gR_sI, gI_sL, gR_sL, gI_sR, gL_sR, gI_sI, gL_sL, gR_sR, zlt_e, zln_e, zli_e, zll_e, zbI_e, zbL_e, zbR_e, zbV_e, zeR_e, zeN_s, zeN_n, Nat.reduceEqDiff, and_self, and_true, true_and, and_false, false_and, ite_true, ite_false, reduceIte, tg_8 hS, hs, hm, h81]
    rw [show (4 : Int32) = nI 4 from rfl, nI_add, if_neg (nI_ge (by omega) (by omega)), if_neg (nI_ge (by omega) (by omega)), if_pos (ai_nI (.inl (tg_7 hS)) (ln_7 hS) (by omega) (by omega)), ixn (by omega), htx, show (10 : Int32) = nI 10 from rfl, pk_mul, sb_dig (hl _ (by omega) (by omega)), sI_same, nI_1]
    have := ih (i + 1) (by omega)
    rw [nvp] at this
    exact this
theorem adv_15 (hT : TC σ t n) (g b : Int32) : ∀ x, x ≤ n → zR 2 97 15 [some (.ref 8), some (.int g), some (.int b)] [] (sI σ 8 3 (nI x)) = if ru t n 5 x < n then zR 2 97 51 [some (.ref 8), some (.int g), some (.int b)] [] (sI (sI (sI σ 8 3 (nI (ru t n 5 x))) 8 5 (nI (ru t n 5 x))) 8 7 (-1)) else zR 2 97 47 [some (.ref 8), some (.int g), some (.int b)] [] (sI (sI (sI σ 8 3 (nI (ru t n 5 x))) 8 5 (nI (ru t n 5 x))) 8 7 (-1)) := by
  obtain ⟨hS, hn, hc, htx, h81, h82, h9⟩ := hT
  have hk : ∀ c, kO c < 10 := by intro c; unfold kO; repeat' split
                                 all_goals omega
  refine ru_ind (t := t) (n := n) (k := 5) _ ?_ ?_
  · intro x h hx
    rw [ru_stop h, q_X10_advance_15]
    simp -implicitDefEqProofs only [tg_sI, ln_sI, tg_sL, ln_sL, tg_sR, ln_sR, tg_sC, ln_sC, ai_sI, ai_sL, gL_sI, gR_sI, gI_sL, gR_sL, gI_sR, gL_sR, gI_sI, gL_sL, gR_sR, zlt_e, zln_e, zli_e, zll_e, zbI_e, zbL_e, zbR_e, zbV_e, zeR_e, zeN_s, zeN_n, Nat.reduceEqDiff, and_self, and_true, true_and, and_false, false_and, ite_true, ite_false, reduceIte, tg_8 hS, h81, h82]
    by_cases hx2 : x < n
    · rw [if_neg (nI_ge hx2 (by omega)), if_pos (ai_nI (.inl (tg_7 hS)) (ln_7 hS) (by omega) (by omega)), ixn (by omega), htx, s_kindOf (hc _)]
      simp -implicitDefEqProofs only [tg_sI, ln_sI, tg_sL, ln_sL, tg_sR, ln_sR, tg_sC, ln_sC, ai_sI, ai_sL, gL_sI, gR_sI, gI_sL, gR_sL, gI_sR, gL_sR, gI_sI, gL_sL, gR_sR, zlt_e, zln_e, zli_e, zll_e, zbI_e, zbL_e, zbR_e, zbV_e, zeR_e, zeN_s, zeN_n, Nat.reduceEqDiff, and_self, and_true, true_and, and_false, false_and, ite_true, ite_false, reduceIte, tg_8 hS, h81, h82]
      rw [if_neg (show ¬ nI (kO (t x)) = 5 from fun q => h ⟨hx2, (nI_eq (by have := hk (t x); omega) (by decide)).mp (show nI (kO (t x)) = nI 5 from q)⟩), if_pos (nI_lt hx2 (by omega)), if_pos hx2]
    · rw [if_pos (nI_le (by omega) (by omega)), if_neg (nI_nlt (by omega) (by omega)), if_neg hx2]
  · intro x h ih hx
    rw [ru_step h, q_X10_advance_15]
    simp -implicitDefEqProofs only [tg_sI, ln_sI, tg_sL, ln_sL, tg_sR, ln_sR, tg_sC, ln_sC, ai_sI, ai_sL, gL_sI, gR_sI, gI_sL, gR_sL, gI_sR, gL_sR, gI_sI, gL_sL, gR_sR, zlt_e, zln_e, zli_e, zll_e, zbI_e, zbL_e, zbR_e, zbV_e, zeR_e, zeN_s, zeN_n, Nat.reduceEqDiff, and_self, and_true, true_and, and_false, false_and, ite_true, ite_false, reduceIte, tg_8 hS, h81, h82]
    rw [if_neg (nI_ge h.1 (by omega)), if_pos (ai_nI (.inl (tg_7 hS)) (ln_7 hS) (by omega) (by omega)), ixn (by omega), htx, s_kindOf (hc _), h.2]
    simp -implicitDefEqProofs only [tg_sI, ln_sI, tg_sL, ln_sL, tg_sR, ln_sR, tg_sC, ln_sC, ai_sI, ai_sL, gL_sI, gR_sI, gI_sL, gR_sL, gI_sR, gL_sR, gI_sI, gL_sL, gR_sR, zlt_e, zln_e, zli_e, zll_e, zbI_e, zbL_e, zbR_e, zbV_e, zeR_e, zeN_s, zeN_n, Nat.reduceEqDiff, and_self, and_true, true_and, and_false, false_and, ite_true, ite_false, reduceIte, tg_8 hS, h81, h82]
    rw [if_pos (show nI 5 = 5 from rfl), sI_same, nI_1]
    exact ih (by omega)
theorem adv_79 (hT : TC σ t n) (g b : Int32) {k : Nat} (hk : k = 1 ∨ k = 2) (hk4 : gI σ 8 4 = nI k) : ∀ x, x ≤ n → zR 2 97 79 [some (.ref 8), some (.int g), some (.int b)] [] (sI σ 8 3 (nI x)) = zbV (zM (if k = 1 then 99 else 100) [.ref 8] (sI σ 8 3 (nI (ru t n k x)))) (fun σ1 => if g = 0 then some (none, σ1) else zR 2 97 111 [some (.ref 8), some (.int g), some (.int b)] [] σ1) := by
  obtain ⟨hS, hn, hc, htx, h81, h82, h9⟩ := hT
  have hk9 : ∀ c, kO c < 10 := by intro c; unfold kO; repeat' split
                                  all_goals omega
  have fin : ∀ z, (if (nI k) = 1 then (zbV (zM 99 [.ref 8] (sI σ 8 3 (nI z))) (fun σ1 => if g = 0 then (some (none, σ1)) else (zR 2 97 111 [some (.ref 8), some (.int g), some (.int b)] [] σ1))) else (zbV (zM 100 [.ref 8] (sI σ 8 3 (nI z))) (fun σ1 => if g = 0 then (some (none, σ1)) else (zR 2 97 111 [some (.ref 8), some (.int g), some (.int b)] [] σ1)))) = zbV (zM (if k = 1 then 99 else 100) [.ref 8] (sI σ 8 3 (nI z))) (fun σ1 => if g = 0 then some (none, σ1) else zR 2 97 111 [some (.ref 8), some (.int g), some (.int b)] [] σ1) := by
    intro z
    rcases hk with rfl | rfl
    · rw [if_pos (show nI 1 = 1 from rfl), if_pos rfl]
    · rw [if_neg (show ¬ nI 2 = 1 by decide), if_neg (by decide)]
  refine ru_ind (t := t) (n := n) (k := k) _ ?_ ?_
  · intro x h hx
    rw [ru_stop h, q_X10_advance_79]
    simp -implicitDefEqProofs only [tg_sI, ln_sI, tg_sL, ln_sL, tg_sR, ln_sR, tg_sC, ln_sC, ai_sI, ai_sL, gL_sI, gR_sI, gI_sL, gR_sL, gI_sR, gL_sR, gI_sI, gL_sL, gR_sR, zlt_e, zln_e, zli_e, zll_e, zbI_e, zbL_e, zbR_e, zbV_e, zeR_e, zeN_s, zeN_n, Nat.reduceEqDiff, and_self, and_true, true_and, and_false, false_and, ite_true, ite_false, reduceIte, tg_8 hS, h81, h82, hk4]
    by_cases hx2 : x < n
    · rw [if_neg (nI_ge hx2 (by omega)), if_pos (ai_nI (.inl (tg_7 hS)) (ln_7 hS) (by omega) (by omega)), ixn (by omega), htx, s_kindOf (hc _)]
      simp -implicitDefEqProofs only [tg_sI, ln_sI, tg_sL, ln_sL, tg_sR, ln_sR, tg_sC, ln_sC, ai_sI, ai_sL, gL_sI, gR_sI, gI_sL, gR_sL, gI_sR, gL_sR, gI_sI, gL_sL, gR_sR, zlt_e, zln_e, zli_e, zll_e, zbI_e, zbL_e, zbR_e, zbV_e, zeR_e, zeN_s, zeN_n, Nat.reduceEqDiff, and_self, and_true, true_and, and_false, false_and, ite_true, ite_false, reduceIte, tg_8 hS, h81, h82, hk4]
      rw [if_neg (fun q => h ⟨hx2, (nI_eq (by have := hk9 (t x); omega) (by omega)).mp q⟩)]
      exact fin x
    · rw [if_pos (nI_le (by omega) (by omega))]
      exact fin x
  · intro x h ih hx
    rw [ru_step h, q_X10_advance_79]
    simp -implicitDefEqProofs only [tg_sI, ln_sI, tg_sL, ln_sL, tg_sR, ln_sR, tg_sC, ln_sC, ai_sI, ai_sL, gL_sI, gR_sI, gI_sL, gR_sL, gI_sR, gL_sR, gI_sI, gL_sL, gR_sR, zlt_e, zln_e, zli_e, zll_e, zbI_e, zbL_e, zbR_e, zbV_e, zeR_e, zeN_s, zeN_n, Nat.reduceEqDiff, and_self, and_true, true_and, and_false, false_and, ite_true, ite_false, reduceIte, tg_8 hS, h81, h82, hk4]
    rw [if_neg (nI_ge h.1 (by omega)), if_pos (ai_nI (.inl (tg_7 hS)) (ln_7 hS) (by omega) (by omega)), ixn (by omega), htx, s_kindOf (hc _), h.2]
    simp -implicitDefEqProofs only [tg_sI, ln_sI, tg_sL, ln_sL, tg_sR, ln_sR, tg_sC, ln_sC, ai_sI, ai_sL, gL_sI, gR_sI, gI_sL, gR_sL, gI_sR, gL_sR, gI_sI, gL_sL, gR_sR, zlt_e, zln_e, zli_e, zll_e, zbI_e, zbL_e, zbR_e, zbV_e, zeR_e, zeN_s, zeN_n, Nat.reduceEqDiff, and_self, and_true, true_and, and_false, false_and, ite_true, ite_false, reduceIte, tg_8 hS, h81, h82, hk4]
    rw [sI_same, nI_1]
    exact ih (by omega)
end
