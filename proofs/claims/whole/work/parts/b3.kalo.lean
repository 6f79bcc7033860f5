/-! alike: the call -/
section
variable {σ σ' σ1 σ2 α α' β β' : zS} {X : Nat → Nat → Prop} {u : Option Value} {B P S N M K np c k n m i so p q l s z mC mR : Nat} {aC aR : List Value} {t : Nat → Nat} {st : lx}
theorem op_alike (h : RR B σ c P S N M K np t n) (a b : Int32) : Al B σ c 172 [.ref 6, .int a, .int b] 302 [.ref 176, .int a, .int b] := by
  have hS := h.1
  have n20 := (RR_pn h).1
  rcases rng_no a (N := np) (by omega) with qa | ⟨p, hp, rfl⟩
  · refine Al_rd h (-1) ?_ ?_
    · rw [q_X11_alike]
      simp -implicitDefEqProofs only [tg_sI, ln_sI, tg_sL, ln_sL, tg_sR, ln_sR, tg_sC, ln_sC, ai_sI, ai_sL, gL_sI, gR_sI, gI_sL, gR_sL, gI_sR, gL_sR, gI_sI, gL_sL, gR_sR, zlt_e, zln_e, zli_e, zll_e, zbI_e, zbL_e, zbR_e, zbV_e, zeR_e, zeN_s, zeN_n, Nat.reduceEqDiff, and_self, and_true, true_and, and_false, false_and, ite_true, ite_false, reduceIte, tg_6 hS, RR_cP h, if_neg qa]
    · rw [q_X12_alike]
      simp -implicitDefEqProofs only [tg_sI, ln_sI, tg_sL, ln_sL, tg_sR, ln_sR, tg_sC, ln_sC, ai_sI, ai_sL, gL_sI, gR_sI, gI_sL, gR_sL, gI_sR, gL_sR, gI_sI, gL_sL, gR_sR, zlt_e, zln_e, zli_e, zll_e, zbI_e, zbL_e, zbR_e, zbV_e, zeR_e, zeN_s, zeN_n, Nat.reduceEqDiff, and_self, and_true, true_and, and_false, false_and, ite_true, ite_false, reduceIte, tg_176 hS, RR_rP h, if_neg qa]
  have qa := rng_ok hp (by omega)
  rcases rng_no b (N := np) (by omega) with qb | ⟨q, hq, rfl⟩
  · refine Al_rd h (-1) ?_ ?_
    · rw [q_X11_alike]
      simp -implicitDefEqProofs only [tg_sI, ln_sI, tg_sL, ln_sL, tg_sR, ln_sR, tg_sC, ln_sC, ai_sI, ai_sL, gL_sI, gR_sI, gI_sL, gR_sL, gI_sR, gL_sR, gI_sI, gL_sL, gR_sR, zlt_e, zln_e, zli_e, zll_e, zbI_e, zbL_e, zbR_e, zbV_e, zeR_e, zeN_s, zeN_n, Nat.reduceEqDiff, and_self, and_true, true_and, and_false, false_and, ite_true, ite_false, reduceIte, tg_6 hS, RR_cP h, if_pos qa, if_neg qb]
      rw [if_neg (by decide)]
    · rw [q_X12_alike]
      simp -implicitDefEqProofs only [tg_sI, ln_sI, tg_sL, ln_sL, tg_sR, ln_sR, tg_sC, ln_sC, ai_sI, ai_sL, gL_sI, gR_sI, gI_sL, gR_sL, gI_sR, gL_sR, gI_sI, gL_sL, gR_sR, zlt_e, zln_e, zli_e, zll_e, zbI_e, zbL_e, zbR_e, zbV_e, zeR_e, zeN_s, zeN_n, Nat.reduceEqDiff, and_self, and_true, true_and, and_false, false_and, ite_true, ite_false, reduceIte, tg_176 hS, RR_rP h, if_pos qa, if_neg qb]
      rw [if_neg (by decide)]
  have qb := rng_ok hq (by omega)
  by_cases e : nI p = nI q
  · refine Al_rd h (-1) ?_ ?_
    · rw [q_X11_alike]
      simp -implicitDefEqProofs only [tg_sI, ln_sI, tg_sL, ln_sL, tg_sR, ln_sR, tg_sC, ln_sC, ai_sI, ai_sL, gL_sI, gR_sI, gI_sL, gR_sL, gI_sR, gL_sR, gI_sI, gL_sL, gR_sR, zlt_e, zln_e, zli_e, zll_e, zbI_e, zbL_e, zbR_e, zbV_e, zeR_e, zeN_s, zeN_n, Nat.reduceEqDiff, and_self, and_true, true_and, and_false, false_and, ite_true, ite_false, reduceIte, tg_6 hS, RR_cP h, if_pos qa, if_pos qb]
      rw [if_neg (by decide), if_neg (by decide), if_pos e]
    · rw [q_X12_alike]
      simp -implicitDefEqProofs only [tg_sI, ln_sI, tg_sL, ln_sL, tg_sR, ln_sR, tg_sC, ln_sC, ai_sI, ai_sL, gL_sI, gR_sI, gI_sL, gR_sL, gI_sR, gL_sR, gI_sI, gL_sL, gR_sR, zlt_e, zln_e, zli_e, zll_e, zbI_e, zbL_e, zbR_e, zbV_e, zeR_e, zeN_s, zeN_n, Nat.reduceEqDiff, and_self, and_true, true_and, and_false, false_and, ite_true, ite_false, reduceIte, tg_176 hS, RR_rP h, if_pos qa, if_pos qb]
      rw [if_neg (by decide), if_neg (by decide), if_pos e]
  have p20 : p < 20 := by omega
  have q20 : q < 20 := by omega
  obtain ⟨so, z, -, z1, z2, p4, -, -, -, p8⟩ := h.2.2.2.2.2.2.2.2.1 p hp
  obtain ⟨so', z', -, z1', z2', p4', -, -, -, p8'⟩ := h.2.2.2.2.2.2.2.2.1 q hq
  obtain ⟨c1, c0⟩ := c_alike hS p20 q20 ⟨z2, z1⟩ ⟨z2', z1'⟩ p4.2.2.1 p4'.2.2.1 p8 p8'
  obtain ⟨r1, r0⟩ := r_alike hS p20 q20
  have iff : (∃ l, l < 8 ∧ ∃ d, d < 5 ∧ hks σ p l (z - 2 + d) ∧ hks σ q l (z - 2 + d)) ↔ ∃ j, j < 160 ∧ ¬ gI σ 242 (160 * p + j) ≤ 0 ∧ ¬ gI σ 242 (160 * q + j) ≤ 0 := by
    constructor
    · rintro ⟨l, hl, d, hd, ⟨x1, x2⟩, ⟨-, y2⟩⟩
      refine ⟨20 * l + (z - 2 + d - 30), by omega, ?_, ?_⟩
      · rw [← Nat.add_assoc]; exact x2
      · rw [← Nat.add_assoc]; exact y2
    · rintro ⟨j, hj, x, y⟩
      have ej : j = 20 * (j / 20) + j % 20 := by omega
      have x' : ¬ gI σ 242 (160 * p + 20 * (j / 20) + j % 20) ≤ 0 := by rw [Nat.add_assoc, ← ej]; exact x
      have y' : ¬ gI σ 242 (160 * q + 20 * (j / 20) + j % 20) ≤ 0 := by rw [Nat.add_assoc, ← ej]; exact y
      have near : z ≤ j % 20 + 32 ∧ j % 20 + 28 ≤ z := by
        by_cases w : z ≤ j % 20 + 32 ∧ j % 20 + 28 ≤ z
        · exact w
        · exfalso
          rw [p8.2.2.2.1 (j / 20) (by omega) (j % 20) (by omega) w] at x'
          exact x' (by decide)
      refine ⟨j / 20, by omega, j % 20 + 30 - (z - 2), by omega, ?_⟩
      have es : z - 2 + (j % 20 + 30 - (z - 2)) = j % 20 + 30 := by omega
      rw [es]
      refine ⟨⟨by omega, ?_⟩, by omega, ?_⟩
      · unfold hk; rw [Nat.add_sub_cancel]; exact x'
      · unfold hk; rw [Nat.add_sub_cancel]; exact y'
  have key : ∀ v : Int32, (v = 0 ∨ v = 1) → zM 40 [.ref (116 + 3 * p), .ref (116 + 3 * q)] σ = some (some (.int v), σ) → zM 301 [.ref 176, .int (nI p), .int (nI q)] σ = some (some (.int v), σ) → Al B σ c 172 [.ref 6, .int (nI p), .int (nI q)] 302 [.ref 176, .int (nI p), .int (nI q)] := fun v hv e1 e2 => by
    refine Al_rd h v ?_ ?_
    · rw [q_X11_alike]
      simp -implicitDefEqProofs only [tg_sI, ln_sI, tg_sL, ln_sL, tg_sR, ln_sR, tg_sC, ln_sC, ai_sI, ai_sL, gL_sI, gR_sI, gI_sL, gR_sL, gI_sR, gL_sR, gI_sI, gL_sL, gR_sR, zlt_e, zln_e, zli_e, zll_e, zbI_e, zbL_e, zbR_e, zbV_e, zeR_e, zeN_s, zeN_n, Nat.reduceEqDiff, and_self, and_true, true_and, and_false, false_and, ite_true, ite_false, reduceIte, tg_6 hS, RR_cP h, if_pos qa, if_pos qb]
      rw [if_neg (by decide), if_neg (by decide), if_neg e, q_X11_alike_13]
      simp -implicitDefEqProofs only [tg_sI, ln_sI, tg_sL, ln_sL, tg_sR, ln_sR, tg_sC, ln_sC, ai_sI, ai_sL, gL_sI, gR_sI, gI_sL, gR_sL, gI_sR, gL_sR, gI_sI, gL_sL, gR_sR, zlt_e, zln_e, zli_e, zll_e, zbI_e, zbL_e, zbR_e, zbV_e, zeR_e, zeN_s, zeN_n, Nat.reduceEqDiff, and_self, and_true, true_and, and_false, false_and, ite_true, ite_false, reduceIte, tg_6 hS, gR_6_9 hS]
      rw [if_pos (ai_nI (.inl (tg_104 hS)) (ln_104 hS) p20 (by omega)), ixn (show p < 2 ^ 31 by omega), gR_people hS p20, zeR_e, if_pos (ai_nI (.inl (tg_104 hS)) (ln_104 hS) q20 (by omega)), ixn (show q < 2 ^ 31 by omega), gR_people hS q20, zeR_e, tg_person hS p20, if_pos rfl, e1, zbI_e]
      rcases hv with rfl | rfl
      · rw [if_pos rfl]
      · rw [if_neg (by decide)]
    · rw [q_X12_alike]
      simp -implicitDefEqProofs only [tg_sI, ln_sI, tg_sL, ln_sL, tg_sR, ln_sR, tg_sC, ln_sC, ai_sI, ai_sL, gL_sI, gR_sI, gI_sL, gR_sL, gI_sR, gL_sR, gI_sI, gL_sL, gR_sR, zlt_e, zln_e, zli_e, zll_e, zbI_e, zbL_e, zbR_e, zbV_e, zeR_e, zeN_s, zeN_n, Nat.reduceEqDiff, and_self, and_true, true_and, and_false, false_and, ite_true, ite_false, reduceIte, tg_176 hS, RR_rP h, if_pos qa, if_pos qb]
      rw [if_neg (by decide), if_neg (by decide), if_neg e, e2, zbI_e]
      rcases hv with rfl | rfl
      · rw [if_pos rfl]
      · rw [if_neg (by decide)]
  by_cases w : ∃ l, l < 8 ∧ ∃ d, d < 5 ∧ hks σ p l (z - 2 + d) ∧ hks σ q l (z - 2 + d)
  · exact key 1 (.inr rfl) (c1 w) (r1 (iff.mp w))
  · exact key 0 (.inl rfl) (c0 w) (r0 (fun y => w (iff.mpr y)))
end
