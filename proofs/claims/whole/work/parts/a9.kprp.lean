/-! person: the class's row; both answer alike -/
section
variable {σ σ' σ1 σ2 α α' β β' : zS} {X : Nat → Nat → Prop} {u : Option Value} {B P S N M K np c k n m i so mC mR : Nat} {aC aR : List Value} {t : Nat → Nat} {st : lx}
theorem gI_sC' {a p b q l r j : Nat} : gI (sC σ a p b q l) r j = if r = b ∧ q ≤ j ∧ j < q + l then gI σ a (p + (j - q)) else gI σ r j := rfl
theorem Un_sC {a p b q l : Nat} (h : ∀ j, q ≤ j → j < q + l → X b j) (hb : b < 253 := by omega) : Un X σ (sC σ a p b q l) := ⟨rfl, fun r j _ _ _ d => ⟨by
  rw [gI_sC', if_neg (fun z => d (by rw [z.1]; exact h j z.2.1 z.2.2))], rfl, rfl⟩, fun r j a _ => by rw [gI_sC', if_neg (by omega)]⟩
theorem Sh_sC {a p b q l : Nat} (hS : Sh σ) (hb : b ≠ 1) : Sh (sC σ a p b q l) := by
  obtain ⟨h1, h2, h3, h4⟩ := hS
  refine ⟨h1, h2, h3, fun j hj => ?_⟩
  rw [gI_sC', if_neg (fun z => hb z.1.symm)]; exact h4 j hj
theorem c_begin {A : Nat} (hS : Sh σ) (hk : k < 20) (hA : tg σ A = 32) (lA : ln σ A = 5) (hA2 : 16 ≤ A ∧ A < 104) (z : Int32) : ∃ σ', zM 33 [.ref (116 + 3 * k), .int (nI so), .int z, .ref A] σ = some (none, σ') ∧ Sh σ' ∧ Un (fun r j => (r = 116 + 3 * k ∧ j ≠ 2) ∨ r = 117 + 3 * k ∨ r = 118 + 3 * k) σ σ' ∧ gI σ' (116 + 3 * k) 0 = nI so ∧ gI σ' (116 + 3 * k) 1 = z ∧ (∀ d, d < 5 → gI σ' (117 + 3 * k) d = gI σ A d) ∧ gI σ' (116 + 3 * k) 3 = 0 ∧ gI σ' (116 + 3 * k) 4 = 0 ∧ gI σ' (116 + 3 * k) 5 = -1 ∧ gI σ' (116 + 3 * k) 6 = 0 ∧ gI σ' (116 + 3 * k) 7 = -1 ∧ ∀ j, j < 40 → gI σ' (118 + 3 * k) j = 0 := by
  have hSa : Sh (sI (sI σ (116 + 3 * k) 0 (nI so)) (116 + 3 * k) 1 z) := (hS.sI (by omega)).sI (by omega)
  have hSb : Sh (sC (sI (sI σ (116 + 3 * k) 0 (nI so)) (116 + 3 * k) 1 z) A 0 (117 + 3 * k) 0 5) := Sh_sC hSa (by omega)
  have hSc : Sh (sI (sI (sI (sI (sI (sC (sI (sI σ (116 + 3 * k) 0 (nI so)) (116 + 3 * k) 1 z) A 0 (117 + 3 * k) 0 5) (116 + 3 * k) 3 0) (116 + 3 * k) 4 0) (116 + 3 * k) 5 (-1)) (116 + 3 * k) 6 0) (116 + 3 * k) 7 (-1)) := ((((hSb.sI (by omega)).sI (by omega)).sI (by omega)).sI (by omega)).sI (by omega)
  obtain ⟨s1, f1, f2, f3, -⟩ := c_fill (α := sI (sI (sI (sI (sI (sC (sI (sI σ (116 + 3 * k) 0 (nI so)) (116 + 3 * k) 1 z) A 0 (117 + 3 * k) 0 5) (116 + 3 * k) 3 0) (116 + 3 * k) 4 0) (116 + 3 * k) 5 (-1)) (116 + 3 * k) 6 0) (116 + 3 * k) 7 (-1)) (A := 118 + 3 * k) 0 (tg_pkept hSc hk) (ln_pkept hSc hk) (by omega)
  have hS1 : Sh s1 := zM_sh rfl hSc f1
  have zc : zcp (sI (sI σ (116 + 3 * k) 0 (nI so)) (116 + 3 * k) 1 z) A 0 (117 + 3 * k) 0 5 = true := by
    unfold zcp
    rw [tg_pfeet hSa hk, ln_pfeet hSa hk, tg_sI, tg_sI, ln_sI, ln_sI, hA, lA]
    decide
  have w : Un (fun r j => (r = 116 + 3 * k ∧ j ≠ 2) ∨ r = 117 + 3 * k ∨ r = 118 + 3 * k) σ s1 := ((Un_sI (by omega)).trans (Un_sI (by omega))).trans ((Un_sC (fun j _ _ => by omega)).trans ((Un_sI (by omega)).trans ((Un_sI (by omega)).trans ((Un_sI (by omega)).trans ((Un_sI (by omega)).trans ((Un_sI (by omega)).trans (f2.mono (fun r j _ _ q => by omega))))))))
  have n1 : 116 + 3 * k ≠ 117 + 3 * k := by omega
  refine ⟨s1, ?_, hS1, w, ?_, ?_, fun d hd => ?_, ?_, ?_, ?_, ?_, ?_, f3⟩
  · rw [q_X4_begin]
    simp -implicitDefEqProofs only [tg_sI, ln_sI, tg_sL, ln_sL, tg_sR, ln_sR, tg_sC, ln_sC, ai_sI, ai_sL, gL_sI, gR_sI, gI_sL, gR_sL, gI_sR, gL_sR, gI_sI, gL_sL, gR_sR, zlt_e, zln_e, zli_e, zll_e, zbI_e, zbL_e, zbR_e, zbV_e, zeR_e, zeN_s, zeN_n, Nat.reduceEqDiff, and_self, and_true, true_and, and_false, false_and, ite_true, ite_false, reduceIte, tg_person hS hk, gR_pfeet hS hk, zc, show ix (0 : Int32) = 0 from rfl, show ix (5 : Int32) = 5 from rfl, q_X4_begin_28, gR_pkept hSa hk, gR_pkept hSc hk, tg_person hSc hk, tg_person hSb hk, f1, gR_pkept hS hk, gR_pkept hSb hk]
  · rw [f2.i (by omega) (by omega) (by omega) (by omega)]; simp only [gI_sI, gI_sC']; simp [n1]
  · rw [f2.i (by omega) (by omega) (by omega) (by omega)]; simp only [gI_sI, gI_sC']; simp [n1]
  · rw [f2.i (by omega) (by omega) (by omega) (by omega), gI_sI, if_neg (by omega), gI_sI, if_neg (by omega), gI_sI, if_neg (by omega), gI_sI, if_neg (by omega), gI_sI, if_neg (by omega), gI_sC', if_pos ⟨rfl, by omega, by omega⟩, gI_sI, if_neg (by omega), gI_sI, if_neg (by omega), show 0 + (d - 0) = d by omega]
  · rw [f2.i (by omega) (by omega) (by omega) (by omega)]; simp only [gI_sI, gI_sC']; simp
  · rw [f2.i (by omega) (by omega) (by omega) (by omega)]; simp only [gI_sI, gI_sC']; simp
  · rw [f2.i (by omega) (by omega) (by omega) (by omega)]; simp only [gI_sI, gI_sC']; simp
  · rw [f2.i (by omega) (by omega) (by omega) (by omega)]; simp only [gI_sI, gI_sC']; simp
  · rw [f2.i (by omega) (by omega) (by omega) (by omega)]; simp only [gI_sI, gI_sC']; simp
end
