/-! alike: a pair that both kept -/
section
variable {σ σ' σ1 σ2 α α' β β' : zS} {X : Nat → Nat → Prop} {u : Option Value} {B P S N M K np c k n m i so p q l s z mC mR : Nat} {aC aR : List Value} {t : Nat → Nat} {st : lx}
/-- person p has kept a pair of last l, size s + 30 -/
abbrev hk (σ : zS) (p l s : Nat) : Prop := ¬ gI σ 242 (160 * p + 20 * l + s) ≤ 0
theorem c_kept (hS : Sh σ) (hp : p < 20) (hl : l < 8) (hz : z ≤ 49 ∧ 30 ≤ z) (h1 : gI σ (116 + 3 * p) 1 = nI z) (hK : PK σ p z) (hs : 28 ≤ s ∧ s ≤ 51) : zM 39 [.ref (116 + 3 * p), .int (nI l), .int (nI s)] σ = some (some (.int (if (30 ≤ s ∧ s ≤ 49) ∧ hk σ p l (s - 30) then 1 else 0)), σ) := by
  obtain ⟨-, -, k1, k2, -⟩ := hK
  rw [q_X4_hasKept]
  simp -implicitDefEqProofs only [tg_sI, ln_sI, tg_sL, ln_sL, tg_sR, ln_sR, tg_sC, ln_sC, ai_sI, ai_sL, gL_sI, gR_sI, gI_sL, gR_sL, gI_sR, gL_sR, gI_sI, gL_sL, gR_sR, zlt_e, zln_e, zli_e, zll_e, zbI_e, zbL_e, zbR_e, zbV_e, zeR_e, zeN_s, zeN_n, Nat.reduceEqDiff, and_self, and_true, true_and, and_false, false_and, ite_true, ite_false, reduceIte, tg_person hS hp, h1, gR_pkept hS hp]
  have e0 : (nI s - nI z + 2 : Int32).toInt = (s : Int) - z + 2 := by
    rw [Int32.toInt_add, Int32.toInt_sub, nI_toInt (by omega), nI_toInt (by omega)]
    have e2 : (2 : Int32).toInt = 2 := by decide
    rw [e2, Int.bmod_eq_of_le (n := ((s : Int) - z)) (by omega) (by omega), Int.bmod_eq_of_le (by omega) (by omega)]
  have five : (5 : Int32).toInt = 5 := by decide
  by_cases q1 : s + 2 < z
  · rw [if_pos (by rw [Int32.lt_iff_toInt_lt, e0]; have : (0 : Int32).toInt = 0 := rfl; omega)]
    rw [if_neg]
    rintro ⟨y1, y2⟩
    unfold hk at y2
    rw [k2 l hl (s - 30) (by omega) (by omega)] at y2
    exact y2 (by decide)
  · rw [if_neg (by rw [Int32.lt_iff_toInt_lt, e0]; have : (0 : Int32).toInt = 0 := rfl; omega)]
    by_cases q2 : z + 2 < s
    · rw [if_pos (by rw [Int32.le_iff_toInt_le, e0]; omega)]
      rw [if_neg]
      rintro ⟨y1, y2⟩
      unfold hk at y2
      rw [k2 l hl (s - 30) (by omega) (by omega)] at y2
      exact y2 (by decide)
    · have ee : nI s - nI z + 2 = nI (s + 2 - z) := by
        apply Int32.toInt_inj.mp
        rw [e0, nI_toInt (by omega)]
        omega
      have e5 : nI l * 5 + (nI s - nI z + 2) = nI (5 * l + (s + 2 - z)) := by
        rw [ee, nI_mulR 5 l, nI_add, Nat.mul_comm]
      rw [if_neg (by rw [Int32.le_iff_toInt_le, e0]; omega), e5, if_pos (ai_nI (.inl (tg_pkept hS hp)) (ln_pkept hS hp) (show 5 * l + (s + 2 - z) < 40 by omega) (by omega)), ixn (by omega), k1 l hl _ (by omega), show z + (s + 2 - z) = s + 2 by omega]
      by_cases q3 : 30 ≤ s ∧ s ≤ 49
      · rw [if_pos (show 32 ≤ s + 2 ∧ s + 2 ≤ 51 by omega), show s + 2 - 32 = s - 30 by omega]
        by_cases q4 : gI σ 242 (160 * p + 20 * l + (s - 30)) ≤ 0
        · rw [if_pos q4, if_neg (fun y => y.2 q4)]
        · rw [if_neg q4, if_pos ⟨q3, q4⟩]
      · rw [if_neg (show ¬ (32 ≤ s + 2 ∧ s + 2 ≤ 51) by omega), if_pos (by decide), if_neg (fun y => q3 y.1)]
end
