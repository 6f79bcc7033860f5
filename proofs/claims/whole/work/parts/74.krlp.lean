/-! parts of a sum, both at once: words and numbers -/
/-- the code of a fact's word -/
def fcW (w : Nat) : Nat := ([7, 8, 9, 10, 18, 30, 31, 32] : List Nat).getD (w - 25) 0
theorem fcW_lt {w : Nat} (h : 25 ≤ w ∧ w ≤ 32) : fcW w < 20000 := by
  rcases (show w = 25 ∨ w = 26 ∨ w = 27 ∨ w = 28 ∨ w = 29 ∨ w = 30 ∨ w = 31 ∨ w = 32 by omega) with rfl | rfl | rfl | rfl | rfl | rfl | rfl | rfl <;> decide
section
variable {t : Nat → Nat} {n : Nat} {α α' β β' β1 γ : zS} {st st1 : lx} {L W p : List Nat} {c O b : Nat} {was : Int32} {u1 u2 u3 u4 : Option Value}
/-- the reference's facts and numbers -/
theorem sy_word {s e w : Nat} (l1 : Int32) (h : RS β t n (.inl (s, e))) (hw : lw t n (.inl (s, e)) = w) : (25 ≤ w ∧ w ≤ 32 → ∃ β', zR 5 223 73 [some (.ref 176), some (.int l1), u2, u3, u4] [] β = zbV (zM 216 [.ref 176, .int (nI (fcW w))] β') (fun σ => some (none, σ)) ∧ RS β' t n (la t n (.inl (s, e))) ∧ Un XL β β') ∧ (¬ (25 ≤ w ∧ w ≤ 32) → ∃ β', zR 5 223 73 [some (.ref 176), some (.int l1), u2, u3, u4] [] β = zbI (zM 200 [.ref 176, .int 0, .int 9999] β') (fun x1 σ1 => if tg σ1 176 = 13 then zbV (zM 216 [.ref 176, .int (1000 + x1)] σ1) (fun σ => some (none, σ)) else none) ∧ RS β' t n (.inl (s, e)) ∧ Un XL β β') := by
  have hS := RS_sh h
  rw [q_X12_onePart_73]
  simp -implicitDefEqProofs only [tg_sI, ln_sI, tg_sL, ln_sL, tg_sR, ln_sR, tg_sC, ln_sC, ai_sI, ai_sL, gL_sI, gR_sI, gI_sL, gR_sL, gI_sR, gL_sR, gI_sI, gL_sL, gR_sR, zlt_e, zln_e, zli_e, zll_e, zbI_e, zbL_e, zbR_e, zbV_e, zeR_e, zeN_s, zeN_n, Nat.reduceEqDiff, and_self, and_true, true_and, and_false, false_and, ite_true, ite_false, reduceIte, tg_176 hS, bad_live h, gR_176_35 hS]
  by_cases q25 : w = 25
  · subst q25
    obtain ⟨β1, r1, r2, r3, r4⟩ := r_yes (w := 25) (by decide) h hw
    have r1 : zM 196 [.ref 176, .ref 203] β = some (some (.int 1), β1) := r1
    refine ⟨fun _ => ⟨β1, ?_, r2, r3⟩, fun z => absurd ⟨by omega, by omega⟩ z⟩
    simp -implicitDefEqProofs only [tg_sI, ln_sI, tg_sL, ln_sL, tg_sR, ln_sR, tg_sC, ln_sC, ai_sI, ai_sL, gL_sI, gR_sI, gI_sL, gR_sL, gI_sR, gL_sR, gI_sI, gL_sL, gR_sR, zlt_e, zln_e, zli_e, zll_e, zbI_e, zbL_e, zbR_e, zbV_e, zeR_e, zeN_s, zeN_n, Nat.reduceEqDiff, and_self, and_true, true_and, and_false, false_and, ite_true, ite_false, reduceIte, r1]
    rw [if_neg (by decide), q_X12_onePart_106, if_neg (by decide), q_X12_onePart_140, if_neg (by decide), tg_176 r4, if_pos rfl]
    rfl
  obtain ⟨b1, x1, x2, x3, x4, x5⟩ := r_no (w := 25) (by decide) h (by rw [hw]; exact q25)
  have x1 : zM 196 [.ref 176, .ref 203] β = some (some (.int 0), b1) := x1
  simp -implicitDefEqProofs only [tg_sI, ln_sI, tg_sL, ln_sL, tg_sR, ln_sR, tg_sC, ln_sC, ai_sI, ai_sL, gL_sI, gR_sI, gI_sL, gR_sL, gI_sR, gL_sR, gI_sI, gL_sL, gR_sR, zlt_e, zln_e, zli_e, zll_e, zbI_e, zbL_e, zbR_e, zbV_e, zeR_e, zeN_s, zeN_n, Nat.reduceEqDiff, and_self, and_true, true_and, and_false, false_and, ite_true, ite_false, reduceIte, x1, tg_176 x5, gR_176_36 x5]
  try rw [if_pos rfl]
  by_cases q26 : w = 26
  · subst q26
    obtain ⟨β1, r1, r2, r3, r4⟩ := r_yes (w := 26) (by decide) x2 hw
    have r1 : zM 196 [.ref 176, .ref 204] b1 = some (some (.int 1), β1) := r1
    refine ⟨fun _ => ⟨β1, ?_, r2, x4.trans r3⟩, fun z => absurd ⟨by omega, by omega⟩ z⟩
    simp -implicitDefEqProofs only [tg_sI, ln_sI, tg_sL, ln_sL, tg_sR, ln_sR, tg_sC, ln_sC, ai_sI, ai_sL, gL_sI, gR_sI, gI_sL, gR_sL, gI_sR, gL_sR, gI_sI, gL_sL, gR_sR, zlt_e, zln_e, zli_e, zll_e, zbI_e, zbL_e, zbR_e, zbV_e, zeR_e, zeN_s, zeN_n, Nat.reduceEqDiff, and_self, and_true, true_and, and_false, false_and, ite_true, ite_false, reduceIte, r1]
    rw [if_neg (by decide), q_X12_onePart_106, if_neg (by decide), q_X12_onePart_140, if_neg (by decide), tg_176 r4, if_pos rfl]
    rfl
  obtain ⟨b2, y1, y2, y3, y4, y5⟩ := r_no (w := 26) (by decide) x2 (by rw [hw]; exact q26)
  have y1 : zM 196 [.ref 176, .ref 204] b1 = some (some (.int 0), b2) := y1
  have y4 := x4.trans y4
  simp -implicitDefEqProofs only [tg_sI, ln_sI, tg_sL, ln_sL, tg_sR, ln_sR, tg_sC, ln_sC, ai_sI, ai_sL, gL_sI, gR_sI, gI_sL, gR_sL, gI_sR, gL_sR, gI_sI, gL_sL, gR_sR, zlt_e, zln_e, zli_e, zll_e, zbI_e, zbL_e, zbR_e, zbV_e, zeR_e, zeN_s, zeN_n, Nat.reduceEqDiff, and_self, and_true, true_and, and_false, false_and, ite_true, ite_false, reduceIte, y1, tg_176 y5, gR_176_37 y5]
  try rw [if_pos rfl]
  by_cases q27 : w = 27
  · subst q27
    obtain ⟨β1, r1, r2, r3, r4⟩ := r_yes (w := 27) (by decide) y2 hw
    have r1 : zM 196 [.ref 176, .ref 205] b2 = some (some (.int 1), β1) := r1
    refine ⟨fun _ => ⟨β1, ?_, r2, y4.trans r3⟩, fun z => absurd ⟨by omega, by omega⟩ z⟩
    simp -implicitDefEqProofs only [tg_sI, ln_sI, tg_sL, ln_sL, tg_sR, ln_sR, tg_sC, ln_sC, ai_sI, ai_sL, gL_sI, gR_sI, gI_sL, gR_sL, gI_sR, gL_sR, gI_sI, gL_sL, gR_sR, zlt_e, zln_e, zli_e, zll_e, zbI_e, zbL_e, zbR_e, zbV_e, zeR_e, zeN_s, zeN_n, Nat.reduceEqDiff, and_self, and_true, true_and, and_false, false_and, ite_true, ite_false, reduceIte, r1]
    rw [if_neg (by decide), q_X12_onePart_96, q_X12_onePart_106, if_neg (by decide), q_X12_onePart_140, if_neg (by decide), tg_176 r4, if_pos rfl]
    rfl
  obtain ⟨b3, z1, z2, z3, z4, z5⟩ := r_no (w := 27) (by decide) y2 (by rw [hw]; exact q27)
  have z1 : zM 196 [.ref 176, .ref 205] b2 = some (some (.int 0), b3) := z1
  have z4 := y4.trans z4
  simp -implicitDefEqProofs only [tg_sI, ln_sI, tg_sL, ln_sL, tg_sR, ln_sR, tg_sC, ln_sC, ai_sI, ai_sL, gL_sI, gR_sI, gI_sL, gR_sL, gI_sR, gL_sR, gI_sI, gL_sL, gR_sR, zlt_e, zln_e, zli_e, zll_e, zbI_e, zbL_e, zbR_e, zbV_e, zeR_e, zeN_s, zeN_n, Nat.reduceEqDiff, and_self, and_true, true_and, and_false, false_and, ite_true, ite_false, reduceIte, z1]
  first | rw [if_pos rfl, q_X12_onePart_98] | rw [q_X12_onePart_98]
  simp -implicitDefEqProofs only [tg_sI, ln_sI, tg_sL, ln_sL, tg_sR, ln_sR, tg_sC, ln_sC, ai_sI, ai_sL, gL_sI, gR_sI, gI_sL, gR_sL, gI_sR, gL_sR, gI_sI, gL_sL, gR_sR, zlt_e, zln_e, zli_e, zll_e, zbI_e, zbL_e, zbR_e, zbV_e, zeR_e, zeN_s, zeN_n, Nat.reduceEqDiff, and_self, and_true, true_and, and_false, false_and, ite_true, ite_false, reduceIte, tg_176 z5, gR_176_38 z5]
  by_cases q28 : w = 28
  · subst q28
    obtain ⟨β1, r1, r2, r3, r4⟩ := r_yes (w := 28) (by decide) z2 hw
    have r1 : zM 196 [.ref 176, .ref 206] b3 = some (some (.int 1), β1) := r1
    refine ⟨fun _ => ⟨β1, ?_, r2, z4.trans r3⟩, fun z => absurd ⟨by omega, by omega⟩ z⟩
    simp -implicitDefEqProofs only [tg_sI, ln_sI, tg_sL, ln_sL, tg_sR, ln_sR, tg_sC, ln_sC, ai_sI, ai_sL, gL_sI, gR_sI, gI_sL, gR_sL, gI_sR, gL_sR, gI_sI, gL_sL, gR_sR, zlt_e, zln_e, zli_e, zll_e, zbI_e, zbL_e, zbR_e, zbV_e, zeR_e, zeN_s, zeN_n, Nat.reduceEqDiff, and_self, and_true, true_and, and_false, false_and, ite_true, ite_false, reduceIte, r1]
    rw [if_neg (by decide), q_X12_onePart_106, if_neg (by decide), q_X12_onePart_140, if_neg (by decide), tg_176 r4, if_pos rfl]
    rfl
  obtain ⟨b4, c1, c2, c3, c4, c5⟩ := r_no (w := 28) (by decide) z2 (by rw [hw]; exact q28)
  have c1 : zM 196 [.ref 176, .ref 206] b3 = some (some (.int 0), b4) := c1
  have c4 := z4.trans c4
  simp -implicitDefEqProofs only [tg_sI, ln_sI, tg_sL, ln_sL, tg_sR, ln_sR, tg_sC, ln_sC, ai_sI, ai_sL, gL_sI, gR_sI, gI_sL, gR_sL, gI_sR, gL_sR, gI_sI, gL_sL, gR_sR, zlt_e, zln_e, zli_e, zll_e, zbI_e, zbL_e, zbR_e, zbV_e, zeR_e, zeN_s, zeN_n, Nat.reduceEqDiff, and_self, and_true, true_and, and_false, false_and, ite_true, ite_false, reduceIte, c1]
  first | rw [if_pos rfl, q_X12_onePart_106, if_pos rfl] | rw [q_X12_onePart_106, if_pos rfl]
  simp -implicitDefEqProofs only [tg_sI, ln_sI, tg_sL, ln_sL, tg_sR, ln_sR, tg_sC, ln_sC, ai_sI, ai_sL, gL_sI, gR_sI, gI_sL, gR_sL, gI_sR, gL_sR, gI_sI, gL_sL, gR_sR, zlt_e, zln_e, zli_e, zll_e, zbI_e, zbL_e, zbR_e, zbV_e, zeR_e, zeN_s, zeN_n, Nat.reduceEqDiff, and_self, and_true, true_and, and_false, false_and, ite_true, ite_false, reduceIte, tg_176 c5, gR_176_39 c5]
  by_cases q29 : w = 29
  · subst q29
    obtain ⟨β1, r1, r2, r3, r4⟩ := r_yes (w := 29) (by decide) c2 hw
    have r1 : zM 196 [.ref 176, .ref 207] b4 = some (some (.int 1), β1) := r1
    refine ⟨fun _ => ⟨β1, ?_, r2, c4.trans r3⟩, fun z => absurd ⟨by omega, by omega⟩ z⟩
    simp -implicitDefEqProofs only [tg_sI, ln_sI, tg_sL, ln_sL, tg_sR, ln_sR, tg_sC, ln_sC, ai_sI, ai_sL, gL_sI, gR_sI, gI_sL, gR_sL, gI_sR, gL_sR, gI_sI, gL_sL, gR_sR, zlt_e, zln_e, zli_e, zll_e, zbI_e, zbL_e, zbR_e, zbV_e, zeR_e, zeN_s, zeN_n, Nat.reduceEqDiff, and_self, and_true, true_and, and_false, false_and, ite_true, ite_false, reduceIte, r1]
    rw [if_neg (by decide), q_X12_onePart_140, if_neg (by decide), tg_176 r4, if_pos rfl]
    rfl
  obtain ⟨b5, d1, d2, d3, d4, d5⟩ := r_no (w := 29) (by decide) c2 (by rw [hw]; exact q29)
  have d1 : zM 196 [.ref 176, .ref 207] b4 = some (some (.int 0), b5) := d1
  have d4 := c4.trans d4
  simp -implicitDefEqProofs only [tg_sI, ln_sI, tg_sL, ln_sL, tg_sR, ln_sR, tg_sC, ln_sC, ai_sI, ai_sL, gL_sI, gR_sI, gI_sL, gR_sL, gI_sR, gL_sR, gI_sI, gL_sL, gR_sR, zlt_e, zln_e, zli_e, zll_e, zbI_e, zbL_e, zbR_e, zbV_e, zeR_e, zeN_s, zeN_n, Nat.reduceEqDiff, and_self, and_true, true_and, and_false, false_and, ite_true, ite_false, reduceIte, d1, tg_176 d5, gR_176_40 d5]
  try rw [if_pos rfl]
  by_cases q30 : w = 30
  · subst q30
    obtain ⟨β1, r1, r2, r3, r4⟩ := r_yes (w := 30) (by decide) d2 hw
    have r1 : zM 196 [.ref 176, .ref 208] b5 = some (some (.int 1), β1) := r1
    refine ⟨fun _ => ⟨β1, ?_, r2, d4.trans r3⟩, fun z => absurd ⟨by omega, by omega⟩ z⟩
    simp -implicitDefEqProofs only [tg_sI, ln_sI, tg_sL, ln_sL, tg_sR, ln_sR, tg_sC, ln_sC, ai_sI, ai_sL, gL_sI, gR_sI, gI_sL, gR_sL, gI_sR, gL_sR, gI_sI, gL_sL, gR_sR, zlt_e, zln_e, zli_e, zll_e, zbI_e, zbL_e, zbR_e, zbV_e, zeR_e, zeN_s, zeN_n, Nat.reduceEqDiff, and_self, and_true, true_and, and_false, false_and, ite_true, ite_false, reduceIte, r1]
    rw [if_neg (by decide), q_X12_onePart_140, if_neg (by decide), tg_176 r4, if_pos rfl]
    rfl
  obtain ⟨b6, f1, f2, f3, f4, f5⟩ := r_no (w := 30) (by decide) d2 (by rw [hw]; exact q30)
  have f1 : zM 196 [.ref 176, .ref 208] b5 = some (some (.int 0), b6) := f1
  have f4 := d4.trans f4
  simp -implicitDefEqProofs only [tg_sI, ln_sI, tg_sL, ln_sL, tg_sR, ln_sR, tg_sC, ln_sC, ai_sI, ai_sL, gL_sI, gR_sI, gI_sL, gR_sL, gI_sR, gL_sR, gI_sI, gL_sL, gR_sR, zlt_e, zln_e, zli_e, zll_e, zbI_e, zbL_e, zbR_e, zbV_e, zeR_e, zeN_s, zeN_n, Nat.reduceEqDiff, and_self, and_true, true_and, and_false, false_and, ite_true, ite_false, reduceIte, f1, tg_176 f5, gR_176_41 f5]
  try rw [if_pos rfl]
  by_cases q31 : w = 31
  · subst q31
    obtain ⟨β1, r1, r2, r3, r4⟩ := r_yes (w := 31) (by decide) f2 hw
    have r1 : zM 196 [.ref 176, .ref 209] b6 = some (some (.int 1), β1) := r1
    refine ⟨fun _ => ⟨β1, ?_, r2, f4.trans r3⟩, fun z => absurd ⟨by omega, by omega⟩ z⟩
    simp -implicitDefEqProofs only [tg_sI, ln_sI, tg_sL, ln_sL, tg_sR, ln_sR, tg_sC, ln_sC, ai_sI, ai_sL, gL_sI, gR_sI, gI_sL, gR_sL, gI_sR, gL_sR, gI_sI, gL_sL, gR_sR, zlt_e, zln_e, zli_e, zll_e, zbI_e, zbL_e, zbR_e, zbV_e, zeR_e, zeN_s, zeN_n, Nat.reduceEqDiff, and_self, and_true, true_and, and_false, false_and, ite_true, ite_false, reduceIte, r1]
    rw [if_neg (by decide), q_X12_onePart_129, q_X12_onePart_140, if_neg (by decide), tg_176 r4, if_pos rfl]
    rfl
  obtain ⟨b7, g1, g2, g3, g4, g5⟩ := r_no (w := 31) (by decide) f2 (by rw [hw]; exact q31)
  have g1 : zM 196 [.ref 176, .ref 209] b6 = some (some (.int 0), b7) := g1
  have g4 := f4.trans g4
  simp -implicitDefEqProofs only [tg_sI, ln_sI, tg_sL, ln_sL, tg_sR, ln_sR, tg_sC, ln_sC, ai_sI, ai_sL, gL_sI, gR_sI, gI_sL, gR_sL, gI_sR, gL_sR, gI_sI, gL_sL, gR_sR, zlt_e, zln_e, zli_e, zll_e, zbI_e, zbL_e, zbR_e, zbV_e, zeR_e, zeN_s, zeN_n, Nat.reduceEqDiff, and_self, and_true, true_and, and_false, false_and, ite_true, ite_false, reduceIte, g1]
  first | rw [if_pos rfl, q_X12_onePart_131] | rw [q_X12_onePart_131]
  simp -implicitDefEqProofs only [tg_sI, ln_sI, tg_sL, ln_sL, tg_sR, ln_sR, tg_sC, ln_sC, ai_sI, ai_sL, gL_sI, gR_sI, gI_sL, gR_sL, gI_sR, gL_sR, gI_sI, gL_sL, gR_sR, zlt_e, zln_e, zli_e, zll_e, zbI_e, zbL_e, zbR_e, zbV_e, zeR_e, zeN_s, zeN_n, Nat.reduceEqDiff, and_self, and_true, true_and, and_false, false_and, ite_true, ite_false, reduceIte, tg_176 g5, gR_176_42 g5]
  by_cases q32 : w = 32
  · subst q32
    obtain ⟨β1, r1, r2, r3, r4⟩ := r_yes (w := 32) (by decide) g2 hw
    have r1 : zM 196 [.ref 176, .ref 210] b7 = some (some (.int 1), β1) := r1
    refine ⟨fun _ => ⟨β1, ?_, r2, g4.trans r3⟩, fun z => absurd ⟨by omega, by omega⟩ z⟩
    simp -implicitDefEqProofs only [tg_sI, ln_sI, tg_sL, ln_sL, tg_sR, ln_sR, tg_sC, ln_sC, ai_sI, ai_sL, gL_sI, gR_sI, gI_sL, gR_sL, gI_sR, gL_sR, gI_sI, gL_sL, gR_sR, zlt_e, zln_e, zli_e, zll_e, zbI_e, zbL_e, zbR_e, zbV_e, zeR_e, zeN_s, zeN_n, Nat.reduceEqDiff, and_self, and_true, true_and, and_false, false_and, ite_true, ite_false, reduceIte, r1]
    rw [if_neg (by decide), q_X12_onePart_140, if_neg (by decide), tg_176 r4, if_pos rfl]
    rfl
  obtain ⟨b8, k1, k2, k3, k4, k5⟩ := r_no (w := 32) (by decide) g2 (by rw [hw]; exact q32)
  have k1 : zM 196 [.ref 176, .ref 210] b7 = some (some (.int 0), b8) := k1
  simp -implicitDefEqProofs only [tg_sI, ln_sI, tg_sL, ln_sL, tg_sR, ln_sR, tg_sC, ln_sC, ai_sI, ai_sL, gL_sI, gR_sI, gI_sL, gR_sL, gI_sR, gL_sR, gI_sI, gL_sL, gR_sR, zlt_e, zln_e, zli_e, zll_e, zbI_e, zbL_e, zbR_e, zbV_e, zeR_e, zeN_s, zeN_n, Nat.reduceEqDiff, and_self, and_true, true_and, and_false, false_and, ite_true, ite_false, reduceIte, k1]
  first | rw [if_pos rfl, q_X12_onePart_140, if_pos rfl, tg_176 k5, if_pos rfl] | rw [q_X12_onePart_140, if_pos rfl, tg_176 k5, if_pos rfl]
  exact ⟨fun z => by omega, fun _ => ⟨b8, rfl, k2, g4.trans k4⟩⟩
/-- at the head of a part that is no ( min max -/
theorem sy_head {s e : Nat} (h : RS β t n (.inl (s, e))) (h1 : ls t n (.inl (s, e)) ≠ 40) (h2 : lw t n (.inl (s, e)) ≠ 33) (h3 : lw t n (.inl (s, e)) ≠ 34) : ∃ β' u2', zR 5 223 2 [some (.ref 176), some (.int 1), u2, u3, u4] [] β = zR 5 223 73 [some (.ref 176), some (.int 0), u2', u3, u4] [] β' ∧ RS β' t n (.inl (s, e)) ∧ Un XL β β' := by
  have hS := RS_sh h
  have hRl := RS_look h
  have hSl := RS_sh hRl
  have h256 := h.1.2.2.1
  have k1 := r_isHere (w := 33) (by decide) hRl
  have k1 : zM 195 [.ref 176, .ref 211] (sI β 176 2 (nI s)) = some (some (.int (if owT t n s e = 33 then 1 else 0)), sI (sI β 176 2 (nI s)) 176 2 (nI s)) := k1
  rw [sI_same, if_neg (show ¬ owT t n s e = 33 from h2)] at k1
  have k2 := r_isHere (w := 34) (by decide) hRl
  have k2 : zM 195 [.ref 176, .ref 212] (sI β 176 2 (nI s)) = some (some (.int (if owT t n s e = 34 then 1 else 0)), sI (sI β 176 2 (nI s)) 176 2 (nI s)) := k2
  rw [sI_same, if_neg (show ¬ owT t n s e = 34 from h3)] at k2
  have hk : ¬ (if s < n then nI (t s) else -1) = (40 : Int32) := fun z => h1 ((look_is (c := 40) h256 (by decide) (by decide)).mp z)
  refine ⟨sI β 176 2 (nI s), some (.int (if s < n then nI (t s) else -1)), ?_, hRl, Un_sI ⟨rfl, .inl rfl⟩⟩
  rw [q_X12_onePart_2, if_neg (by decide)]
  simp -implicitDefEqProofs only [tg_sI, ln_sI, tg_sL, ln_sL, tg_sR, ln_sR, tg_sC, ln_sC, ai_sI, ai_sL, gL_sI, gR_sI, gI_sL, gR_sL, gI_sR, gL_sR, gI_sI, gL_sL, gR_sR, zlt_e, zln_e, zli_e, zll_e, zbI_e, zbL_e, zbR_e, zbV_e, zeR_e, zeN_s, zeN_n, Nat.reduceEqDiff, and_self, and_true, true_and, and_false, false_and, ite_true, ite_false, reduceIte, tg_176 hS, bad_live h, r_look h]
  rw [if_neg hk]
  simp -implicitDefEqProofs only [tg_sI, ln_sI, tg_sL, ln_sL, tg_sR, ln_sR, tg_sC, ln_sC, ai_sI, ai_sL, gL_sI, gR_sI, gI_sL, gR_sL, gI_sR, gL_sR, gI_sI, gL_sL, gR_sR, zlt_e, zln_e, zli_e, zll_e, zbI_e, zbL_e, zbR_e, zbV_e, zeR_e, zeN_s, zeN_n, Nat.reduceEqDiff, and_self, and_true, true_and, and_false, false_and, ite_true, ite_false, reduceIte, gR_176_43 hS]
  rw [k1]
  simp -implicitDefEqProofs only [tg_sI, ln_sI, tg_sL, ln_sL, tg_sR, ln_sR, tg_sC, ln_sC, ai_sI, ai_sL, gL_sI, gR_sI, gI_sL, gR_sL, gI_sR, gL_sR, gI_sI, gL_sL, gR_sR, zlt_e, zln_e, zli_e, zll_e, zbI_e, zbL_e, zbR_e, zbV_e, zeR_e, zeN_s, zeN_n, Nat.reduceEqDiff, and_self, and_true, true_and, and_false, false_and, ite_true, ite_false, reduceIte]
  first | rw [if_pos rfl, q_X12_onePart_30] | rw [q_X12_onePart_30]
  simp -implicitDefEqProofs only [tg_sI, ln_sI, tg_sL, ln_sL, tg_sR, ln_sR, tg_sC, ln_sC, ai_sI, ai_sL, gL_sI, gR_sI, gI_sL, gR_sL, gI_sR, gL_sR, gI_sI, gL_sL, gR_sR, zlt_e, zln_e, zli_e, zll_e, zbI_e, zbL_e, zbR_e, zbV_e, zeR_e, zeN_s, zeN_n, Nat.reduceEqDiff, and_self, and_true, true_and, and_false, false_and, ite_true, ite_false, reduceIte, tg_176 hS, gR_176_44 hS]
  rw [k2]
  simp -implicitDefEqProofs only [tg_sI, ln_sI, tg_sL, ln_sL, tg_sR, ln_sR, tg_sC, ln_sC, ai_sI, ai_sL, gL_sI, gR_sI, gI_sL, gR_sL, gI_sR, gL_sR, gI_sI, gL_sL, gR_sR, zlt_e, zln_e, zli_e, zll_e, zbI_e, zbL_e, zbR_e, zbV_e, zeR_e, zeN_s, zeN_n, Nat.reduceEqDiff, and_self, and_true, true_and, and_false, false_and, ite_true, ite_false, reduceIte]
  first | rw [if_pos rfl, q_X12_onePart_2, if_pos rfl] | rw [q_X12_onePart_2, if_pos rfl]
def Jpart (t : Nat → Nat) (n f κ : Nat) : Prop := ∀ (α β : zS) (s e O b : Nat) (W L : List Nat) (was : Int32) (u2 u3 u4 : Option Value), n ≤ s + f → CS α t n (.inl (s, e)) → DR α L → RS β t n (.inl (s, e)) → SQ β W O L b → O ≤ 6 → b ≤ W.length → L.length + W.length + κ ≤ s → (∀ i, W.getD i 0 < 1000) →
  ∃ α' st' toks, zM 63 [.ref 12, .int (nI O)] α = some (none, α') ∧ CZ t n α α' st' (L ++ toks) ∧ (¬ lL st' = true → ∃ β', KA was u2 u3 u4 β = some (none, β') ∧ SD t n β β' st') ∧ (lL st' = true → EN (1 + 3 * (6 - O)) toks ∧ (L ++ toks).length + W.length + κ ≤ lp st' ∧ s < lp st' ∧ ∃ u1 β', KA was u2 u3 u4 β = KB was u1 β' ∧ SV t n β β' st' W O (L ++ toks) b)
def Jsum (t : Nat → Nat) (n f κ : Nat) : Prop := ∀ (α β : zS) (s e O b : Nat) (W L : List Nat) (was : Int32) (u2 u3 u4 : Option Value), n ≤ s + f → CS α t n (.inl (s, e)) → DR α L → RS β t n (.inl (s, e)) → SQ β W O L b → O ≤ 6 → L.length + W.length + κ ≤ s → (∀ i, W.getD i 0 < 1000) → (W.length = b ∨ ∃ W1 m, W = W1 ++ [m] ∧ isM m ∧ b ≤ W1.length) → (∀ d, 1 ≤ d → d ≤ 4 → W.getLast? ≠ some d) →
  ∃ α' st' toks, zM 61 [.ref 12, .int (nI O)] α = some (none, α') ∧ CZ t n α α' st' (L ++ toks) ∧ (¬ lL st' = true → ∃ β', KA was u2 u3 u4 β = some (none, β') ∧ SD t n β β' st') ∧ (lL st' = true → EN (3 + 3 * (6 - O)) toks ∧ (L ++ toks).length + W.length + κ ≤ lp st' ∧ s < lp st' ∧ (ls t n st' ≠ 42 ∧ ls t n st' ≠ 47 ∧ ls t n st' ≠ 43 ∧ ls t n st' ≠ 45) ∧ ∃ p L' u1 β', KA was u2 u3 u4 β = KB was u1 β' ∧ SV t n β β' st' (W ++ p.reverse) O L' b ∧ L' ++ p = L ++ toks ∧ ∀ x, x ∈ p → 1 ≤ x ∧ x ≤ 4)
/-- the class at a number or a fact's word -/
theorem c_word {s e w O : Nat} (hO : O ≤ 6) (hC : CS α t n (.inl (s, e))) (hD : DR α L) (hl : L.length < 1600) (hw : lw t n (.inl (s, e)) = w) (h : 25 ≤ w ∧ w ≤ 32) : ∃ α', zM 63 [.ref 12, .int (nI O)] α = some (none, α') ∧ CZ t n α α' (la t n (.inl (s, e))) (L ++ [fcW w]) := by
  have hS := CS_sh hC
  have ho := c_own hC
  rw [hw] at ho
  have hn : lN_ t n (.inl (s, e)) = false := by
    have : owT t n s e = w := hw
    have h2 := owT_lt (t := t) (n := n) (s := s) (e := e) (by omega)
    show nuT t n s e = false
    unfold nuT
    simp [h2.2.1]
  have hN := c_atNumber hC
  rw [hn] at hN
  obtain ⟨α1, a1, a2⟩ := c_advW hC (by rw [hw]; omega)
  have hS1 := CS_sh a2
  have hz := z_tok (CZ_0 hC hD) rfl (by decide +kernel) a1 a2 (fun _ => rfl)
  obtain ⟨α2, p1, p2⟩ := z_put (c := fcW w) hz (fun _ => hl)
  have hS2 := CS_sh p2.1
  refine ⟨α2, ?_, p2⟩
  have hv : ∀ w, w < 33 → w < 25 ∨ (¬ owJ w < 25 ∧ ¬ 32 < owJ w ∧ (-20 : Int32) - (owJ w - 25) = cOf (fcW w)) := by decide +kernel
  obtain ⟨v1, v2, v3⟩ := (hv w (by omega)).resolve_left (by omega)
  rw [q_X6_readPart]
  simp -implicitDefEqProofs only [tg_sI, ln_sI, tg_sL, ln_sL, tg_sR, ln_sR, tg_sC, ln_sC, ai_sI, ai_sL, gL_sI, gR_sI, gI_sL, gR_sL, gI_sR, gL_sR, gI_sI, gL_sL, gR_sR, zlt_e, zln_e, zli_e, zll_e, zbI_e, zbL_e, zbR_e, zbV_e, zeR_e, zeN_s, zeN_n, Nat.reduceEqDiff, and_self, and_true, true_and, and_false, false_and, ite_true, ite_false, reduceIte, tg_12 hS, gR_12_0 hS, rk63 (show O < 2 ^ 31 by omega), rk104, rk102, rk97, rk110, rk53, bif_lt (show 1 < 6 + 10 * (7 - O) by omega), bif_lt (show 2 < 6 + 10 * (7 - O) by omega), bif_lt (show 3 < 6 + 10 * (7 - O) by omega), tg_8 hS, ho, hN]
  rw [if_pos (show ((if false = true then 1 else 0 : Int32) = 0) by decide), if_neg v1, if_neg v2]
  simp -implicitDefEqProofs only [tg_sI, ln_sI, tg_sL, ln_sL, tg_sR, ln_sR, tg_sC, ln_sC, ai_sI, ai_sL, gL_sI, gR_sI, gI_sL, gR_sL, gI_sR, gL_sR, gI_sI, gL_sL, gR_sR, zlt_e, zln_e, zli_e, zll_e, zbI_e, zbL_e, zbR_e, zbV_e, zeR_e, zeN_s, zeN_n, Nat.reduceEqDiff, and_self, and_true, true_and, and_false, false_and, ite_true, ite_false, reduceIte, a1, q_X6_readPart_25, rk53, bif_lt (show 1 < 6 + 10 * (7 - O) by omega), tg_12 hS1, v3, p1, q_X6_readPart_59]
theorem c_num {s e O : Nat} (hO : O ≤ 6) (hC : CS α t n (.inl (s, e))) (hD : DR α L) (hl : L.length < 1600) (hn : lN_ t n (.inl (s, e)) = true) : ∃ α' v, v ≤ 9999 ∧ zM 63 [.ref 12, .int (nI O)] α = some (none, α') ∧ CZ t n α α' (lU t n 0 9999 (.inl (s, e))) (L ++ [1000 + v]) ∧ (lL (lU t n 0 9999 (.inl (s, e))) = true → v = lUv t n (.inl (s, e))) := by
  have hS := CS_sh hC
  have ho := c_own hC
  have hN := c_atNumber hC
  rw [hn] at hN
  obtain ⟨α1, a1, a2⟩ := c_takeNumber hC (lo := 0) (hi := 9999) (by decide) (by decide)
  have hS1 := CS_sh a2
  have hz := z_tok (CZ_0 hC hD) rfl (by decide +kernel) a1 a2 (fun _ => rfl)
  have hv9 : (if lL (lU t n 0 9999 (.inl (s, e))) = true then lUv t n (.inl (s, e)) else 0) ≤ 9999 := by
    split
    · rename_i q
      exact (lU_hi q).2
    · omega
  generalize hv : (if lL (lU t n 0 9999 (.inl (s, e))) = true then lUv t n (.inl (s, e)) else 0) = v at *
  have a1 : zM 110 [.ref 8, .int 0, .int 9999] α = some (some (.int (nI v)), α1) := a1
  obtain ⟨α2, p1, p2⟩ := z_put (c := 1000 + v) hz (fun _ => hl)
  have hS2 := CS_sh p2.1
  refine ⟨α2, v, hv9, ?_, p2, fun q => by rw [if_pos q] at hv; exact hv.symm⟩
  have hc : cOf (1000 + v) = nI v := by
    unfold cOf
    rw [if_neg (by omega), if_pos (by omega), show 1000 + v - 1000 = v by omega]
  rw [hc] at p1
  rw [q_X6_readPart]
  simp -implicitDefEqProofs only [tg_sI, ln_sI, tg_sL, ln_sL, tg_sR, ln_sR, tg_sC, ln_sC, ai_sI, ai_sL, gL_sI, gR_sI, gI_sL, gR_sL, gI_sR, gL_sR, gI_sI, gL_sL, gR_sR, zlt_e, zln_e, zli_e, zll_e, zbI_e, zbL_e, zbR_e, zbV_e, zeR_e, zeN_s, zeN_n, Nat.reduceEqDiff, and_self, and_true, true_and, and_false, false_and, ite_true, ite_false, reduceIte, tg_12 hS, gR_12_0 hS, rk63 (show O < 2 ^ 31 by omega), rk104, rk102, rk97, rk110, rk53, bif_lt (show 1 < 6 + 10 * (7 - O) by omega), bif_lt (show 2 < 6 + 10 * (7 - O) by omega), bif_lt (show 3 < 6 + 10 * (7 - O) by omega), tg_8 hS, ho, hN]
  rw [if_neg (by decide)]
  simp -implicitDefEqProofs only [tg_sI, ln_sI, tg_sL, ln_sL, tg_sR, ln_sR, tg_sC, ln_sC, ai_sI, ai_sL, gL_sI, gR_sI, gI_sL, gR_sL, gI_sR, gL_sR, gI_sI, gL_sL, gR_sR, zlt_e, zln_e, zli_e, zll_e, zbI_e, zbL_e, zbR_e, zbV_e, zeR_e, zeN_s, zeN_n, Nat.reduceEqDiff, and_self, and_true, true_and, and_false, false_and, ite_true, ite_false, reduceIte, a1, tg_12 hS1, p1, q_X6_readPart_15, q_X6_readPart_59]
end
