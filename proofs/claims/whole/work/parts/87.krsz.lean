/-! the sizes of a send, both at once -/
/-- how many of the five bits -/
def pc (B : Nat) : Nat := B % 2 + B / 2 % 2 + B / 4 % 2 + B / 8 % 2 + B / 16 % 2
theorem bit_and : ∀ B, B < 32 → ∀ k, k < 5 → (nI B &&& nI (2 ^ k) = 0 ↔ B / 2 ^ k % 2 = 0) ∧ nI B ||| nI (2 ^ k) = nI (B ||| 2 ^ k) ∧ B ||| 2 ^ k < 32 ∧ (B / 2 ^ k % 2 = 0 → pc (B ||| 2 ^ k) = pc B + 1) ∧ B ||| 2 ^ k ≠ 0 := by decide +kernel
section
variable {t : Nat → Nat} {n : Nat} {α α' α1 β β0 β' β1 γ : zS} {st st1 : lx} {L W V W0 q p toks : List Nat} {c O b f : Nat}
theorem la_pos2 {s e : Nat} (h : lw t n (.inl (s, e)) < 35) : s + 2 ≤ lp (la t n (.inl (s, e))) := by
  obtain ⟨h1, h2, h3, h4⟩ := owT_lt (t := t) (n := n) (s := s) (e := e) h
  have hw := ((ow_iff h h1 h2 h3).mp rfl).1
  have hl := (wL_len h).2
  have e1 : tkE t n s = ru t n 1 s := by unfold tkE; rw [if_neg (by omega), h2]
  have := tkS_ge (t := t) (n := n) (s := s)
  show s + 2 ≤ tkS t n s
  have hw : ru t n 1 s = s + (wL (lw t n (.inl (s, e)))).length := hw
  omega
theorem r_sizeTold {s e w : Nat} (h : RS β t n (.inl (s, e))) (hw : lw t n (.inl (s, e)) = w) : (15 ≤ w ∧ w ≤ 19 → ∃ β', zM 231 [.ref 176] β = some (some (.int (nI (2 ^ (w - 15)))), β') ∧ RS β' t n (la t n (.inl (s, e))) ∧ Un XL β β') ∧ (¬ (15 ≤ w ∧ w ≤ 19) → ∃ β', zM 231 [.ref 176] β = some (some (.int 0), β') ∧ RS β' t n (.inl (s, e)) ∧ Un XL β β') := by
  have hS := RS_sh h
  rw [q_X12_sizeTold]
  simp -implicitDefEqProofs only [tg_sI, ln_sI, tg_sL, ln_sL, tg_sR, ln_sR, tg_sC, ln_sC, ai_sI, ai_sL, gL_sI, gR_sI, gI_sL, gR_sL, gI_sR, gL_sR, gI_sI, gL_sL, gR_sR, zlt_e, zln_e, zli_e, zll_e, zbI_e, zbL_e, zbR_e, zbV_e, zeR_e, zeN_s, zeN_n, Nat.reduceEqDiff, and_self, and_true, true_and, and_false, false_and, ite_true, ite_false, reduceIte, tg_176 hS, gR_176_25 hS]
  by_cases q25 : w = 15
  · subst q25
    obtain ⟨β1, r1, r2, r3, r4⟩ := r_yes (w := 15) (by decide) h hw
    have r1 : zM 196 [.ref 176, .ref 193] β = some (some (.int 1), β1) := r1
    refine ⟨fun _ => ⟨β1, ?_, r2, r3⟩, fun z => absurd ⟨by omega, by omega⟩ z⟩
    simp -implicitDefEqProofs only [tg_sI, ln_sI, tg_sL, ln_sL, tg_sR, ln_sR, tg_sC, ln_sC, ai_sI, ai_sL, gL_sI, gR_sI, gI_sL, gR_sL, gI_sR, gL_sR, gI_sI, gL_sL, gR_sR, zlt_e, zln_e, zli_e, zll_e, zbI_e, zbL_e, zbR_e, zbV_e, zeR_e, zeN_s, zeN_n, Nat.reduceEqDiff, and_self, and_true, true_and, and_false, false_and, ite_true, ite_false, reduceIte, r1]
    rw [if_neg (by decide)]
    rfl
  obtain ⟨b1, x1, x2, x3, x4, x5⟩ := r_no (w := 15) (by decide) h (by rw [hw]; exact q25)
  have x1 : zM 196 [.ref 176, .ref 193] β = some (some (.int 0), b1) := x1
  simp -implicitDefEqProofs only [tg_sI, ln_sI, tg_sL, ln_sL, tg_sR, ln_sR, tg_sC, ln_sC, ai_sI, ai_sL, gL_sI, gR_sI, gI_sL, gR_sL, gI_sR, gL_sR, gI_sI, gL_sL, gR_sR, zlt_e, zln_e, zli_e, zll_e, zbI_e, zbL_e, zbR_e, zbV_e, zeR_e, zeN_s, zeN_n, Nat.reduceEqDiff, and_self, and_true, true_and, and_false, false_and, ite_true, ite_false, reduceIte, x1, tg_176 x5, gR_176_26 x5]
  by_cases q26 : w = 16
  · subst q26
    obtain ⟨β1, r1, r2, r3, r4⟩ := r_yes (w := 16) (by decide) x2 hw
    have r1 : zM 196 [.ref 176, .ref 194] b1 = some (some (.int 1), β1) := r1
    refine ⟨fun _ => ⟨β1, ?_, r2, x4.trans r3⟩, fun z => absurd ⟨by omega, by omega⟩ z⟩
    simp -implicitDefEqProofs only [tg_sI, ln_sI, tg_sL, ln_sL, tg_sR, ln_sR, tg_sC, ln_sC, ai_sI, ai_sL, gL_sI, gR_sI, gI_sL, gR_sL, gI_sR, gL_sR, gI_sI, gL_sL, gR_sR, zlt_e, zln_e, zli_e, zll_e, zbI_e, zbL_e, zbR_e, zbV_e, zeR_e, zeN_s, zeN_n, Nat.reduceEqDiff, and_self, and_true, true_and, and_false, false_and, ite_true, ite_false, reduceIte, r1]
    rw [if_neg (by decide)]
    rfl
  obtain ⟨b2, y1, y2, y3, y4, y5⟩ := r_no (w := 16) (by decide) x2 (by rw [hw]; exact q26)
  have y1 : zM 196 [.ref 176, .ref 194] b1 = some (some (.int 0), b2) := y1
  have y4 := x4.trans y4
  simp -implicitDefEqProofs only [tg_sI, ln_sI, tg_sL, ln_sL, tg_sR, ln_sR, tg_sC, ln_sC, ai_sI, ai_sL, gL_sI, gR_sI, gI_sL, gR_sL, gI_sR, gL_sR, gI_sI, gL_sL, gR_sR, zlt_e, zln_e, zli_e, zll_e, zbI_e, zbL_e, zbR_e, zbV_e, zeR_e, zeN_s, zeN_n, Nat.reduceEqDiff, and_self, and_true, true_and, and_false, false_and, ite_true, ite_false, reduceIte, y1, tg_176 y5, gR_176_27 y5]
  by_cases q27 : w = 17
  · subst q27
    obtain ⟨β1, r1, r2, r3, r4⟩ := r_yes (w := 17) (by decide) y2 hw
    have r1 : zM 196 [.ref 176, .ref 195] b2 = some (some (.int 1), β1) := r1
    refine ⟨fun _ => ⟨β1, ?_, r2, y4.trans r3⟩, fun z => absurd ⟨by omega, by omega⟩ z⟩
    simp -implicitDefEqProofs only [tg_sI, ln_sI, tg_sL, ln_sL, tg_sR, ln_sR, tg_sC, ln_sC, ai_sI, ai_sL, gL_sI, gR_sI, gI_sL, gR_sL, gI_sR, gL_sR, gI_sI, gL_sL, gR_sR, zlt_e, zln_e, zli_e, zll_e, zbI_e, zbL_e, zbR_e, zbV_e, zeR_e, zeN_s, zeN_n, Nat.reduceEqDiff, and_self, and_true, true_and, and_false, false_and, ite_true, ite_false, reduceIte, r1]
    rw [if_neg (by decide)]
    rfl
  obtain ⟨b3, z1, z2, z3, z4, z5⟩ := r_no (w := 17) (by decide) y2 (by rw [hw]; exact q27)
  have z1 : zM 196 [.ref 176, .ref 195] b2 = some (some (.int 0), b3) := z1
  have z4 := y4.trans z4
  simp -implicitDefEqProofs only [tg_sI, ln_sI, tg_sL, ln_sL, tg_sR, ln_sR, tg_sC, ln_sC, ai_sI, ai_sL, gL_sI, gR_sI, gI_sL, gR_sL, gI_sR, gL_sR, gI_sI, gL_sL, gR_sR, zlt_e, zln_e, zli_e, zll_e, zbI_e, zbL_e, zbR_e, zbV_e, zeR_e, zeN_s, zeN_n, Nat.reduceEqDiff, and_self, and_true, true_and, and_false, false_and, ite_true, ite_false, reduceIte, z1, q_X12_sizeTold_21, tg_176 z5, gR_176_28 z5]
  by_cases q28 : w = 18
  · subst q28
    obtain ⟨β1, r1, r2, r3, r4⟩ := r_yes (w := 18) (by decide) z2 hw
    have r1 : zM 196 [.ref 176, .ref 196] b3 = some (some (.int 1), β1) := r1
    refine ⟨fun _ => ⟨β1, ?_, r2, z4.trans r3⟩, fun z => absurd ⟨by omega, by omega⟩ z⟩
    simp -implicitDefEqProofs only [tg_sI, ln_sI, tg_sL, ln_sL, tg_sR, ln_sR, tg_sC, ln_sC, ai_sI, ai_sL, gL_sI, gR_sI, gI_sL, gR_sL, gI_sR, gL_sR, gI_sI, gL_sL, gR_sR, zlt_e, zln_e, zli_e, zll_e, zbI_e, zbL_e, zbR_e, zbV_e, zeR_e, zeN_s, zeN_n, Nat.reduceEqDiff, and_self, and_true, true_and, and_false, false_and, ite_true, ite_false, reduceIte, r1]
    rw [if_neg (by decide)]
    rfl
  obtain ⟨b4, c1, c2, c3, c4, c5⟩ := r_no (w := 18) (by decide) z2 (by rw [hw]; exact q28)
  have c1 : zM 196 [.ref 176, .ref 196] b3 = some (some (.int 0), b4) := c1
  have c4 := z4.trans c4
  simp -implicitDefEqProofs only [tg_sI, ln_sI, tg_sL, ln_sL, tg_sR, ln_sR, tg_sC, ln_sC, ai_sI, ai_sL, gL_sI, gR_sI, gI_sL, gR_sL, gI_sR, gL_sR, gI_sI, gL_sL, gR_sR, zlt_e, zln_e, zli_e, zll_e, zbI_e, zbL_e, zbR_e, zbV_e, zeR_e, zeN_s, zeN_n, Nat.reduceEqDiff, and_self, and_true, true_and, and_false, false_and, ite_true, ite_false, reduceIte, c1, tg_176 c5, gR_176_29 c5]
  by_cases q29 : w = 19
  · subst q29
    obtain ⟨β1, r1, r2, r3, r4⟩ := r_yes (w := 19) (by decide) c2 hw
    have r1 : zM 196 [.ref 176, .ref 197] b4 = some (some (.int 1), β1) := r1
    refine ⟨fun _ => ⟨β1, ?_, r2, c4.trans r3⟩, fun z => absurd ⟨by omega, by omega⟩ z⟩
    simp -implicitDefEqProofs only [tg_sI, ln_sI, tg_sL, ln_sL, tg_sR, ln_sR, tg_sC, ln_sC, ai_sI, ai_sL, gL_sI, gR_sI, gI_sL, gR_sL, gI_sR, gL_sR, gI_sI, gL_sL, gR_sR, zlt_e, zln_e, zli_e, zll_e, zbI_e, zbL_e, zbR_e, zbV_e, zeR_e, zeN_s, zeN_n, Nat.reduceEqDiff, and_self, and_true, true_and, and_false, false_and, ite_true, ite_false, reduceIte, r1]
    rw [if_neg (by decide)]
    rfl
  obtain ⟨b5, d1, d2, d3, d4, d5⟩ := r_no (w := 19) (by decide) c2 (by rw [hw]; exact q29)
  have d1 : zM 196 [.ref 176, .ref 197] b4 = some (some (.int 0), b5) := d1
  simp -implicitDefEqProofs only [tg_sI, ln_sI, tg_sL, ln_sL, tg_sR, ln_sR, tg_sC, ln_sC, ai_sI, ai_sL, gL_sI, gR_sI, gI_sL, gR_sL, gI_sR, gL_sR, gI_sI, gL_sL, gR_sR, zlt_e, zln_e, zli_e, zll_e, zbI_e, zbL_e, zbR_e, zbV_e, zeR_e, zeN_s, zeN_n, Nat.reduceEqDiff, and_self, and_true, true_and, and_false, false_and, ite_true, ite_false, reduceIte, d1]
  exact ⟨fun z => by omega, fun _ => ⟨b5, rfl, d2, c4.trans d4⟩⟩
theorem c_atSize (h : CS α t n st) : zM 55 [.ref 12] α = some (some (.int (if 15 ≤ lw t n st ∧ lw t n st ≤ 19 then 1 else 0)), α) := by
  have hS := CS_sh h
  have ho := c_own h
  have h35 := lw_le (t := t) (n := n) st
  generalize lw t n st = w at *
  have hv : ∀ w, w < 36 → (owJ w < 15 ↔ ¬ 15 ≤ w ∨ w = 35) ∧ (19 < owJ w ↔ 19 < w ∧ w ≠ 35) := by decide +kernel
  obtain ⟨v1, v2⟩ := hv w (by omega)
  rw [q_X6_atSizeWord]
  simp -implicitDefEqProofs only [tg_sI, ln_sI, tg_sL, ln_sL, tg_sR, ln_sR, tg_sC, ln_sC, ai_sI, ai_sL, gL_sI, gR_sI, gI_sL, gR_sL, gI_sR, gL_sR, gI_sI, gL_sL, gR_sR, zlt_e, zln_e, zli_e, zll_e, zbI_e, zbL_e, zbR_e, zbV_e, zeR_e, zeN_s, zeN_n, Nat.reduceEqDiff, and_self, and_true, true_and, and_false, false_and, ite_true, ite_false, reduceIte, tg_12 hS, gR_12_0 hS, tg_8 hS, ho, v1, v2]
  repeat' split
  all_goals first | rfl | omega
/-- the class's loop at its end -/
theorem c_szEnd {B i : Nat} {u : Option Value} (hC : CS α t n st) (hB : B ≠ 0 ∧ B < 32) (hi : i ≤ 4) (hw : 3 < i ∨ ¬ (15 ≤ lw t n st ∧ lw t n st ≤ 19)) : zR 3 54 4 [some (.ref 12), some (.int (nI B)), some (.int (nI i)), u] [] α = some (some (.int (nI B)), α) := by
  have hS := CS_sh hC
  have hb0 : ¬ nI B = 0 := nI_ne0 (by omega) (by omega)
  have hi3 : (3 : Int32) < nI i ↔ 3 < i := nI_ltI (a := 3) (by omega) (by omega)
  rw [q_X6_readSizes_4]
  simp -implicitDefEqProofs only [tg_sI, ln_sI, tg_sL, ln_sL, tg_sR, ln_sR, tg_sC, ln_sC, ai_sI, ai_sL, gL_sI, gR_sI, gI_sL, gR_sL, gI_sR, gL_sR, gI_sI, gL_sL, gR_sR, zlt_e, zln_e, zli_e, zll_e, zbI_e, zbL_e, zbR_e, zbV_e, zeR_e, zeN_s, zeN_n, Nat.reduceEqDiff, and_self, and_true, true_and, and_false, false_and, ite_true, ite_false, reduceIte, tg_12 hS, c_atSize hC, hi3]
  by_cases q : 3 < i
  · rw [if_pos q, if_neg hb0]
  · have hw : ¬ (15 ≤ lw t n st ∧ lw t n st ≤ 19) := by omega
    rw [if_neg q, if_neg hw, if_pos rfl, if_neg hb0]
theorem J_szLoop : ∀ k (α β : zS) (s e B i : Nat) (u u4 u5 u6 : Option Value), k + i = 4 → i ≤ 3 → CS α t n (.inl (s, e)) → RS β t n (.inl (s, e)) → B < 32 → pc B = i → (B = 0 ↔ i = 0) → ∃ α' β' st' v w, zR 3 54 4 [some (.ref 12), some (.int (nI B)), some (.int (nI i)), u] [] α = some (some (.int v), α') ∧ zR 5 232 6 [some (.ref 176), some (.int (nI B)), some (.int (nI i)), some (.int 1), u4, u5, u6] [] β = some (some (.int w), β') ∧ CS α' t n st' ∧ RS β' t n st' ∧ Un (fun r _ => r = 8) α α' ∧ Un XL β β' ∧ (lL st' = true → s ≤ lp st' ∧ (i = 0 → s + 2 ≤ lp st') ∧ ∃ B', B' < 32 ∧ B' ≠ 0 ∧ pc B' ≤ 3 ∧ v = nI B' ∧ w = nI B') := by
  intro k
  induction k with
  | zero =>
    intro α β s e B i u u4 u5 u6 hk hi hC hR hB hpc h0
    omega
  | succ k ih =>
    intro α β s e B i u u4 u5 u6 hk hi hC hR hB hpc h0
    have hS := CS_sh hC
    have hSb := RS_sh hR
    have h16 := hC.1.2.1
    have hsn : s ≤ n := hC.2.1.1
    have hRl := RS_look hR
    have hSl := RS_sh hRl
    have wl : Un XL β (sI β 176 2 (nI s)) := Un_sI ⟨rfl, .inl rfl⟩
    have ho := c_own hC
    obtain ⟨z1, z2⟩ := r_sizeTold hRl (w := lw t n (.inl (s, e))) rfl
    have hat := c_atSize hC
    have hi3 : ¬ (3 : Int32) < nI i := nI_nlt (b := i) (a := 3) (by omega) (by omega)
    have e0 : zR 5 232 6 [some (.ref 176), some (.int (nI B)), some (.int (nI i)), some (.int 1), u4, u5, u6] [] β = zbI (zM 231 [.ref 176] (sI β 176 2 (nI s))) (fun x2 σ2 => if x2 = 0 then (if nI i = 0 then (if tg σ2 176 = 13 then zbV (zM 191 [.ref 176, .int 1, .int (nI s)] σ2) (fun σ3 => zR 5 232 34 [some (.ref 176), some (.int (nI B)), some (.int (nI i)), some (.int 0), some (.int (if s < n then nI (t s) else -1)), some (.int (nI s)), some (.int x2)] [] σ3) else none) else (zR 5 232 34 [some (.ref 176), some (.int (nI B)), some (.int (nI i)), some (.int 0), some (.int (if s < n then nI (t s) else -1)), some (.int (nI s)), some (.int x2)] [] σ2)) else (zR 5 232 34 [some (.ref 176), some (.int (nI B)), some (.int (nI i)), some (.int 1), some (.int (if s < n then nI (t s) else -1)), some (.int (nI s)), some (.int x2)] [] σ2)) := by
      rw [q_X12_sizesTold_6, if_neg (by decide)]
      simp -implicitDefEqProofs only [tg_sI, ln_sI, tg_sL, ln_sL, tg_sR, ln_sR, tg_sC, ln_sC, ai_sI, ai_sL, gL_sI, gR_sI, gI_sL, gR_sL, gI_sR, gL_sR, gI_sI, gL_sL, gR_sR, zlt_e, zln_e, zli_e, zll_e, zbI_e, zbL_e, zbR_e, zbV_e, zeR_e, zeN_s, zeN_n, Nat.reduceEqDiff, and_self, and_true, true_and, and_false, false_and, ite_true, ite_false, reduceIte, tg_176 hSb, bad_live hR, r_look hR]
    rw [e0, q_X6_readSizes_4, if_neg hi3]
    simp -implicitDefEqProofs only [tg_sI, ln_sI, tg_sL, ln_sL, tg_sR, ln_sR, tg_sC, ln_sC, ai_sI, ai_sL, gL_sI, gR_sI, gI_sL, gR_sL, gI_sR, gL_sR, gI_sI, gL_sL, gR_sR, zlt_e, zln_e, zli_e, zll_e, zbI_e, zbL_e, zbR_e, zbV_e, zeR_e, zeN_s, zeN_n, Nat.reduceEqDiff, and_self, and_true, true_and, and_false, false_and, ite_true, ite_false, reduceIte, tg_12 hS, hat, gR_12_0 hS, tg_8 hS, ho]
    by_cases hw : 15 ≤ lw t n (.inl (s, e)) ∧ lw t n (.inl (s, e)) ≤ 19
    · have h5 := own_no5 (t := t) (n := n) (s := s) (e := e) (by omega)
      have hp : s + 2 ≤ tkS t n s := la_pos2 (t := t) (n := n) (s := s) (e := e) (by omega)
      obtain ⟨β2, r1, r2, r3⟩ := z1 hw
      have hS2 := RS_sh r2
      have hv : ∀ w, w < 20 → w < 15 ∨ (1 : Int32) <<< ((owJ w - 15) &&& 31) = nI (2 ^ (w - 15)) := by decide +kernel
      have hbit := (hv (lw t n (.inl (s, e))) (by omega)).resolve_left (by omega)
      have hpos : ∀ k, k < 5 → ¬ nI (2 ^ k) = 0 := by decide +kernel
      obtain ⟨b1, b2, b3, b4, b5⟩ := bit_and B hB (lw t n (.inl (s, e)) - 15) (by omega)
      rw [if_pos hw, if_neg (by decide), hbit, r1]
      simp -implicitDefEqProofs only [tg_sI, ln_sI, tg_sL, ln_sL, tg_sR, ln_sR, tg_sC, ln_sC, ai_sI, ai_sL, gL_sI, gR_sI, gI_sL, gR_sL, gI_sR, gL_sR, gI_sI, gL_sL, gR_sR, zlt_e, zln_e, zli_e, zll_e, zbI_e, zbL_e, zbR_e, zbV_e, zeR_e, zeN_s, zeN_n, Nat.reduceEqDiff, and_self, and_true, true_and, and_false, false_and, ite_true, ite_false, reduceIte, b1, b2]
      rw [if_neg (hpos _ (by omega)), q_X12_sizesTold_34, if_neg (show ¬ (1 : Int32) = 0 by decide)]
      simp -implicitDefEqProofs only [b1, b2, tg_176 hS2]
      generalize hbd : lw t n (.inl (s, e)) - 15 = d at *
      by_cases h3 : i = 3
      · obtain ⟨α2, f1, f2⟩ := c_failHere hC (f := 5) (by decide) (by decide)
        have f1 : zM 107 [.ref 8, .int 5] α = some (none, α2) := f1
        obtain ⟨β3, g1, g2⟩ := r_fail r2 (f := 5) (p := s) (by decide) (by decide) (by omega)
        have g1 : zM 191 [.ref 176, .int 5, .int (nI s)] β2 = some (none, β3) := g1
        have f2 : CS α2 t n (.inr (5, s)) := f2
        have g2 : RS β3 t n (.inr (5, s)) := g2
        subst h3
        rw [if_pos (show nI 3 = 3 from rfl), f1, if_pos (show nI 3 = 3 from rfl), if_pos trivial, g1]
        simp -implicitDefEqProofs only [tg_sI, ln_sI, tg_sL, ln_sL, tg_sR, ln_sR, tg_sC, ln_sC, ai_sI, ai_sL, gL_sI, gR_sI, gI_sL, gR_sL, gI_sR, gL_sR, gI_sI, gL_sL, gR_sR, zlt_e, zln_e, zli_e, zll_e, zbI_e, zbL_e, zbR_e, zbV_e, zeR_e, zeN_s, zeN_n, Nat.reduceEqDiff, and_self, and_true, true_and, and_false, false_and, ite_true, ite_false, reduceIte, q_X6_readSizes_25, q_X6_readSizes_42, nI_1]
        rw [c_szEnd f2 ⟨by omega, hB⟩ (by omega) (.inl (by omega)), q_X12_sizesTold_6, if_neg (by decide), tg_176 (RS_sh g2), if_pos rfl, if_neg (dead_5 g2 (fun q => by cases q))]
        exact ⟨α2, β3, .inr (5, s), _, _, rfl, rfl, f2, g2, Un_tok hS f1 rfl (by decide +kernel), wl.trans (r3.trans (Un_ref hS2 g1 rfl (by decide +kernel))), fun q => by cases q⟩
      · have hi3 : ¬ nI i = 3 := fun z => by have := (nI_eq (b := 3) (by omega) (by omega)).mp z; omega
        rw [if_neg hi3, if_neg hi3]
        by_cases hbb : B / 2 ^ d % 2 = 0
        · obtain ⟨α2, a1, a2⟩ := c_advW hC (by omega)
          rw [if_pos hbb, if_pos hbb, a1]
          simp -implicitDefEqProofs only [tg_sI, ln_sI, tg_sL, ln_sL, tg_sR, ln_sR, tg_sC, ln_sC, ai_sI, ai_sL, gL_sI, gR_sI, gI_sL, gR_sL, gI_sR, gL_sR, gI_sI, gL_sL, gR_sR, zlt_e, zln_e, zli_e, zll_e, zbI_e, zbL_e, zbR_e, zbV_e, zeR_e, zeN_s, zeN_n, Nat.reduceEqDiff, and_self, and_true, true_and, and_false, false_and, ite_true, ite_false, reduceIte, q_X6_readSizes_42, nI_1]
          obtain ⟨α', β', st', v, w, k1, k2, k3, k4, k5, k6, k7⟩ := ih α2 β2 _ _ (B ||| 2 ^ d) (i + 1) (some (.int (nI (2 ^ d)))) (some (.int (if s < n then nI (t s) else -1))) (some (.int (nI s))) (some (.int (nI (2 ^ d)))) (by omega) (by omega) a2 r2 b3 (by rw [b4 hbb, hpc]) (by constructor <;> intro z <;> omega)
          rw [k1, k2]
          refine ⟨α', β', st', v, w, rfl, rfl, k3, k4, (Un_tok hS a1 rfl (by decide +kernel)).trans k5, wl.trans (r3.trans k6), fun q => ?_⟩
          obtain ⟨j1, j2, j3⟩ := k7 q
          exact ⟨by omega, fun _ => by omega, j3⟩
        · obtain ⟨α2, f1, f2⟩ := c_failHere hC (f := 3) (by decide) (by decide)
          have f1 : zM 107 [.ref 8, .int 3] α = some (none, α2) := f1
          obtain ⟨β3, g1, g2⟩ := r_fail r2 (f := 3) (p := s) (by decide) (by decide) (by omega)
          have g1 : zM 191 [.ref 176, .int 3, .int (nI s)] β2 = some (none, β3) := g1
          have f2 : CS α2 t n (.inr (3, s)) := f2
          have g2 : RS β3 t n (.inr (3, s)) := g2
          have hB0 : B ≠ 0 := fun z => by rw [z] at hbb; simp at hbb
          rw [if_neg hbb, if_neg hbb, f1, if_pos trivial, g1]
          simp -implicitDefEqProofs only [tg_sI, ln_sI, tg_sL, ln_sL, tg_sR, ln_sR, tg_sC, ln_sC, ai_sI, ai_sL, gL_sI, gR_sI, gI_sL, gR_sL, gI_sR, gL_sR, gI_sI, gL_sL, gR_sR, zlt_e, zln_e, zli_e, zll_e, zbI_e, zbL_e, zbR_e, zbV_e, zeR_e, zeN_s, zeN_n, Nat.reduceEqDiff, and_self, and_true, true_and, and_false, false_and, ite_true, ite_false, reduceIte, q_X6_readSizes_34, q_X6_readSizes_42, nI_1]
          rw [c_szEnd f2 ⟨hB0, hB⟩ (by omega) (.inr (by have := dead_x (t := t) (n := n) (st := .inr (3, s)) (fun q => by cases q); omega)), q_X12_sizesTold_6, if_neg (by decide), tg_176 (RS_sh g2), if_pos rfl, if_neg (dead_5 g2 (fun q => by cases q))]
          exact ⟨α2, β3, .inr (3, s), _, _, rfl, rfl, f2, g2, Un_tok hS f1 rfl (by decide +kernel), wl.trans (r3.trans (Un_ref hS2 g1 rfl (by decide +kernel))), fun q => by cases q⟩
    · obtain ⟨β2, r1, r2, r3⟩ := z2 hw
      have hS2 := RS_sh r2
      rw [if_neg hw, if_pos rfl, r1]
      simp -implicitDefEqProofs only [tg_sI, ln_sI, tg_sL, ln_sL, tg_sR, ln_sR, tg_sC, ln_sC, ai_sI, ai_sL, gL_sI, gR_sI, gI_sL, gR_sL, gI_sR, gL_sR, gI_sI, gL_sL, gR_sR, zlt_e, zln_e, zli_e, zll_e, zbI_e, zbL_e, zbR_e, zbV_e, zeR_e, zeN_s, zeN_n, Nat.reduceEqDiff, and_self, and_true, true_and, and_false, false_and, ite_true, ite_false, reduceIte, tg_176 hS2]
      by_cases hi0 : i = 0
      · have hB0 : B = 0 := h0.mpr hi0
        subst hi0 hB0
        obtain ⟨α2, f1, f2⟩ := c_failHere hC (f := 1) (by decide) (by decide)
        have f1 : zM 107 [.ref 8, .int 1] α = some (none, α2) := f1
        obtain ⟨β3, g1, g2⟩ := r_fail r2 (f := 1) (p := s) (by decide) (by decide) (by omega)
        have g1 : zM 191 [.ref 176, .int 1, .int (nI s)] β2 = some (none, β3) := g1
        have f2 : CS α2 t n (.inr (1, s)) := f2
        have g2 : RS β3 t n (.inr (1, s)) := g2
        rw [if_pos (show nI 0 = 0 from rfl), f1, if_pos (show nI 0 = 0 from rfl), g1]
        simp -implicitDefEqProofs only [tg_sI, ln_sI, tg_sL, ln_sL, tg_sR, ln_sR, tg_sC, ln_sC, ai_sI, ai_sL, gL_sI, gR_sI, gI_sL, gR_sL, gI_sR, gL_sR, gI_sI, gL_sL, gR_sR, zlt_e, zln_e, zli_e, zll_e, zbI_e, zbL_e, zbR_e, zbV_e, zeR_e, zeN_s, zeN_n, Nat.reduceEqDiff, and_self, and_true, true_and, and_false, false_and, ite_true, ite_false, reduceIte, q_X12_sizesTold_34]
        rw [if_pos (show nI 0 &&& 0 = 0 by decide), q_X12_sizesTold_6, if_pos rfl]
        exact ⟨α2, β3, .inr (1, s), _, _, rfl, rfl, f2, g2, Un_tok hS f1 rfl (by decide +kernel), wl.trans (r3.trans (Un_ref hS2 g1 rfl (by decide +kernel))), fun q => by cases q⟩
      · have hB0 : B ≠ 0 := fun z => hi0 (h0.mp z)
        have hz : nI B &&& 0 = 0 := by simp
        have hz2 : nI B ||| 0 = nI B := by simp
        rw [if_neg (nI_ne0 (by omega) (by omega)), if_neg (nI_ne0 (by omega) (by omega)), q_X12_sizesTold_34, if_pos rfl, hz, if_pos rfl, hz2, q_X12_sizesTold_6, if_pos rfl]
        exact ⟨α, β2, .inl (s, e), _, _, rfl, rfl, hC, r2, Un.refl _ _, wl.trans r3, fun _ => ⟨Nat.le_refl _, fun z => absurd z hi0, B, hB, hB0, by omega, rfl, rfl⟩⟩
end
