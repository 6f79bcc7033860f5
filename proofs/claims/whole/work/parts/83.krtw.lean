/-! the reference's tests: and, or, the end; sums as a whole, both at once -/
section
variable {t : Nat → Nat} {n : Nat} {α α' α1 β β0 β' β1 γ : zS} {st st1 : lx} {L W V W0 q p toks : List Nat} {c O b f : Nat} {l2 : Int32} {u1 u2 u3 u4 : Option Value}
theorem lp43 (hW : W.getLast? ≠ some 14) : ∀ (p L : List Nat) (β : zS), SV t n β0 β st (W ++ p.reverse) O L b → sm (W ++ p.reverse) L → (∀ x, x ∈ p → x = 14) → ∃ β', zR 4 230 43 [some (.ref 176)] [] β = some (some (.int 1), β') ∧ SV t n β0 β' st (W ++ [14]) O (L ++ p) b := by
  intro p
  induction p with
  | nil =>
    intro L β h hs hp
    rw [List.reverse_nil, List.append_nil] at h hs
    rw [List.append_nil]
    have hS := RS_sh h.1
    have hs1 := hs.1
    have i1 : zM 218 [.ref 176, .int 14] β = _ := v_isOn h hs (d := 14) (by decide)
    rw [decide_eq_false hW] at i1
    refine ⟨_, ?_, v_push h (by omega) 14⟩
    rw [q_X12_goesOnTest_43]
    simp -implicitDefEqProofs only [tg_sI, ln_sI, tg_sL, ln_sL, tg_sR, ln_sR, tg_sC, ln_sC, ai_sI, ai_sL, gL_sI, gR_sI, gI_sL, gR_sL, gI_sR, gL_sR, gI_sI, gL_sL, gR_sR, zlt_e, zln_e, zli_e, zll_e, zbI_e, zbL_e, zbR_e, zbV_e, zeR_e, zeN_s, zeN_n, Nat.reduceEqDiff, and_self, and_true, true_and, and_false, false_and, ite_true, ite_false, reduceIte, tg_176 hS, i1, bI_0]
    have := go_push (l := 14) h hs
    simp -implicitDefEqProofs only [tg_sI, ln_sI, tg_sL, ln_sL, tg_sR, ln_sR, tg_sC, ln_sC, ai_sI, ai_sL, gL_sI, gR_sI, gI_sL, gR_sL, gI_sR, gL_sR, gI_sI, gL_sL, gR_sR, zlt_e, zln_e, zli_e, zll_e, zbI_e, zbL_e, zbR_e, zbV_e, zeR_e, zeN_s, zeN_n, Nat.reduceEqDiff, and_self, and_true, true_and, and_false, false_and, ite_true, ite_false, reduceIte, tg_176 hS] at this
    exact this
  | cons x q ih =>
    intro L β h hs hp
    rw [rev_c] at h hs
    have hS := RS_sh h.1
    have i1 : zM 218 [.ref 176, .int 14] β = _ := v_isOn h hs (d := 14) (by decide)
    simp only [last_c] at i1
    obtain ⟨β2, d1, d2⟩ := v_drops h hs
    obtain ⟨β', k1, k2⟩ := ih (L ++ [x]) β2 d2 (sm_drop hs) (fun y hy => hp y (by simp [hy]))
    refine ⟨β', ?_, by rw [app_c L x q]; exact k2⟩
    rw [q_X12_goesOnTest_43]
    simp -implicitDefEqProofs only [tg_sI, ln_sI, tg_sL, ln_sL, tg_sR, ln_sR, tg_sC, ln_sC, ai_sI, ai_sL, gL_sI, gR_sI, gI_sL, gR_sL, gI_sR, gL_sR, gI_sI, gL_sL, gR_sR, zlt_e, zln_e, zli_e, zll_e, zbI_e, zbL_e, zbR_e, zbV_e, zeR_e, zeN_s, zeN_n, Nat.reduceEqDiff, and_self, and_true, true_and, and_false, false_and, ite_true, ite_false, reduceIte, tg_176 hS, i1, bI_0, d1, k1]
    rcases hp x (by simp) with rfl
    rfl
theorem lp69 (hW : W.getLast? ≠ some 14) (hW2 : W.getLast? ≠ some 15) : ∀ (p L : List Nat) (β : zS), SV t n β0 β st (W ++ p.reverse) O L b → sm (W ++ p.reverse) L → (∀ x, x ∈ p → x = 14 ∨ x = 15) → ∃ β', zR 4 230 69 [some (.ref 176)] [] β = some (some (.int 1), β') ∧ SV t n β0 β' st (W ++ [15]) O (L ++ p) b := by
  intro p
  induction p with
  | nil =>
    intro L β h hs hp
    rw [List.reverse_nil, List.append_nil] at h hs
    rw [List.append_nil]
    have hS := RS_sh h.1
    have hs1 := hs.1
    have i1 : zM 218 [.ref 176, .int 14] β = _ := v_isOn h hs (d := 14) (by decide)
    have i2 : zM 218 [.ref 176, .int 15] β = _ := v_isOn h hs (d := 15) (by decide)
    rw [decide_eq_false hW] at i1
    rw [decide_eq_false hW2] at i2
    refine ⟨_, ?_, v_push h (by omega) 15⟩
    rw [q_X12_goesOnTest_69]
    simp -implicitDefEqProofs only [tg_sI, ln_sI, tg_sL, ln_sL, tg_sR, ln_sR, tg_sC, ln_sC, ai_sI, ai_sL, gL_sI, gR_sI, gI_sL, gR_sL, gI_sR, gL_sR, gI_sI, gL_sL, gR_sR, zlt_e, zln_e, zli_e, zll_e, zbI_e, zbL_e, zbR_e, zbV_e, zeR_e, zeN_s, zeN_n, Nat.reduceEqDiff, and_self, and_true, true_and, and_false, false_and, ite_true, ite_false, reduceIte, tg_176 hS, i1, i2, bI_0]
    have := go_push (l := 15) h hs
    simp -implicitDefEqProofs only [tg_sI, ln_sI, tg_sL, ln_sL, tg_sR, ln_sR, tg_sC, ln_sC, ai_sI, ai_sL, gL_sI, gR_sI, gI_sL, gR_sL, gI_sR, gL_sR, gI_sI, gL_sL, gR_sR, zlt_e, zln_e, zli_e, zll_e, zbI_e, zbL_e, zbR_e, zbV_e, zeR_e, zeN_s, zeN_n, Nat.reduceEqDiff, and_self, and_true, true_and, and_false, false_and, ite_true, ite_false, reduceIte, tg_176 hS] at this
    exact this
  | cons x q ih =>
    intro L β h hs hp
    rw [rev_c] at h hs
    have hS := RS_sh h.1
    have i1 : zM 218 [.ref 176, .int 14] β = _ := v_isOn h hs (d := 14) (by decide)
    have i2 : zM 218 [.ref 176, .int 15] β = _ := v_isOn h hs (d := 15) (by decide)
    simp only [last_c] at i1 i2
    obtain ⟨β2, d1, d2⟩ := v_drops h hs
    obtain ⟨β', k1, k2⟩ := ih (L ++ [x]) β2 d2 (sm_drop hs) (fun y hy => hp y (by simp [hy]))
    refine ⟨β', ?_, by rw [app_c L x q]; exact k2⟩
    rw [q_X12_goesOnTest_69]
    simp -implicitDefEqProofs only [tg_sI, ln_sI, tg_sL, ln_sL, tg_sR, ln_sR, tg_sC, ln_sC, ai_sI, ai_sL, gL_sI, gR_sI, gI_sL, gR_sL, gI_sR, gL_sR, gI_sI, gL_sL, gR_sR, zlt_e, zln_e, zli_e, zll_e, zbI_e, zbL_e, zbR_e, zbV_e, zeR_e, zeN_s, zeN_n, Nat.reduceEqDiff, and_self, and_true, true_and, and_false, false_and, ite_true, ite_false, reduceIte, tg_176 hS, i1, i2, bI_0, d1, k1]
    rcases hp x (by simp) with rfl | rfl <;> rfl
theorem td_and {s e : Nat} (h : SV t n β0 β (.inl (s, e)) (W ++ p.reverse) O L b) (hs : sm (W ++ p.reverse) L) (hw : lw t n (.inl (s, e)) = 22) (hW : W.getLast? ≠ some 14) (hp : ∀ x, x ∈ p → x = 14) : ∃ β', TB l2 β = TL 1 (some (.int l2)) β' ∧ SV t n β0 β' (la t n (.inl (s, e))) (W ++ [14]) O (L ++ p) b := by
  have v1 := SV_look h
  have hS1 := RS_sh v1.1
  have hno := own_not (t := t) (n := n) (s := s) (e := e) (by omega)
  obtain ⟨β2, r1, r2, r3, r4⟩ := r_yes (w := 22) (by decide) v1.1 hw
  have r1 : zM 196 [.ref 176, .ref 200] (sI β 176 2 (nI s)) = some (some (.int 1), β2) := r1
  have v2 := SV_rd v1 rfl (by decide +kernel) r1 r2
  obtain ⟨β3, k1, k2⟩ := lp43 hW p L β2 v2 hs hp
  refine ⟨β3, ?_, k2⟩
  rw [td_past h (.inl (by omega)), tg_176 hS1, if_pos rfl, gR_176_32 hS1]
  simp -implicitDefEqProofs only [tg_sI, ln_sI, tg_sL, ln_sL, tg_sR, ln_sR, tg_sC, ln_sC, ai_sI, ai_sL, gL_sI, gR_sI, gI_sL, gR_sL, gI_sR, gL_sR, gI_sI, gL_sL, gR_sR, zlt_e, zln_e, zli_e, zll_e, zbI_e, zbL_e, zbR_e, zbV_e, zeR_e, zeN_s, zeN_n, Nat.reduceEqDiff, and_self, and_true, true_and, and_false, false_and, ite_true, ite_false, reduceIte]
  rw [r1]
  simp -implicitDefEqProofs only [tg_sI, ln_sI, tg_sL, ln_sL, tg_sR, ln_sR, tg_sC, ln_sC, ai_sI, ai_sL, gL_sI, gR_sI, gI_sL, gR_sL, gI_sR, gL_sR, gI_sI, gL_sL, gR_sR, zlt_e, zln_e, zli_e, zll_e, zbI_e, zbL_e, zbR_e, zbV_e, zeR_e, zeN_s, zeN_n, Nat.reduceEqDiff, and_self, and_true, true_and, and_false, false_and, ite_true, ite_false, reduceIte]
  rw [if_neg (by decide), k1]
  unfold TG
  simp -implicitDefEqProofs only [tg_sI, ln_sI, tg_sL, ln_sL, tg_sR, ln_sR, tg_sC, ln_sC, ai_sI, ai_sL, gL_sI, gR_sI, gI_sL, gR_sL, gI_sR, gL_sR, gI_sI, gL_sL, gR_sR, zlt_e, zln_e, zli_e, zll_e, zbI_e, zbL_e, zbR_e, zbV_e, zeR_e, zeN_s, zeN_n, Nat.reduceEqDiff, and_self, and_true, true_and, and_false, false_and, ite_true, ite_false, reduceIte]
  rw [if_neg (by decide)]
theorem td_or {s e : Nat} (h : SV t n β0 β (.inl (s, e)) (W ++ p.reverse) O L b) (hs : sm (W ++ p.reverse) L) (hw : lw t n (.inl (s, e)) = 21) (hW : W.getLast? ≠ some 14) (hW2 : W.getLast? ≠ some 15) (hp : ∀ x, x ∈ p → x = 14 ∨ x = 15) : ∃ β', TB l2 β = TL 1 (some (.int l2)) β' ∧ SV t n β0 β' (la t n (.inl (s, e))) (W ++ [15]) O (L ++ p) b := by
  have v1 := SV_look h
  have hS1 := RS_sh v1.1
  have hno := own_not (t := t) (n := n) (s := s) (e := e) (by omega)
  obtain ⟨b1, x1, x2, x3, x4, x5⟩ := r_no (w := 22) (by decide) v1.1 (by rw [hw]; decide)
  have x1 : zM 196 [.ref 176, .ref 200] (sI β 176 2 (nI s)) = some (some (.int 0), b1) := x1
  have v2 := SV_rd v1 rfl (by decide +kernel) x1 x2
  obtain ⟨β2, r1, r2, r3, r4⟩ := r_yes (w := 21) (by decide) x2 hw
  have r1 : zM 196 [.ref 176, .ref 199] b1 = some (some (.int 1), β2) := r1
  have v3 := SV_rd v2 rfl (by decide +kernel) r1 r2
  obtain ⟨β3, k1, k2⟩ := lp69 hW hW2 p L β2 v3 hs hp
  refine ⟨β3, ?_, k2⟩
  rw [td_past h (.inl (by omega)), tg_176 hS1, if_pos rfl, gR_176_32 hS1]
  simp -implicitDefEqProofs only [tg_sI, ln_sI, tg_sL, ln_sL, tg_sR, ln_sR, tg_sC, ln_sC, ai_sI, ai_sL, gL_sI, gR_sI, gI_sL, gR_sL, gI_sR, gL_sR, gI_sI, gL_sL, gR_sR, zlt_e, zln_e, zli_e, zll_e, zbI_e, zbL_e, zbR_e, zbV_e, zeR_e, zeN_s, zeN_n, Nat.reduceEqDiff, and_self, and_true, true_and, and_false, false_and, ite_true, ite_false, reduceIte]
  rw [x1]
  simp -implicitDefEqProofs only [tg_sI, ln_sI, tg_sL, ln_sL, tg_sR, ln_sR, tg_sC, ln_sC, ai_sI, ai_sL, gL_sI, gR_sI, gI_sL, gR_sL, gI_sR, gL_sR, gI_sI, gL_sL, gR_sR, zlt_e, zln_e, zli_e, zll_e, zbI_e, zbL_e, zbR_e, zbV_e, zeR_e, zeN_s, zeN_n, Nat.reduceEqDiff, and_self, and_true, true_and, and_false, false_and, ite_true, ite_false, reduceIte, q_X12_goesOnTest_64, tg_176 x5, gR_176_31 x5, r1]
  rw [if_neg (by decide), k1]
  unfold TG
  simp -implicitDefEqProofs only [tg_sI, ln_sI, tg_sL, ln_sL, tg_sR, ln_sR, tg_sC, ln_sC, ai_sI, ai_sL, gL_sI, gR_sI, gI_sL, gR_sL, gI_sR, gL_sR, gI_sI, gL_sL, gR_sR, zlt_e, zln_e, zli_e, zll_e, zbI_e, zbL_e, zbR_e, zbV_e, zeR_e, zeN_s, zeN_n, Nat.reduceEqDiff, and_self, and_true, true_and, and_false, false_and, ite_true, ite_false, reduceIte]
  rw [if_neg (by decide)]
/-- neither and nor or: what stands at the end of goesOnTest -/
theorem td_none {s e : Nat} (h : SV t n β0 β (.inl (s, e)) W O L b) (hc : ls t n (.inl (s, e)) ≠ 93 ∨ zM 227 [.ref 176] (sI β 176 2 (nI s)) = some (some (.int 0), sI β 176 2 (nI s))) (hw : lw t n (.inl (s, e)) ≠ 21 ∧ lw t n (.inl (s, e)) ≠ 22) : ∃ β', TB l2 β = TG l2 (zR 4 230 97 [some (.ref 176)] [] β') ∧ SV t n β0 β' (.inl (s, e)) W O L b ∧ gI β' 176 2 = nI s := by
  have v1 := SV_look h
  have hS1 := RS_sh v1.1
  obtain ⟨b1, x1, x2, x3, x4, x5⟩ := r_no (w := 22) (by decide) v1.1 hw.2
  have x1 : zM 196 [.ref 176, .ref 200] (sI β 176 2 (nI s)) = some (some (.int 0), b1) := x1
  have v2 := SV_rd v1 rfl (by decide +kernel) x1 x2
  obtain ⟨b2, y1, y2, y3, y4, y5⟩ := r_no (w := 21) (by decide) x2 hw.1
  have y1 : zM 196 [.ref 176, .ref 199] b1 = some (some (.int 0), b2) := y1
  have v3 := SV_rd v2 rfl (by decide +kernel) y1 y2
  refine ⟨b2, ?_, v3, y3⟩
  rw [td_past h hc, tg_176 hS1, if_pos rfl, gR_176_32 hS1]
  simp -implicitDefEqProofs only [tg_sI, ln_sI, tg_sL, ln_sL, tg_sR, ln_sR, tg_sC, ln_sC, ai_sI, ai_sL, gL_sI, gR_sI, gI_sL, gR_sL, gI_sR, gL_sR, gI_sI, gL_sL, gR_sR, zlt_e, zln_e, zli_e, zll_e, zbI_e, zbL_e, zbR_e, zbV_e, zeR_e, zeN_s, zeN_n, Nat.reduceEqDiff, and_self, and_true, true_and, and_false, false_and, ite_true, ite_false, reduceIte]
  rw [x1]
  simp -implicitDefEqProofs only [tg_sI, ln_sI, tg_sL, ln_sL, tg_sR, ln_sR, tg_sC, ln_sC, ai_sI, ai_sL, gL_sI, gR_sI, gI_sL, gR_sL, gI_sR, gL_sR, gI_sI, gL_sL, gR_sR, zlt_e, zln_e, zli_e, zll_e, zbI_e, zbL_e, zbR_e, zbV_e, zeR_e, zeN_s, zeN_n, Nat.reduceEqDiff, and_self, and_true, true_and, and_false, false_and, ite_true, ite_false, reduceIte, q_X12_goesOnTest_64, tg_176 x5, gR_176_31 x5, y1, q_X12_goesOnTest_94, tg_176 y5, live_5 y2 rfl]
/-- the end of a test in no bracket -/
theorem td_end {s e : Nat} (h : SV t n β0 β (.inl (s, e)) W O L b) (hs : sm W L) (hq : ∀ j, j < W.length → W.getD j 0 ≠ 25) (hw : lw t n (.inl (s, e)) ≠ 21 ∧ lw t n (.inl (s, e)) ≠ 22) : ∃ β', TB l2 β = TL 0 (some (.int l2)) β' ∧ SV t n β0 β' (.inl (s, e)) W O L b := by
  obtain ⟨β2, k1, k2, k3⟩ := td_none (l2 := l2) h (.inr (sq_no (SV_look h) hs hq)) hw
  have hS2 := RS_sh k2.1
  refine ⟨β2, ?_, k2⟩
  rw [k1, q_X12_goesOnTest_97, tg_176 hS2, if_pos rfl, sq_no k2 hs hq]
  simp -implicitDefEqProofs only [tg_sI, ln_sI, tg_sL, ln_sL, tg_sR, ln_sR, tg_sC, ln_sC, ai_sI, ai_sL, gL_sI, gR_sI, gI_sL, gR_sL, gI_sR, gL_sR, gI_sI, gL_sL, gR_sR, zlt_e, zln_e, zli_e, zll_e, zbI_e, zbL_e, zbR_e, zbV_e, zeR_e, zeN_s, zeN_n, Nat.reduceEqDiff, and_self, and_true, true_and, and_false, false_and, ite_true, ite_false, reduceIte]
  unfold TG
  simp -implicitDefEqProofs only [tg_sI, ln_sI, tg_sL, ln_sL, tg_sR, ln_sR, tg_sC, ln_sC, ai_sI, ai_sL, gL_sI, gR_sI, gI_sL, gR_sL, gI_sR, gL_sR, gI_sI, gL_sL, gR_sR, zlt_e, zln_e, zli_e, zll_e, zbI_e, zbL_e, zbR_e, zbV_e, zeR_e, zeN_s, zeN_n, Nat.reduceEqDiff, and_self, and_true, true_and, and_false, false_and, ite_true, ite_false, reduceIte]
/-- an open [ that isn't closed -/
theorem td_open {s e : Nat} (h : SV t n β0 β (.inl (s, e)) (W ++ [25] ++ p.reverse) O L b) (hs : sm (W ++ [25] ++ p.reverse) L) (hl : ls t n (.inl (s, e)) ≠ 93) (hw : lw t n (.inl (s, e)) ≠ 21 ∧ lw t n (.inl (s, e)) ≠ 22) (hn : n ≤ 1600) : ∃ β', TB l2 β = some (none, β') ∧ SE t n β0 β' (.inr (1, s)) := by
  have hsn : s ≤ n := h.1.2.1.1
  obtain ⟨β2, k1, k2, k3⟩ := td_none (l2 := l2) h (.inl hl) hw
  have hS2 := RS_sh k2.1
  have sq := sq_yes k2 hs (k := W.length) (by simp) (sq_at W p)
  obtain ⟨β3, f1, f2⟩ := r_fail k2.1 (f := 1) (p := s) (by decide) (by decide) (by omega)
  have f1 : zM 191 [.ref 176, .int 1, .int (nI s)] β2 = some (none, β3) := f1
  have v3 := SV_rd k2 rfl (by decide +kernel) f1 f2
  refine ⟨β3, ?_, SE_of v3⟩
  rw [k1, q_X12_goesOnTest_97, tg_176 hS2, if_pos rfl, sq]
  simp -implicitDefEqProofs only [tg_sI, ln_sI, tg_sL, ln_sL, tg_sR, ln_sR, tg_sC, ln_sC, ai_sI, ai_sL, gL_sI, gR_sI, gI_sL, gR_sL, gI_sR, gL_sR, gI_sI, gL_sL, gR_sR, zlt_e, zln_e, zli_e, zll_e, zbI_e, zbL_e, zbR_e, zbV_e, zeR_e, zeN_s, zeN_n, Nat.reduceEqDiff, and_self, and_true, true_and, and_false, false_and, ite_true, ite_false, reduceIte, tg_176 hS2, k3, f1]
  rw [if_neg (by decide)]
  unfold TG
  simp -implicitDefEqProofs only [tg_sI, ln_sI, tg_sL, ln_sL, tg_sR, ln_sR, tg_sC, ln_sC, ai_sI, ai_sL, gL_sI, gR_sI, gI_sL, gR_sL, gI_sR, gL_sR, gI_sI, gL_sL, gR_sR, zlt_e, zln_e, zli_e, zll_e, zbI_e, zbL_e, zbR_e, zbV_e, zeR_e, zeN_s, zeN_n, Nat.reduceEqDiff, and_self, and_true, true_and, and_false, false_and, ite_true, ite_false, reduceIte]
  exact TL_d (RS_sh f2) (dead_5 f2 (fun q => by cases q)) 0
theorem TL_end (hl : lL st = true) : ∀ (p L : List Nat) (β : zS), SV t n β0 β st p.reverse O L b → sm p.reverse L → ∃ β', zR 8 229 55 [some (.ref 176), some (.int 0), u2] [] β = some (none, β') ∧ SV t n β0 β' st [] O (L ++ p) b := by
  intro p
  induction p with
  | nil =>
    intro L β h hs
    rw [List.reverse_nil] at h hs
    rw [List.append_nil]
    have hS := RS_sh h.1
    refine ⟨β, ?_, h⟩
    rw [q_X12_test_55]
    simp -implicitDefEqProofs only [tg_sI, ln_sI, tg_sL, ln_sL, tg_sR, ln_sR, tg_sC, ln_sC, ai_sI, ai_sL, gL_sI, gR_sI, gI_sL, gR_sL, gI_sR, gL_sR, gI_sI, gL_sL, gR_sR, zlt_e, zln_e, zli_e, zll_e, zbI_e, zbL_e, zbR_e, zbV_e, zeR_e, zeN_s, zeN_n, Nat.reduceEqDiff, and_self, and_true, true_and, and_false, false_and, ite_true, ite_false, reduceIte, tg_176 hS, live_5 h.1 hl, h.2.2.1]
    rw [if_pos (show nI ([] : List Nat).length ≤ 0 by decide)]
  | cons x q ih =>
    intro L β h hs
    rw [List.reverse_cons] at h hs
    have hS := RS_sh h.1
    have hs1 := hs.1
    obtain ⟨β2, d1, d2⟩ := v_drops h hs
    obtain ⟨β', k1, k2⟩ := ih (L ++ [x]) β2 d2 (sm_drop hs)
    refine ⟨β', ?_, by rw [app_c L x q]; exact k2⟩
    rw [q_X12_test_55]
    simp -implicitDefEqProofs only [tg_sI, ln_sI, tg_sL, ln_sL, tg_sR, ln_sR, tg_sC, ln_sC, ai_sI, ai_sL, gL_sI, gR_sI, gI_sL, gR_sL, gI_sR, gL_sR, gI_sI, gL_sL, gR_sR, zlt_e, zln_e, zli_e, zll_e, zbI_e, zbL_e, zbR_e, zbV_e, zeR_e, zeN_s, zeN_n, Nat.reduceEqDiff, and_self, and_true, true_and, and_false, false_and, ite_true, ite_false, reduceIte, tg_176 hS, live_5 h.1 hl, h.2.2.1, d1, k1]
    rw [if_neg (nI_nle (by simp) (by omega))]
theorem TL_0 : TL 0 u2 β = zR 8 229 55 [some (.ref 176), some (.int 0), u2] [] β := by
  unfold TL
  rw [q_X12_test_2, if_pos rfl]
/-- a whole sum, both -/
theorem J_sums {s e κ : Nat} (hκ : 6 ≤ κ) (hC : CS α t n (.inl (s, e))) (hD : DR α L) (hR : RS β t n (.inl (s, e))) (hQ : SQ β W O L b) (hO : O ≤ 6) (hL : L.length + W.length + κ ≤ s) (hW : ∀ i, W.getD i 0 < 1000) (hd4 : ∀ d, 1 ≤ d → d ≤ 4 → W.getLast? ≠ some d) : ∃ α' st' toks, zM 61 [.ref 12, .int (nI O)] α = some (none, α') ∧ CZ t n α α' st' (L ++ toks) ∧ (¬ lL st' = true → ∃ β', zM 225 [.ref 176] β = some (none, β') ∧ SD t n β β' st') ∧ (lL st' = true → EN (3 + 3 * (6 - O)) toks ∧ (L ++ toks).length + W.length + κ ≤ lp st' ∧ s < lp st' ∧ ∃ β', zM 225 [.ref 176] β = some (none, β') ∧ SV t n β β' st' W O (L ++ toks) b) := by
  have h16 := hC.1.2.1
  have hsn : s ≤ n := hC.2.1.1
  have hS := RS_sh hR
  have v0 := v_base (SV_0 hR hQ) W.length
  have hS0 := RS_sh v0.1
  have e0 : zM 225 [.ref 176] β = KA (nI b) none none none (sI β 176 69 (nI W.length)) := by
    rw [← KL_1 hS0 (live_5 v0.1 rfl), q_X12_sums]
    simp -implicitDefEqProofs only [tg_sI, ln_sI, tg_sL, ln_sL, tg_sR, ln_sR, tg_sC, ln_sC, ai_sI, ai_sL, gL_sI, gR_sI, gI_sL, gR_sL, gI_sR, gL_sR, gI_sI, gL_sL, gR_sR, zlt_e, zln_e, zli_e, zll_e, zbI_e, zbL_e, zbR_e, zbV_e, zeR_e, zeN_s, zeN_n, Nat.reduceEqDiff, and_self, and_true, true_and, and_false, false_and, ite_true, ite_false, reduceIte, tg_176 hS, hQ.1, hQ.2.2.2.2.2]
    rfl
  rw [e0]
  obtain ⟨α', st', x, d1, d2, d3, d4⟩ := J_sum (t := t) (n := n) hκ n α (sI β 176 69 (nI W.length)) s e O W.length W L (nI b) none none none (by omega) hC hD v0.1 v0.2.2 hO hL hW (.inl rfl) hd4
  refine ⟨α', st', x, d1, d2, fun hd => ?_, fun hv => ?_⟩
  · obtain ⟨β', k1, k2⟩ := d3 hd
    exact ⟨β', k1, SD_t v0 k2⟩
  · obtain ⟨s', e', rfl⟩ := lx_live hv
    obtain ⟨f1, f2, f3, f4, p, L', u1, β1, f5, f6, f7, f8⟩ := d4 hv
    have hs1n : s' ≤ n := d2.1.2.1.1
    have hsm : sm (W ++ p.reverse) L' := by
      refine ⟨?_, gD_rev hW p f8⟩
      have := congrArg List.length f7
      have f2 : (L ++ x).length + W.length + κ ≤ s' := f2
      simp at this f2 ⊢
      omega
    obtain ⟨β2, k1, k2⟩ := kb_end (w0 := b) (u1 := u1) (SV_t v0 f6) hsm f4 (fun y hy => by have := f8 y hy; omega)
    rw [f7] at k2
    exact ⟨f1, f2, f3, β2, by rw [f5]; exact k1, k2⟩
end
