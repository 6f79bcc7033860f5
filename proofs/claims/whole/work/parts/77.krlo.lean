/-! the reference behind a part: operators, the end of a sum -/
section
variable {t : Nat → Nat} {n : Nat} {α α' α1 β β0 β' β1 γ : zS} {st st1 : lx} {L W p : List Nat} {c O b f : Nat} {was : Int32} {u1 u2 u3 u4 : Option Value}
theorem last_c (W : List Nat) (x d : Nat) : ((W ++ [x]).getLast? = some d) = (x = d) := by simp
theorem go_push {l : Nat} (h : SV t n β0 β st W O L b) (hs : sm W L) : (if tg β 176 = 13 then zeR none (gR β 176 61) (fun q3 => if tg β 176 = 13 then if ai β 32 32 q3 (gI β 176 62) = true then zlt (sI β q3 (ix (gI β 176 62)) (nI l)) (fun σ4 => if tg σ4 176 = 13 then if tg σ4 176 = 13 then zlt (sI σ4 176 62 ((gI σ4 176 62) + 1)) (fun σ5 => some (some (.int 1), σ5)) else none else none) else none else none) else none) = some (some (.int 1), sI (sI β 226 W.length (nI l)) 176 62 (nI (W.length + 1))) := by
  have hS := RS_sh h.1
  have hs1 := hs.1
  simp -implicitDefEqProofs only [tg_sI, ln_sI, tg_sL, ln_sL, tg_sR, ln_sR, tg_sC, ln_sC, ai_sI, ai_sL, gL_sI, gR_sI, gI_sL, gR_sL, gI_sR, gL_sR, gI_sI, gL_sL, gR_sR, zlt_e, zln_e, zli_e, zll_e, zbI_e, zbL_e, zbR_e, zbV_e, zeR_e, zeN_s, zeN_n, Nat.reduceEqDiff, and_self, and_true, true_and, and_false, false_and, ite_true, ite_false, reduceIte, tg_176 hS, gR_176_61 hS, h.2.2.1]
  rw [if_pos (ai_nI (.inl (tg_226 hS)) (ln_226 hS) (by omega) (by omega)), ixn (by omega), nI_1]
theorem lp80 {l : Nat} (h3 : W.getLast? ≠ some 3) (h4 : W.getLast? ≠ some 4) : ∀ (p L : List Nat) (β : zS), SV t n β0 β st (W ++ p.reverse) O L b → sm (W ++ p.reverse) L → (∀ x, x ∈ p → x = 3 ∨ x = 4) → ∃ β', zR 4 224 80 [some (.ref 176), some (.int (nI l))] [] β = some (some (.int 1), β') ∧ SV t n β0 β' st (W ++ [l]) O (L ++ p) b := by
  intro p
  induction p with
  | nil =>
    intro L β h hs hp
    rw [List.reverse_nil, List.append_nil] at h hs
    rw [List.append_nil]
    have hS := RS_sh h.1
    have hs1 := hs.1
    have i3 : zM 218 [.ref 176, .int 3] β = _ := v_isOn h hs (d := 3) (by decide)
    have i4 : zM 218 [.ref 176, .int 4] β = _ := v_isOn h hs (d := 4) (by decide)
    rw [decide_eq_false h3] at i3
    rw [decide_eq_false h4] at i4
    refine ⟨_, ?_, v_push h (by omega) l⟩
    rw [q_X12_goesOn_80]
    simp -implicitDefEqProofs only [tg_sI, ln_sI, tg_sL, ln_sL, tg_sR, ln_sR, tg_sC, ln_sC, ai_sI, ai_sL, gL_sI, gR_sI, gI_sL, gR_sL, gI_sR, gL_sR, gI_sI, gL_sL, gR_sR, zlt_e, zln_e, zli_e, zll_e, zbI_e, zbL_e, zbR_e, zbV_e, zeR_e, zeN_s, zeN_n, Nat.reduceEqDiff, and_self, and_true, true_and, and_false, false_and, ite_true, ite_false, reduceIte, tg_176 hS, i3, i4, bI_0]
    have := go_push (l := l) h hs
    simp -implicitDefEqProofs only [tg_sI, ln_sI, tg_sL, ln_sL, tg_sR, ln_sR, tg_sC, ln_sC, ai_sI, ai_sL, gL_sI, gR_sI, gI_sL, gR_sL, gI_sR, gL_sR, gI_sI, gL_sL, gR_sR, zlt_e, zln_e, zli_e, zll_e, zbI_e, zbL_e, zbR_e, zbV_e, zeR_e, zeN_s, zeN_n, Nat.reduceEqDiff, and_self, and_true, true_and, and_false, false_and, ite_true, ite_false, reduceIte, tg_176 hS] at this
    exact this
  | cons x q ih =>
    intro L β h hs hp
    rw [rev_c] at h hs
    have hS := RS_sh h.1
    have i3 : zM 218 [.ref 176, .int 3] β = _ := v_isOn h hs (d := 3) (by decide)
    have i4 : zM 218 [.ref 176, .int 4] β = _ := v_isOn h hs (d := 4) (by decide)
    simp only [last_c] at i3 i4
    obtain ⟨β2, d1, d2⟩ := v_drops h hs
    obtain ⟨β', k1, k2⟩ := ih (L ++ [x]) β2 d2 (sm_drop hs) (fun y hy => hp y (by simp [hy]))
    refine ⟨β', ?_, by rw [app_c L x q]; exact k2⟩
    rw [q_X12_goesOn_80]
    simp -implicitDefEqProofs only [tg_sI, ln_sI, tg_sL, ln_sL, tg_sR, ln_sR, tg_sC, ln_sC, ai_sI, ai_sL, gL_sI, gR_sI, gI_sL, gR_sL, gI_sR, gL_sR, gI_sI, gL_sL, gR_sR, zlt_e, zln_e, zli_e, zll_e, zbI_e, zbL_e, zbR_e, zbV_e, zeR_e, zeN_s, zeN_n, Nat.reduceEqDiff, and_self, and_true, true_and, and_false, false_and, ite_true, ite_false, reduceIte, tg_176 hS, i3, i4, bI_0, d1, k1]
    rcases hp x (by simp) with rfl | rfl <;> rfl
theorem lp126 {l : Nat} (hW : ∀ d, 1 ≤ d → d ≤ 4 → W.getLast? ≠ some d) : ∀ (p L : List Nat) (β : zS), SV t n β0 β st (W ++ p.reverse) O L b → sm (W ++ p.reverse) L → (∀ x, x ∈ p → 1 ≤ x ∧ x ≤ 4) → ∃ β', zR 4 224 126 [some (.ref 176), some (.int (nI l))] [] β = some (some (.int 1), β') ∧ SV t n β0 β' st (W ++ [l]) O (L ++ p) b := by
  intro p
  induction p with
  | nil =>
    intro L β h hs hp
    rw [List.reverse_nil, List.append_nil] at h hs
    rw [List.append_nil]
    have hS := RS_sh h.1
    have hs1 := hs.1
    have i3 : zM 218 [.ref 176, .int 3] β = _ := v_isOn h hs (d := 3) (by decide)
    have i4 : zM 218 [.ref 176, .int 4] β = _ := v_isOn h hs (d := 4) (by decide)
    have i1 : zM 218 [.ref 176, .int 1] β = _ := v_isOn h hs (d := 1) (by decide)
    have i2 : zM 218 [.ref 176, .int 2] β = _ := v_isOn h hs (d := 2) (by decide)
    rw [decide_eq_false (hW _ (by omega) (by omega))] at i1 i2 i3 i4
    refine ⟨_, ?_, v_push h (by omega) l⟩
    rw [q_X12_goesOn_126]
    simp -implicitDefEqProofs only [tg_sI, ln_sI, tg_sL, ln_sL, tg_sR, ln_sR, tg_sC, ln_sC, ai_sI, ai_sL, gL_sI, gR_sI, gI_sL, gR_sL, gI_sR, gL_sR, gI_sI, gL_sL, gR_sR, zlt_e, zln_e, zli_e, zll_e, zbI_e, zbL_e, zbR_e, zbV_e, zeR_e, zeN_s, zeN_n, Nat.reduceEqDiff, and_self, and_true, true_and, and_false, false_and, ite_true, ite_false, reduceIte, tg_176 hS, i1, i2, i3, i4, bI_0, q_X12_goesOn_138]
    have := go_push (l := l) h hs
    simp -implicitDefEqProofs only [tg_sI, ln_sI, tg_sL, ln_sL, tg_sR, ln_sR, tg_sC, ln_sC, ai_sI, ai_sL, gL_sI, gR_sI, gI_sL, gR_sL, gI_sR, gL_sR, gI_sI, gL_sL, gR_sR, zlt_e, zln_e, zli_e, zll_e, zbI_e, zbL_e, zbR_e, zbV_e, zeR_e, zeN_s, zeN_n, Nat.reduceEqDiff, and_self, and_true, true_and, and_false, false_and, ite_true, ite_false, reduceIte, tg_176 hS] at this
    exact this
  | cons x q ih =>
    intro L β h hs hp
    rw [rev_c] at h hs
    have hS := RS_sh h.1
    have i3 : zM 218 [.ref 176, .int 3] β = _ := v_isOn h hs (d := 3) (by decide)
    have i4 : zM 218 [.ref 176, .int 4] β = _ := v_isOn h hs (d := 4) (by decide)
    have i1 : zM 218 [.ref 176, .int 1] β = _ := v_isOn h hs (d := 1) (by decide)
    have i2 : zM 218 [.ref 176, .int 2] β = _ := v_isOn h hs (d := 2) (by decide)
    simp only [last_c] at i1 i2 i3 i4
    obtain ⟨β2, d1, d2⟩ := v_drops h hs
    obtain ⟨β', k1, k2⟩ := ih (L ++ [x]) β2 d2 (sm_drop hs) (fun y hy => hp y (by simp [hy]))
    refine ⟨β', ?_, by rw [app_c L x q]; exact k2⟩
    rw [q_X12_goesOn_126]
    simp -implicitDefEqProofs only [tg_sI, ln_sI, tg_sL, ln_sL, tg_sR, ln_sR, tg_sC, ln_sC, ai_sI, ai_sL, gL_sI, gR_sI, gI_sL, gR_sL, gI_sR, gL_sR, gI_sI, gL_sL, gR_sR, zlt_e, zln_e, zli_e, zll_e, zbI_e, zbL_e, zbR_e, zbV_e, zeR_e, zeN_s, zeN_n, Nat.reduceEqDiff, and_self, and_true, true_and, and_false, false_and, ite_true, ite_false, reduceIte, tg_176 hS, i1, i2, i3, i4, bI_0, d1, q_X12_goesOn_138, q_X12_goesOn_144, k1]
    have := hp x (by simp)
    rcases (show x = 1 ∨ x = 2 ∨ x = 3 ∨ x = 4 by omega) with rfl | rfl | rfl | rfl <;> rfl
/-- * or / -/
theorem kb_mul {s e : Nat} {m : Int32} (h : SV t n β0 β (.inl (s, e)) (W ++ p.reverse) O L b) (hs : sm (W ++ p.reverse) L) (hm : zM 221 [.ref 176] (sI β 176 2 (nI s)) = some (some (.int m), sI β 176 2 (nI s))) (hl : ls t n (.inl (s, e)) = 42 ∨ ls t n (.inl (s, e)) = 47) (h3 : W.getLast? ≠ some 3) (h4 : W.getLast? ≠ some 4) (hp : ∀ x, x ∈ p → x = 3 ∨ x = 4) : ∃ β', KB was u1 β = KA was none none none β' ∧ SV t n β0 β' (la t n (.inl (s, e))) (W ++ [if ls t n (.inl (s, e)) = 42 then 3 else 4]) O (L ++ p) b := by
  have hS := RS_sh h.1
  have h16 := h.1.1.2.1
  have v1 := SV_look h
  have hS1 := RS_sh v1.1
  have e0 := go_59 (u1 := u1) h hm (.inl (by omega))
  have key : ∃ β2, zR 4 224 59 [some (.ref 176), u1] [] (sI β 176 2 (nI s)) = zR 4 224 80 [some (.ref 176), some (.int (nI (if ls t n (.inl (s, e)) = 42 then 3 else 4)))] [] β2 ∧ SV t n β0 β2 (la t n (.inl (s, e))) (W ++ p.reverse) O L b := by
    obtain ⟨hsn, hk3, hts⟩ := ls_of (t := t) (n := n) (s := s) (e := e) (c := ls t n (.inl (s, e))) (by omega) rfl
    obtain ⟨b1, x1, x2, x3⟩ := r_takesSign (c := 42) (by decide) (by decide) v1.1
    have x3 := x3 s e rfl
    have x1 : zM 198 [.ref 176, .int 42] (sI β 176 2 (nI s)) = _ := x1
    have g1 := SV_rd v1 rfl (by decide +kernel) x1 x2
    have hSb := RS_sh x2
    have ht : gI b1 177 s = nI (t s) := x2.1.2.2.2.1 s (by omega)
    rcases hl with q | q
    · rw [if_pos q] at x1 x2 x3 g1 ⊢
      refine ⟨b1, ?_, g1⟩
      rw [q_X12_goesOn_59]
      simp -implicitDefEqProofs only [tg_sI, ln_sI, tg_sL, ln_sL, tg_sR, ln_sR, tg_sC, ln_sC, ai_sI, ai_sL, gL_sI, gR_sI, gI_sL, gR_sL, gI_sR, gL_sR, gI_sI, gL_sL, gR_sR, zlt_e, zln_e, zli_e, zll_e, zbI_e, zbL_e, zbR_e, zbV_e, zeR_e, zeN_s, zeN_n, Nat.reduceEqDiff, and_self, and_true, true_and, and_false, false_and, ite_true, ite_false, reduceIte, tg_176 hS]
      rw [x1]
      simp -implicitDefEqProofs only [tg_sI, ln_sI, tg_sL, ln_sL, tg_sR, ln_sR, tg_sC, ln_sC, ai_sI, ai_sL, gL_sI, gR_sI, gI_sL, gR_sL, gI_sR, gL_sR, gI_sI, gL_sL, gR_sR, zlt_e, zln_e, zli_e, zll_e, zbI_e, zbL_e, zbR_e, zbV_e, zeR_e, zeN_s, zeN_n, Nat.reduceEqDiff, and_self, and_true, true_and, and_false, false_and, ite_true, ite_false, reduceIte, tg_176 hSb, gR_176_0 hSb, x3, nI_pred]
      rw [if_neg (by decide), if_pos (ai_nI (.inl (tg_177 hSb)) (ln_177 hSb) (by omega) (by omega)), ixn (by omega), ht, hts, q, if_pos (show nI 42 = 42 from rfl)]
      rfl
    · rw [if_neg (by omega)] at x1 x2 x3 g1
      obtain ⟨b2, y1, y2, y3⟩ := r_takesSign (c := 47) (by decide) (by decide) x2
      have y3 := y3 s e rfl
      have y1 : zM 198 [.ref 176, .int 47] b1 = _ := y1
      have g2 := SV_rd g1 rfl (by decide +kernel) y1 y2
      have hSc := RS_sh y2
      have ht2 : gI b2 177 s = nI (t s) := y2.1.2.2.2.1 s (by omega)
      rw [if_pos q] at y1 y2 y3 g2
      refine ⟨b2, ?_, g2⟩
      rw [q_X12_goesOn_59]
      simp -implicitDefEqProofs only [tg_sI, ln_sI, tg_sL, ln_sL, tg_sR, ln_sR, tg_sC, ln_sC, ai_sI, ai_sL, gL_sI, gR_sI, gI_sL, gR_sL, gI_sR, gL_sR, gI_sI, gL_sL, gR_sR, zlt_e, zln_e, zli_e, zll_e, zbI_e, zbL_e, zbR_e, zbV_e, zeR_e, zeN_s, zeN_n, Nat.reduceEqDiff, and_self, and_true, true_and, and_false, false_and, ite_true, ite_false, reduceIte, tg_176 hS]
      rw [x1]
      simp -implicitDefEqProofs only [tg_sI, ln_sI, tg_sL, ln_sL, tg_sR, ln_sR, tg_sC, ln_sC, ai_sI, ai_sL, gL_sI, gR_sI, gI_sL, gR_sL, gI_sR, gL_sR, gI_sI, gL_sL, gR_sR, zlt_e, zln_e, zli_e, zll_e, zbI_e, zbL_e, zbR_e, zbV_e, zeR_e, zeN_s, zeN_n, Nat.reduceEqDiff, and_self, and_true, true_and, and_false, false_and, ite_true, ite_false, reduceIte, tg_176 hSb]
      first | rw [if_pos rfl, y1] | rw [y1]
      simp -implicitDefEqProofs only [tg_sI, ln_sI, tg_sL, ln_sL, tg_sR, ln_sR, tg_sC, ln_sC, ai_sI, ai_sL, gL_sI, gR_sI, gI_sL, gR_sL, gI_sR, gL_sR, gI_sI, gL_sL, gR_sR, zlt_e, zln_e, zli_e, zll_e, zbI_e, zbL_e, zbR_e, zbV_e, zeR_e, zeN_s, zeN_n, Nat.reduceEqDiff, and_self, and_true, true_and, and_false, false_and, ite_true, ite_false, reduceIte, tg_176 hSc, gR_176_0 hSc, y3, nI_pred]
      rw [if_neg (by decide), if_pos (ai_nI (.inl (tg_177 hSc)) (ln_177 hSc) (by omega) (by omega)), ixn (by omega), ht2, hts, q, if_neg (by decide)]
      rfl
  obtain ⟨β2, k1, k2⟩ := key
  obtain ⟨β3, k3, k4⟩ := lp80 (l := if ls t n (.inl (s, e)) = 42 then 3 else 4) h3 h4 p L β2 k2 hs hp
  refine ⟨β3, ?_, k4⟩
  unfold KB
  rw [e0, k1, k3]
  simp -implicitDefEqProofs only [tg_sI, ln_sI, tg_sL, ln_sL, tg_sR, ln_sR, tg_sC, ln_sC, ai_sI, ai_sL, gL_sI, gR_sI, gI_sL, gR_sL, gI_sR, gL_sR, gI_sI, gL_sL, gR_sR, zlt_e, zln_e, zli_e, zll_e, zbI_e, zbL_e, zbR_e, zbV_e, zeR_e, zeN_s, zeN_n, Nat.reduceEqDiff, and_self, and_true, true_and, and_false, false_and, ite_true, ite_false, reduceIte]
  rw [if_neg (by decide)]
  exact KL_1 (RS_sh k4.1) (live_5 k4.1 rfl)
/-- + or - -/
theorem kb_add {s e : Nat} {m : Int32} (h : SV t n β0 β (.inl (s, e)) (W ++ p.reverse) O L b) (hs : sm (W ++ p.reverse) L) (hm : zM 221 [.ref 176] (sI β 176 2 (nI s)) = some (some (.int m), sI β 176 2 (nI s))) (hl : ls t n (.inl (s, e)) = 43 ∨ ls t n (.inl (s, e)) = 45) (hW : ∀ d, 1 ≤ d → d ≤ 4 → W.getLast? ≠ some d) (hp : ∀ x, x ∈ p → 1 ≤ x ∧ x ≤ 4) : ∃ β', KB was u1 β = KA was none none none β' ∧ SV t n β0 β' (la t n (.inl (s, e))) (W ++ [if ls t n (.inl (s, e)) = 43 then 1 else 2]) O (L ++ p) b := by
  have hS := RS_sh h.1
  have h16 := h.1.1.2.1
  have v1 := SV_look h
  have hS1 := RS_sh v1.1
  have e0 := go_59 (u1 := u1) h hm (.inl (by omega))
  have key : ∃ β2, zR 4 224 59 [some (.ref 176), u1] [] (sI β 176 2 (nI s)) = zR 4 224 126 [some (.ref 176), some (.int (nI (if ls t n (.inl (s, e)) = 43 then 1 else 2)))] [] β2 ∧ SV t n β0 β2 (la t n (.inl (s, e))) (W ++ p.reverse) O L b := by
    obtain ⟨hsn, hk3, hts⟩ := ls_of (t := t) (n := n) (s := s) (e := e) (c := ls t n (.inl (s, e))) (by omega) rfl
    obtain ⟨b1, x1, x2, -⟩ := r_takesSign (c := 42) (by decide) (by decide) v1.1
    have x1 : zM 198 [.ref 176, .int 42] (sI β 176 2 (nI s)) = _ := x1
    rw [if_neg (by omega)] at x1 x2
    have g1 := SV_rd v1 rfl (by decide +kernel) x1 x2
    obtain ⟨b2, y1, y2, -⟩ := r_takesSign (c := 47) (by decide) (by decide) x2
    have y1 : zM 198 [.ref 176, .int 47] b1 = _ := y1
    rw [if_neg (by omega)] at y1 y2
    have g2 := SV_rd g1 rfl (by decide +kernel) y1 y2
    obtain ⟨b3, z1, z2, z3⟩ := r_takesSign (c := 43) (by decide) (by decide) y2
    have z3 := z3 s e rfl
    have z1 : zM 198 [.ref 176, .int 43] b2 = _ := z1
    have g3 := SV_rd g2 rfl (by decide +kernel) z1 z2
    have hSb := RS_sh x2
    have hSc := RS_sh y2
    have hSd := RS_sh z2
    have ht : gI b3 177 s = nI (t s) := z2.1.2.2.2.1 s (by omega)
    rw [q_X12_goesOn_59]
    simp -implicitDefEqProofs only [tg_sI, ln_sI, tg_sL, ln_sL, tg_sR, ln_sR, tg_sC, ln_sC, ai_sI, ai_sL, gL_sI, gR_sI, gI_sL, gR_sL, gI_sR, gL_sR, gI_sI, gL_sL, gR_sR, zlt_e, zln_e, zli_e, zll_e, zbI_e, zbL_e, zbR_e, zbV_e, zeR_e, zeN_s, zeN_n, Nat.reduceEqDiff, and_self, and_true, true_and, and_false, false_and, ite_true, ite_false, reduceIte, tg_176 hS]
    rw [x1]
    simp -implicitDefEqProofs only [tg_sI, ln_sI, tg_sL, ln_sL, tg_sR, ln_sR, tg_sC, ln_sC, ai_sI, ai_sL, gL_sI, gR_sI, gI_sL, gR_sL, gI_sR, gL_sR, gI_sI, gL_sL, gR_sR, zlt_e, zln_e, zli_e, zll_e, zbI_e, zbL_e, zbR_e, zbV_e, zeR_e, zeN_s, zeN_n, Nat.reduceEqDiff, and_self, and_true, true_and, and_false, false_and, ite_true, ite_false, reduceIte, tg_176 hSb, y1, tg_176 hSc, z1]
    try rw [if_pos rfl, if_pos rfl]
    rcases hl with q | q
    · rw [if_pos q] at z1 z2 z3 g3 ⊢
      refine ⟨b3, ?_, g3⟩
      rw [if_pos q, if_neg (by decide), q_X12_goesOn_113]
      simp -implicitDefEqProofs only [tg_sI, ln_sI, tg_sL, ln_sL, tg_sR, ln_sR, tg_sC, ln_sC, ai_sI, ai_sL, gL_sI, gR_sI, gI_sL, gR_sL, gI_sR, gL_sR, gI_sI, gL_sL, gR_sR, zlt_e, zln_e, zli_e, zll_e, zbI_e, zbL_e, zbR_e, zbV_e, zeR_e, zeN_s, zeN_n, Nat.reduceEqDiff, and_self, and_true, true_and, and_false, false_and, ite_true, ite_false, reduceIte, tg_176 hSd, gR_176_0 hSd, z3, nI_pred]
      rw [if_pos (ai_nI (.inl (tg_177 hSd)) (ln_177 hSd) (by omega) (by omega)), ixn (by omega), ht, hts, q, if_pos (show nI 43 = 43 from rfl)]
      rfl
    · rw [if_neg (by omega)] at z1 z2 z3 g3
      obtain ⟨b4, w1, w2, w3⟩ := r_takesSign (c := 45) (by decide) (by decide) z2
      have w3 := w3 s e rfl
      have w1 : zM 198 [.ref 176, .int 45] b3 = _ := w1
      have g4 := SV_rd g3 rfl (by decide +kernel) w1 w2
      have hSe := RS_sh w2
      have ht2 : gI b4 177 s = nI (t s) := w2.1.2.2.2.1 s (by omega)
      rw [if_pos q] at w1 w2 w3 g4
      refine ⟨b4, ?_, g4⟩
      rw [if_neg (show ¬ ls t n (.inl (s, e)) = 43 by omega), if_pos rfl, q_X12_goesOn_109]
      simp -implicitDefEqProofs only [tg_sI, ln_sI, tg_sL, ln_sL, tg_sR, ln_sR, tg_sC, ln_sC, ai_sI, ai_sL, gL_sI, gR_sI, gI_sL, gR_sL, gI_sR, gL_sR, gI_sI, gL_sL, gR_sR, zlt_e, zln_e, zli_e, zll_e, zbI_e, zbL_e, zbR_e, zbV_e, zeR_e, zeN_s, zeN_n, Nat.reduceEqDiff, and_self, and_true, true_and, and_false, false_and, ite_true, ite_false, reduceIte, tg_176 hSd, w1, q_X12_goesOn_113, tg_176 hSe, gR_176_0 hSe, w3, nI_pred]
      rw [if_neg (by decide), if_pos (ai_nI (.inl (tg_177 hSe)) (ln_177 hSe) (by omega) (by omega)), ixn (by omega), ht2, hts, q, if_neg (show ¬ nI 45 = 43 by decide)]
      rfl
  obtain ⟨β2, k1, k2⟩ := key
  obtain ⟨β3, k3, k4⟩ := lp126 (l := if ls t n (.inl (s, e)) = 43 then 1 else 2) hW p L β2 k2 hs hp
  refine ⟨β3, ?_, k4⟩
  unfold KB
  rw [e0, k1, k3]
  simp -implicitDefEqProofs only [tg_sI, ln_sI, tg_sL, ln_sL, tg_sR, ln_sR, tg_sC, ln_sC, ai_sI, ai_sL, gL_sI, gR_sI, gI_sL, gR_sL, gI_sR, gL_sR, gI_sI, gL_sL, gR_sR, zlt_e, zln_e, zli_e, zll_e, zbI_e, zbL_e, zbR_e, zbV_e, zeR_e, zeN_s, zeN_n, Nat.reduceEqDiff, and_self, and_true, true_and, and_false, false_and, ite_true, ite_false, reduceIte]
  rw [if_neg (by decide)]
  exact KL_1 (RS_sh k4.1) (live_5 k4.1 rfl)
/-- the end of a sum that stands in no bracket -/
theorem lp27 (hl : lL st = true) (w0 : Nat) : ∀ (p L : List Nat) (β : zS), SV t n β0 β st (W ++ p.reverse) O L W.length → sm (W ++ p.reverse) L → ∃ β', zR 6 225 27 [some (.ref 176), some (.int (nI w0)), some (.int 0)] [] β = some (none, β') ∧ SV t n β0 β' st W O (L ++ p) w0 := by
  intro p
  induction p with
  | nil =>
    intro L β h hs
    rw [List.reverse_nil, List.append_nil] at h hs
    rw [List.append_nil]
    have hS := RS_sh h.1
    have hs1 := hs.1
    refine ⟨_, ?_, v_base h w0⟩
    rw [q_X12_sums_27]
    simp -implicitDefEqProofs only [tg_sI, ln_sI, tg_sL, ln_sL, tg_sR, ln_sR, tg_sC, ln_sC, ai_sI, ai_sL, gL_sI, gR_sI, gI_sL, gR_sL, gI_sR, gL_sR, gI_sI, gL_sL, gR_sR, zlt_e, zln_e, zli_e, zll_e, zbI_e, zbL_e, zbR_e, zbV_e, zeR_e, zeN_s, zeN_n, Nat.reduceEqDiff, and_self, and_true, true_and, and_false, false_and, ite_true, ite_false, reduceIte, tg_176 hS, live_5 h.1 hl, h.2.2.1, h.2.2.2.2.2.2.2]
    rw [if_pos (nI_le (Nat.le_refl _) (by omega))]
  | cons x q ih =>
    intro L β h hs
    rw [rev_c] at h hs
    have hS := RS_sh h.1
    have hs1 := hs.1
    obtain ⟨β2, d1, d2⟩ := v_drops h hs
    obtain ⟨β', k1, k2⟩ := ih (L ++ [x]) β2 d2 (sm_drop hs)
    refine ⟨β', ?_, by rw [app_c L x q]; exact k2⟩
    rw [q_X12_sums_27]
    simp -implicitDefEqProofs only [tg_sI, ln_sI, tg_sL, ln_sL, tg_sR, ln_sR, tg_sC, ln_sC, ai_sI, ai_sL, gL_sI, gR_sI, gI_sL, gR_sL, gI_sR, gL_sR, gI_sI, gL_sL, gR_sR, zlt_e, zln_e, zli_e, zll_e, zbI_e, zbL_e, zbR_e, zbV_e, zeR_e, zeN_s, zeN_n, Nat.reduceEqDiff, and_self, and_true, true_and, and_false, false_and, ite_true, ite_false, reduceIte, tg_176 hS, live_5 h.1 hl, h.2.2.1, h.2.2.2.2.2.2.2, d1, k1]
    rw [if_neg (nI_ge (by simp <;> omega) (by omega))]
theorem kb_end {s e w0 : Nat} (h : SV t n β0 β (.inl (s, e)) (W ++ p.reverse) O L W.length) (hs : sm (W ++ p.reverse) L) (hl : ls t n (.inl (s, e)) ≠ 42 ∧ ls t n (.inl (s, e)) ≠ 47 ∧ ls t n (.inl (s, e)) ≠ 43 ∧ ls t n (.inl (s, e)) ≠ 45) (hp : ∀ x, x ∈ p → x < 20) : ∃ β', KB (nI w0) u1 β = some (none, β') ∧ SV t n β0 β' (.inl (s, e)) W O (L ++ p) w0 := by
  have v1 := SV_look h
  obtain ⟨β1, g1, g2, g3⟩ := go_109 (u1 := u1) v1 hl
  have hS1 := RS_sh g2.1
  have hmk := v_mark_no g2 hs hp
  obtain ⟨β2, k1, k2⟩ := lp27 (st := .inl (s, e)) rfl w0 p L β1 g2 hs
  refine ⟨β2, ?_, k2⟩
  unfold KB
  rw [go_59 h (v_mark_no v1 hs hp) (.inr (by decide)), g1, tg_176 hS1, if_pos rfl, hmk]
  simp -implicitDefEqProofs only [tg_sI, ln_sI, tg_sL, ln_sL, tg_sR, ln_sR, tg_sC, ln_sC, ai_sI, ai_sL, gL_sI, gR_sI, gI_sL, gR_sL, gI_sR, gL_sR, gI_sI, gL_sL, gR_sR, zlt_e, zln_e, zli_e, zll_e, zbI_e, zbL_e, zbR_e, zbV_e, zeR_e, zeN_s, zeN_n, Nat.reduceEqDiff, and_self, and_true, true_and, and_false, false_and, ite_true, ite_false, reduceIte, tg_176 hS1]
  rw [if_neg (by decide), hmk]
  simp -implicitDefEqProofs only [tg_sI, ln_sI, tg_sL, ln_sL, tg_sR, ln_sR, tg_sC, ln_sC, ai_sI, ai_sL, gL_sI, gR_sI, gI_sL, gR_sL, gI_sR, gL_sR, gI_sI, gL_sL, gR_sR, zlt_e, zln_e, zli_e, zll_e, zbI_e, zbL_e, zbR_e, zbV_e, zeR_e, zeN_s, zeN_n, Nat.reduceEqDiff, and_self, and_true, true_and, and_false, false_and, ite_true, ite_false, reduceIte, q_X12_goesOn_190, tg_176 hS1]
  rw [if_neg (by decide), hmk]
  simp -implicitDefEqProofs only [tg_sI, ln_sI, tg_sL, ln_sL, tg_sR, ln_sR, tg_sC, ln_sC, ai_sI, ai_sL, gL_sI, gR_sI, gI_sL, gR_sL, gI_sR, gL_sR, gI_sI, gL_sL, gR_sR, zlt_e, zln_e, zli_e, zll_e, zbI_e, zbL_e, zbR_e, zbV_e, zeR_e, zeN_s, zeN_n, Nat.reduceEqDiff, and_self, and_true, true_and, and_false, false_and, ite_true, ite_false, reduceIte]
  try rw [if_pos rfl, if_pos rfl]
  unfold KL
  rw [q_X12_sums_9, if_pos rfl]
  exact k1
end
