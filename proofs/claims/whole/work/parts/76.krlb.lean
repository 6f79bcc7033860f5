/-! the reference behind a part: brackets, operators, the end -/
section
variable {t : Nat → Nat} {n : Nat} {α α' α1 β β0 β' β1 γ : zS} {st st1 : lx} {L W p : List Nat} {c O b f : Nat} {was : Int32} {u1 u2 u3 u4 : Option Value}
theorem SV_look {s e : Nat} (h : SV t n β0 β (.inl (s, e)) W O L b) : SV t n β0 (sI β 176 2 (nI s)) (.inl (s, e)) W O L b := SV_at h (RS_look h.1)
/-- from the head of goesOn past a sign that isn't ) , or past one that closes nothing -/
theorem go_59 {s e : Nat} {m : Int32} (h : SV t n β0 β (.inl (s, e)) W O L b) (hm : zM 221 [.ref 176] (sI β 176 2 (nI s)) = some (some (.int m), sI β 176 2 (nI s))) (hc : ls t n (.inl (s, e)) ≠ 41 ∨ (m ≠ 20 ∧ m ≠ 23 ∧ m ≠ 24)) : zR 4 224 0 [some (.ref 176), u1] [] β = zR 4 224 59 [some (.ref 176), u1] [] (sI β 176 2 (nI s)) := by
  have hS := RS_sh h.1
  have h256 := h.1.1.2.2.1
  rw [q_X12_goesOn_0]
  simp -implicitDefEqProofs only [tg_sI, ln_sI, tg_sL, ln_sL, tg_sR, ln_sR, tg_sC, ln_sC, ai_sI, ai_sL, gL_sI, gR_sI, gI_sL, gR_sL, gI_sR, gL_sR, gI_sI, gL_sL, gR_sR, zlt_e, zln_e, zli_e, zll_e, zbI_e, zbL_e, zbR_e, zbV_e, zeR_e, zeN_s, zeN_n, Nat.reduceEqDiff, and_self, and_true, true_and, and_false, false_and, ite_true, ite_false, reduceIte, tg_176 hS, bad_live h.1, r_look h.1]
  by_cases q : ls t n (.inl (s, e)) = 41
  · rcases hc with z | ⟨z1, z2, z3⟩
    · exact absurd q z
    · rw [if_pos (show (if s < n then nI (t s) else -1) = (41 : Int32) from (look_is (c := 41) h256 (by decide) (by decide)).mpr q), hm]
      simp -implicitDefEqProofs only [tg_sI, ln_sI, tg_sL, ln_sL, tg_sR, ln_sR, tg_sC, ln_sC, ai_sI, ai_sL, gL_sI, gR_sI, gI_sL, gR_sL, gI_sR, gL_sR, gI_sI, gL_sL, gR_sR, zlt_e, zln_e, zli_e, zll_e, zbI_e, zbL_e, zbR_e, zbV_e, zeR_e, zeN_s, zeN_n, Nat.reduceEqDiff, and_self, and_true, true_and, and_false, false_and, ite_true, ite_false, reduceIte, tg_176 hS]
      rw [if_neg z1, hm]
      simp -implicitDefEqProofs only [tg_sI, ln_sI, tg_sL, ln_sL, tg_sR, ln_sR, tg_sC, ln_sC, ai_sI, ai_sL, gL_sI, gR_sI, gI_sL, gR_sL, gI_sR, gL_sR, gI_sI, gL_sL, gR_sR, zlt_e, zln_e, zli_e, zll_e, zbI_e, zbL_e, zbR_e, zbV_e, zeR_e, zeN_s, zeN_n, Nat.reduceEqDiff, and_self, and_true, true_and, and_false, false_and, ite_true, ite_false, reduceIte, q_X12_goesOn_15, tg_176 hS]
      rw [if_neg z2, hm]
      simp -implicitDefEqProofs only [tg_sI, ln_sI, tg_sL, ln_sL, tg_sR, ln_sR, tg_sC, ln_sC, ai_sI, ai_sL, gL_sI, gR_sI, gI_sL, gR_sL, gI_sR, gL_sR, gI_sI, gL_sL, gR_sR, zlt_e, zln_e, zli_e, zll_e, zbI_e, zbL_e, zbR_e, zbV_e, zeR_e, zeN_s, zeN_n, Nat.reduceEqDiff, and_self, and_true, true_and, and_false, false_and, ite_true, ite_false, reduceIte]
      rw [if_neg z3]
  · rw [if_neg (show ¬ (if s < n then nI (t s) else -1) = (41 : Int32) from fun z => q ((look_is (c := 41) h256 (by decide) (by decide)).mp z))]
/-- past the four operators, none of which stands here -/
theorem go_109 {s e : Nat} (h : SV t n β0 β (.inl (s, e)) W O L b) (hl : ls t n (.inl (s, e)) ≠ 42 ∧ ls t n (.inl (s, e)) ≠ 47 ∧ ls t n (.inl (s, e)) ≠ 43 ∧ ls t n (.inl (s, e)) ≠ 45) : ∃ β', zR 4 224 59 [some (.ref 176), u1] [] β = (if tg β' 176 = 13 then zbI (zM 221 [.ref 176] β') (fun x2 σ2 => if x2 = 21 then (zR 4 224 167 [some (.ref 176), u1] [] σ2) else (if tg σ2 176 = 13 then zbI (zM 221 [.ref 176] σ2) (fun x3 σ3 => if x3 = 22 then (zR 4 224 167 [some (.ref 176), u1] [] σ3) else (zR 4 224 190 [some (.ref 176), u1] [] σ3)) else none)) else none) ∧ SV t n β0 β' (.inl (s, e)) W O L b ∧ gI β' 176 2 = nI s := by
  obtain ⟨l1, l2, l3, l4⟩ := hl
  have hS := RS_sh h.1
  obtain ⟨b1, x1, x2, -⟩ := r_takesSign (c := 42) (by decide) (by decide) h.1
  rw [if_neg l1] at x1 x2
  have x1 : zM 198 [.ref 176, .int 42] β = some (some (.int 0), b1) := x1
  have h1 := SV_rd h rfl (by decide +kernel) x1 x2
  obtain ⟨b2, y1, y2, -⟩ := r_takesSign (c := 47) (by decide) (by decide) x2
  rw [if_neg l2] at y1 y2
  have y1 : zM 198 [.ref 176, .int 47] b1 = some (some (.int 0), b2) := y1
  have h2 := SV_rd h1 rfl (by decide +kernel) y1 y2
  obtain ⟨b3, z1, z2, -⟩ := r_takesSign (c := 43) (by decide) (by decide) y2
  rw [if_neg l3] at z1 z2
  have z1 : zM 198 [.ref 176, .int 43] b2 = some (some (.int 0), b3) := z1
  have h3 := SV_rd h2 rfl (by decide +kernel) z1 z2
  obtain ⟨b4, w1, w2, w3⟩ := r_takesSign (c := 45) (by decide) (by decide) z2
  have w3 := w3 s e rfl
  rw [if_neg l4] at w1 w2 w3
  have w1 : zM 198 [.ref 176, .int 45] b3 = some (some (.int 0), b4) := w1
  have h4 := SV_rd h3 rfl (by decide +kernel) w1 w2
  refine ⟨b4, ?_, h4, w3⟩
  rw [q_X12_goesOn_59]
  simp -implicitDefEqProofs only [tg_sI, ln_sI, tg_sL, ln_sL, tg_sR, ln_sR, tg_sC, ln_sC, ai_sI, ai_sL, gL_sI, gR_sI, gI_sL, gR_sL, gI_sR, gL_sR, gI_sI, gL_sL, gR_sR, zlt_e, zln_e, zli_e, zll_e, zbI_e, zbL_e, zbR_e, zbV_e, zeR_e, zeN_s, zeN_n, Nat.reduceEqDiff, and_self, and_true, true_and, and_false, false_and, ite_true, ite_false, reduceIte, tg_176 hS, x1, tg_176 (RS_sh x2), y1, tg_176 (RS_sh y2), z1, q_X12_goesOn_109, tg_176 (RS_sh z2), w1, tg_176 (RS_sh w2)]
  try rw [if_pos rfl, if_pos rfl, if_pos rfl, if_pos rfl]
/-- ) behind an open bracket -/
theorem kb_close {s e m : Nat} (h : SV t n β0 β (.inl (s, e)) (W ++ [m] ++ p.reverse) (O + 1) L b) (hs : sm (W ++ [m] ++ p.reverse) L) (hl : ls t n (.inl (s, e)) = 41) (hm : m = 20 ∨ m = 23 ∨ m = 24) (hb : b ≤ W.length) (hp : ∀ x, x ∈ p → x < 20) : ∃ β', KB was u1 β = KB was u1 β' ∧ SV t n β0 β' (la t n (.inl (s, e))) W O (L ++ p ++ (if m = 20 then [] else if m = 23 then [5] else [6])) b := by
  have hM : isM m := by unfold isM; omega
  have hS := RS_sh h.1
  have h256 := h.1.1.2.2.1
  have hs1 := hs.1
  have hlen : (W ++ [m] ++ p.reverse).length = W.length + 1 + p.length := by simp; omega
  obtain ⟨hsn, hk3, -⟩ := ls_of (c := 41) (by decide) hl
  have v1 := SV_look h
  have hmk := v_mark_in v1 hs hM hb hp
  have v2 : SV t n β0 (sI (sI β 176 2 (nI s)) 176 2 (nI (s + 1))) (la t n (.inl (s, e))) (W ++ [m] ++ p.reverse) (O + 1) L b := SV_at v1 (RS_at1 v1.1 hsn hk3)
  obtain ⟨β2, d1, d2⟩ := v_dropsToMark (W0 := W ++ [m]) (.inr ⟨W, m, rfl, hM, hb⟩) v2 hs hp
  have hS2 := RS_sh d2.1
  obtain ⟨p1, p2⟩ := v_pop d2
  have o1 := v_open p1 O
  have hS3 := RS_sh o1.1
  have e1 : zR 4 224 0 [some (.ref 176), u1] [] β = zR 4 224 19 [some (.ref 176), u1] [] (sI β 176 2 (nI s)) := by
    rw [q_X12_goesOn_0]
    simp -implicitDefEqProofs only [tg_sI, ln_sI, tg_sL, ln_sL, tg_sR, ln_sR, tg_sC, ln_sC, ai_sI, ai_sL, gL_sI, gR_sI, gI_sL, gR_sL, gI_sR, gL_sR, gI_sI, gL_sL, gR_sR, zlt_e, zln_e, zli_e, zll_e, zbI_e, zbL_e, zbR_e, zbV_e, zeR_e, zeN_s, zeN_n, Nat.reduceEqDiff, and_self, and_true, true_and, and_false, false_and, ite_true, ite_false, reduceIte, tg_176 hS, bad_live h.1, r_look h.1]
    rw [if_pos (show (if s < n then nI (t s) else -1) = (41 : Int32) from (look_is (c := 41) h256 (by decide) (by decide)).mpr hl), hmk]
    simp -implicitDefEqProofs only [tg_sI, ln_sI, tg_sL, ln_sL, tg_sR, ln_sR, tg_sC, ln_sC, ai_sI, ai_sL, gL_sI, gR_sI, gI_sL, gR_sL, gI_sR, gL_sR, gI_sI, gL_sL, gR_sR, zlt_e, zln_e, zli_e, zll_e, zbI_e, zbL_e, zbR_e, zbV_e, zeR_e, zeN_s, zeN_n, Nat.reduceEqDiff, and_self, and_true, true_and, and_false, false_and, ite_true, ite_false, reduceIte, tg_176 hS]
    rcases hm with rfl | rfl | rfl
    · rw [if_pos (show nI 20 = 20 from rfl)]
    · rw [if_neg (show ¬ nI 23 = 20 by decide), hmk]
      simp -implicitDefEqProofs only [tg_sI, ln_sI, tg_sL, ln_sL, tg_sR, ln_sR, tg_sC, ln_sC, ai_sI, ai_sL, gL_sI, gR_sI, gI_sL, gR_sL, gI_sR, gL_sR, gI_sI, gL_sL, gR_sR, zlt_e, zln_e, zli_e, zll_e, zbI_e, zbL_e, zbR_e, zbV_e, zeR_e, zeN_s, zeN_n, Nat.reduceEqDiff, and_self, and_true, true_and, and_false, false_and, ite_true, ite_false, reduceIte]
      rw [if_pos (show nI 23 = 23 from rfl)]
    · rw [if_neg (show ¬ nI 24 = 20 by decide), hmk]
      simp -implicitDefEqProofs only [tg_sI, ln_sI, tg_sL, ln_sL, tg_sR, ln_sR, tg_sC, ln_sC, ai_sI, ai_sL, gL_sI, gR_sI, gI_sL, gR_sL, gI_sR, gL_sR, gI_sI, gL_sL, gR_sR, zlt_e, zln_e, zli_e, zll_e, zbI_e, zbL_e, zbR_e, zbV_e, zeR_e, zeN_s, zeN_n, Nat.reduceEqDiff, and_self, and_true, true_and, and_false, false_and, ite_true, ite_false, reduceIte, q_X12_goesOn_15, tg_176 hS]
      rw [if_neg (show ¬ nI 24 = 23 by decide), hmk]
      simp -implicitDefEqProofs only [tg_sI, ln_sI, tg_sL, ln_sL, tg_sR, ln_sR, tg_sC, ln_sC, ai_sI, ai_sL, gL_sI, gR_sI, gI_sL, gR_sL, gI_sR, gL_sR, gI_sI, gL_sL, gR_sR, zlt_e, zln_e, zli_e, zll_e, zbI_e, zbL_e, zbR_e, zbV_e, zeR_e, zeN_s, zeN_n, Nat.reduceEqDiff, and_self, and_true, true_and, and_false, false_and, ite_true, ite_false, reduceIte]
      rw [if_pos (show nI 24 = 24 from rfl)]
  have h62 : gI β2 176 62 = nI (W ++ [m]).length := d2.2.2.1
  have h63 : gI β2 176 63 = nI (O + 1) := d2.2.2.2.2.1
  have p3 : gI β2 226 W.length = nI m := by
    rw [gI_sI, if_neg (by omega)] at p2
    exact p2
  have e2 : zR 4 224 19 [some (.ref 176), u1] [] (sI β 176 2 (nI s)) = (if nI m = 20 then (zR 4 224 0 [some (.ref 176), u1] [] (sI (sI β2 176 62 (nI W.length)) 176 63 (nI O))) else (zR 4 224 46 [some (.ref 176), u1] [] (sI (sI β2 176 62 (nI W.length)) 176 63 (nI O)))) := by
    rw [q_X12_goesOn_19]
    simp -implicitDefEqProofs only [tg_sI, ln_sI, tg_sL, ln_sL, tg_sR, ln_sR, tg_sC, ln_sC, ai_sI, ai_sL, gL_sI, gR_sI, gI_sL, gR_sL, gI_sR, gL_sR, gI_sI, gL_sL, gR_sR, zlt_e, zln_e, zli_e, zll_e, zbI_e, zbL_e, zbR_e, zbV_e, zeR_e, zeN_s, zeN_n, Nat.reduceEqDiff, and_self, and_true, true_and, and_false, false_and, ite_true, ite_false, reduceIte, tg_176 hS]
    rw [nI_1, d1]
    simp -implicitDefEqProofs only [tg_sI, ln_sI, tg_sL, ln_sL, tg_sR, ln_sR, tg_sC, ln_sC, ai_sI, ai_sL, gL_sI, gR_sI, gI_sL, gR_sL, gI_sR, gL_sR, gI_sI, gL_sL, gR_sR, zlt_e, zln_e, zli_e, zll_e, zbI_e, zbL_e, zbR_e, zbV_e, zeR_e, zeN_s, zeN_n, Nat.reduceEqDiff, and_self, and_true, true_and, and_false, false_and, ite_true, ite_false, reduceIte, tg_176 hS2, h62, h63, pop_n, gR_176_61 hS2, nI_pred]
    rw [if_pos (show ai β2 32 48 226 (nI W.length) = true from ai_nI (.inl (tg_226 hS2)) (ln_226 hS2) (by omega) (by omega)), ixn (by omega), p3]
  have hai : ai β2 32 48 226 (nI W.length) = true := ai_nI (.inl (tg_226 hS2)) (ln_226 hS2) (by omega) (by omega)
  rcases hm with rfl | rfl | rfl
  · refine ⟨_, ?_, by simpa using o1⟩
    unfold KB
    rw [e1, e2, if_pos (show nI 20 = 20 from rfl)]
  · obtain ⟨β3, c1, c2⟩ := v_code o1 (by simp; omega) 5 (by decide)
    have c1 : zM 216 [.ref 176, .int 5] _ = some (none, β3) := c1
    refine ⟨β3, ?_, by simpa using c2⟩
    unfold KB
    rw [e1, e2, if_neg (by decide), q_X12_goesOn_46]
    simp -implicitDefEqProofs only [tg_sI, ln_sI, tg_sL, ln_sL, tg_sR, ln_sR, tg_sC, ln_sC, ai_sI, ai_sL, gL_sI, gR_sI, gI_sL, gR_sL, gI_sR, gL_sR, gI_sI, gL_sL, gR_sR, zlt_e, zln_e, zli_e, zll_e, zbI_e, zbL_e, zbR_e, zbV_e, zeR_e, zeN_s, zeN_n, Nat.reduceEqDiff, and_self, and_true, true_and, and_false, false_and, ite_true, ite_false, reduceIte, tg_176 hS2, gR_176_61 hS2]
    rw [if_pos hai, ixn (by omega), p3, if_pos (show nI 23 = 23 from rfl), c1]
    rfl
  · obtain ⟨β3, c1, c2⟩ := v_code o1 (by simp; omega) 6 (by decide)
    have c1 : zM 216 [.ref 176, .int 6] _ = some (none, β3) := c1
    refine ⟨β3, ?_, by simpa using c2⟩
    unfold KB
    rw [e1, e2, if_neg (by decide), q_X12_goesOn_46]
    simp -implicitDefEqProofs only [tg_sI, ln_sI, tg_sL, ln_sL, tg_sR, ln_sR, tg_sC, ln_sC, ai_sI, ai_sL, gL_sI, gR_sI, gI_sL, gR_sL, gI_sR, gL_sR, gI_sI, gL_sL, gR_sR, zlt_e, zln_e, zli_e, zll_e, zbI_e, zbL_e, zbR_e, zbV_e, zeR_e, zeN_s, zeN_n, Nat.reduceEqDiff, and_self, and_true, true_and, and_false, false_and, ite_true, ite_false, reduceIte, tg_176 hS2, gR_176_61 hS2]
    rw [if_pos hai, ixn (by omega), p3, if_neg (show ¬ nI 24 = 23 by decide), c1]
    rfl
/-- an open bracket that isn't closed -/
theorem kb_open {s e m : Nat} (h : SV t n β0 β (.inl (s, e)) (W ++ [m] ++ p.reverse) O L b) (hs : sm (W ++ [m] ++ p.reverse) L) (hl : ls t n (.inl (s, e)) ≠ 42 ∧ ls t n (.inl (s, e)) ≠ 47 ∧ ls t n (.inl (s, e)) ≠ 43 ∧ ls t n (.inl (s, e)) ≠ 45) (hl2 : ls t n (.inl (s, e)) ≠ 41) (hm : m = 20 ∨ m = 23 ∨ m = 24) (hb : b ≤ W.length) (hp : ∀ x, x ∈ p → x < 20) (hn : n ≤ 1600) : ∃ β', KB was u1 β = some (none, β') ∧ SD t n β0 β' (.inr (1, s)) := by
  have hM : isM m := by unfold isM; omega
  have hsn : s ≤ n := h.1.2.1.1
  have v1 := SV_look h
  obtain ⟨β1, g1, g2, g3⟩ := go_109 (u1 := u1) v1 hl
  have hS1 := RS_sh g2.1
  have hmk := v_mark_in g2 hs hM hb hp
  obtain ⟨β2, f1, f2⟩ := r_fail g2.1 (f := 1) (p := s) (by decide) (by decide) (by omega)
  have f1 : zM 191 [.ref 176, .int 1, .int (nI s)] β1 = some (none, β2) := f1
  have v2 := SV_rd g2 rfl (by decide +kernel) f1 f2
  refine ⟨sI β2 176 69 was, ?_, SD_was (SD_of v2 hs)⟩
  unfold KB
  rw [go_59 h (v_mark_in v1 hs hM hb hp) (.inl hl2), g1, tg_176 hS1, if_pos rfl, hmk]
  have n1 : ¬ nI m = 21 := fun z => by have := (nI_eq (b := 21) (by omega) (by omega)).mp z; omega
  have n2 : ¬ nI m = 22 := fun z => by have := (nI_eq (b := 22) (by omega) (by omega)).mp z; omega
  simp -implicitDefEqProofs only [tg_sI, ln_sI, tg_sL, ln_sL, tg_sR, ln_sR, tg_sC, ln_sC, ai_sI, ai_sL, gL_sI, gR_sI, gI_sL, gR_sL, gI_sR, gL_sR, gI_sI, gL_sL, gR_sR, zlt_e, zln_e, zli_e, zll_e, zbI_e, zbL_e, zbR_e, zbV_e, zeR_e, zeN_s, zeN_n, Nat.reduceEqDiff, and_self, and_true, true_and, and_false, false_and, ite_true, ite_false, reduceIte, tg_176 hS1]
  rw [if_neg n1, hmk]
  simp -implicitDefEqProofs only [tg_sI, ln_sI, tg_sL, ln_sL, tg_sR, ln_sR, tg_sC, ln_sC, ai_sI, ai_sL, gL_sI, gR_sI, gI_sL, gR_sL, gI_sR, gL_sR, gI_sI, gL_sL, gR_sR, zlt_e, zln_e, zli_e, zll_e, zbI_e, zbL_e, zbR_e, zbV_e, zeR_e, zeN_s, zeN_n, Nat.reduceEqDiff, and_self, and_true, true_and, and_false, false_and, ite_true, ite_false, reduceIte, q_X12_goesOn_190, tg_176 hS1]
  rw [if_neg n2, hmk]
  simp -implicitDefEqProofs only [tg_sI, ln_sI, tg_sL, ln_sL, tg_sR, ln_sR, tg_sC, ln_sC, ai_sI, ai_sL, gL_sI, gR_sI, gI_sL, gR_sL, gI_sR, gL_sR, gI_sI, gL_sL, gR_sR, zlt_e, zln_e, zli_e, zll_e, zbI_e, zbL_e, zbR_e, zbV_e, zeR_e, zeN_s, zeN_n, Nat.reduceEqDiff, and_self, and_true, true_and, and_false, false_and, ite_true, ite_false, reduceIte, tg_176 hS1]
  rw [if_neg (nI_nm1 (by omega)), if_pos (bad_live g2.1), g3, f1]
  simp -implicitDefEqProofs only [tg_sI, ln_sI, tg_sL, ln_sL, tg_sR, ln_sR, tg_sC, ln_sC, ai_sI, ai_sL, gL_sI, gR_sI, gI_sL, gR_sL, gI_sR, gL_sR, gI_sI, gL_sL, gR_sR, zlt_e, zln_e, zli_e, zll_e, zbI_e, zbL_e, zbR_e, zbV_e, zeR_e, zeN_s, zeN_n, Nat.reduceEqDiff, and_self, and_true, true_and, and_false, false_and, ite_true, ite_false, reduceIte]
  try rw [if_pos rfl]
  exact KL_d (RS_sh f2) (dead_5 f2 (fun q => by cases q)) 0
/-- , behind the first of two -/
theorem kb_comma {s e m : Nat} (h : SV t n β0 β (.inl (s, e)) (W ++ [m] ++ p.reverse) O L b) (hs : sm (W ++ [m] ++ p.reverse) L) (hl : ls t n (.inl (s, e)) ≠ 42 ∧ ls t n (.inl (s, e)) ≠ 47 ∧ ls t n (.inl (s, e)) ≠ 43 ∧ ls t n (.inl (s, e)) ≠ 45) (hm : m = 21 ∨ m = 22) (hb : b ≤ W.length) (hp : ∀ x, x ∈ p → x < 20) : (ls t n (.inl (s, e)) = 44 → ∃ β', KB was u1 β = KA was none none none β' ∧ SV t n β0 β' (la t n (.inl (s, e))) (W ++ [m + 2]) O (L ++ p) b) ∧ (ls t n (.inl (s, e)) ≠ 44 → ∃ β', KB was u1 β = some (none, β') ∧ SD t n β0 β' (.inr (1, s))) := by
  have hM : isM m := by unfold isM; omega
  have hs1 := hs.1
  have v1 := SV_look h
  obtain ⟨β1, g1, g2, g3⟩ := go_109 (u1 := u1) v1 hl
  have hS1 := RS_sh g2.1
  have hmk := v_mark_in g2 hs hM hb hp
  have e1 : KB was u1 β = zbI (zR 4 224 167 [some (.ref 176), u1] [] β1) (fun x2 σ2 => if x2 = 0 then KL was 0 σ2 else KL was 1 σ2) := by
    unfold KB
    rw [go_59 h (v_mark_in v1 hs hM hb hp) (.inr (by rcases hm with rfl | rfl <;> decide)), g1, tg_176 hS1, if_pos rfl, hmk]
    simp -implicitDefEqProofs only [tg_sI, ln_sI, tg_sL, ln_sL, tg_sR, ln_sR, tg_sC, ln_sC, ai_sI, ai_sL, gL_sI, gR_sI, gI_sL, gR_sL, gI_sR, gL_sR, gI_sI, gL_sL, gR_sR, zlt_e, zln_e, zli_e, zll_e, zbI_e, zbL_e, zbR_e, zbV_e, zeR_e, zeN_s, zeN_n, Nat.reduceEqDiff, and_self, and_true, true_and, and_false, false_and, ite_true, ite_false, reduceIte, tg_176 hS1]
    rcases hm with rfl | rfl
    · rw [if_pos (show nI 21 = 21 from rfl)]
    · rw [if_neg (show ¬ nI 22 = 21 by decide), hmk]
      simp -implicitDefEqProofs only [tg_sI, ln_sI, tg_sL, ln_sL, tg_sR, ln_sR, tg_sC, ln_sC, ai_sI, ai_sL, gL_sI, gR_sI, gI_sL, gR_sL, gI_sR, gL_sR, gI_sI, gL_sL, gR_sR, zlt_e, zln_e, zli_e, zll_e, zbI_e, zbL_e, zbR_e, zbV_e, zeR_e, zeN_s, zeN_n, Nat.reduceEqDiff, and_self, and_true, true_and, and_false, false_and, ite_true, ite_false, reduceIte]
      rw [if_pos (show nI 22 = 22 from rfl)]
  obtain ⟨β2, f1, f2⟩ := r_asksSign (c := 44) (by decide) (by decide) g2.1
  have f1 : zM 199 [.ref 176, .int 44] β1 = some (none, β2) := f1
  have v2 := SV_rd g2 rfl (by decide +kernel) f1 f2
  have hS2 := RS_sh f2
  rw [e1, q_X12_goesOn_167]
  simp -implicitDefEqProofs only [tg_sI, ln_sI, tg_sL, ln_sL, tg_sR, ln_sR, tg_sC, ln_sC, ai_sI, ai_sL, gL_sI, gR_sI, gI_sL, gR_sL, gI_sR, gL_sR, gI_sI, gL_sL, gR_sR, zlt_e, zln_e, zli_e, zll_e, zbI_e, zbL_e, zbR_e, zbV_e, zeR_e, zeN_s, zeN_n, Nat.reduceEqDiff, and_self, and_true, true_and, and_false, false_and, ite_true, ite_false, reduceIte, tg_176 hS1, f1, tg_176 hS2, bad_of f2]
  constructor
  · intro q
    have hla : lG t n 44 (.inl (s, e)) = la t n (.inl (s, e)) := by unfold lG; rw [if_pos q]
    rw [hla] at v2 ⊢
    obtain ⟨β3, d1, d2⟩ := v_dropsToMark (W0 := W ++ [m]) (.inr ⟨W, m, rfl, hM, hb⟩) v2 hs hp
    have hS3 := RS_sh d2.1
    have hlen : (W ++ [m]).length = W.length + 1 := by rw [List.length_append]; rfl
    have hW1 : W.length + 6 ≤ 1600 := by
      have : (W ++ [m] ++ p.reverse).length = W.length + 1 + p.length := by simp; omega
      omega
    have h62 : gI β3 176 62 = nI (W ++ [m]).length := d2.2.2.1
    obtain ⟨p1, p2⟩ := v_pop d2
    have p3 : gI β3 226 W.length = nI m := by
      rw [gI_sI, if_neg (by omega)] at p2
      exact p2
    rw [if_pos (show lL (la t n (.inl (s, e))) = true from rfl), d1]
    simp -implicitDefEqProofs only [tg_sI, ln_sI, tg_sL, ln_sL, tg_sR, ln_sR, tg_sC, ln_sC, ai_sI, ai_sL, gL_sI, gR_sI, gI_sL, gR_sL, gI_sR, gL_sR, gI_sI, gL_sL, gR_sR, zlt_e, zln_e, zli_e, zll_e, zbI_e, zbL_e, zbR_e, zbV_e, zeR_e, zeN_s, zeN_n, Nat.reduceEqDiff, and_self, and_true, true_and, and_false, false_and, ite_true, ite_false, reduceIte, tg_176 hS3, gR_176_61 hS3, h62, pop_n]
    rw [if_pos (ai_nI (.inl (tg_226 hS3)) (ln_226 hS3) (by omega) (by omega)), if_pos (ai_nI (.inl (tg_226 hS3)) (ln_226 hS3) (by omega) (by omega)), ixn (by omega), p3, show nI m + 2 = nI (m + 2) from nI_add m 2]
    have v3 : SV t n β0 (sI β3 226 W.length (nI (m + 2))) (la t n (.inl (s, e))) (W ++ [m + 2]) O (L ++ p) b := by
      obtain ⟨k1, k2, k3, k4, k5, k6, k7, k8⟩ := d2
      refine ⟨RS_sI k1 (by omega), k2.trans (Un_sI (.inr (.inr (.inr rfl)))), ?_, fun i hi => ?_, ?_, ?_, fun i hi => ?_, ?_⟩
      · rw [gI_sI, if_neg (by omega), k3]; simp
      · rw [gI_sI]
        have hi : i < W.length + 1 := by simpa using hi
        by_cases z : i = W.length
        · rw [if_pos ⟨rfl, z⟩, z, getD_end]
        · rw [if_neg (by omega), k4 i (by omega), getD_app _ _ _ (by omega), getD_app _ _ _ (by omega)]
      · rw [gI_sI, if_neg (by omega)]; exact k5
      · rw [gI_sI, if_neg (by omega)]; exact k6
      · rw [gI_sI, if_neg (by omega)]; exact k7 i hi
      · rw [gI_sI, if_neg (by omega)]; exact k8
    refine ⟨_, ?_, v3⟩
    simp -implicitDefEqProofs only [tg_sI, ln_sI, tg_sL, ln_sL, tg_sR, ln_sR, tg_sC, ln_sC, ai_sI, ai_sL, gL_sI, gR_sI, gI_sL, gR_sL, gI_sR, gL_sR, gI_sI, gL_sL, gR_sR, zlt_e, zln_e, zli_e, zll_e, zbI_e, zbL_e, zbR_e, zbV_e, zeR_e, zeN_s, zeN_n, Nat.reduceEqDiff, and_self, and_true, true_and, and_false, false_and, ite_true, ite_false, reduceIte]
    rw [if_neg (by decide)]
    exact KL_1 (RS_sh v3.1) (live_5 v3.1 rfl)
  · intro q
    have hla : lG t n 44 (.inl (s, e)) = .inr (1, s) := by unfold lG; rw [if_neg q]; rfl
    rw [hla] at v2 f2 ⊢
    rw [if_neg (show ¬ lL (.inr (1, s)) = true from fun q => by cases q)]
    refine ⟨sI β2 176 69 was, ?_, SD_was (SD_of v2 hs)⟩
    simp -implicitDefEqProofs only [tg_sI, ln_sI, tg_sL, ln_sL, tg_sR, ln_sR, tg_sC, ln_sC, ai_sI, ai_sL, gL_sI, gR_sI, gI_sL, gR_sL, gI_sR, gL_sR, gI_sI, gL_sL, gR_sR, zlt_e, zln_e, zli_e, zll_e, zbI_e, zbL_e, zbR_e, zbV_e, zeR_e, zeN_s, zeN_n, Nat.reduceEqDiff, and_self, and_true, true_and, and_false, false_and, ite_true, ite_false, reduceIte]
    exact KL_d hS2 (dead_5 f2 (fun q => by cases q)) 0
end
