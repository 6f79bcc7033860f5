/-! a statement of a rule, both at once -/
section
variable {t : Nat → Nat} {n : Nat} {α α' α1 β β0 β' β1 γ : zS} {st st1 : lx} {L W V W0 q p toks : List Nat} {c O b f : Nat} {SS : List (List Nat × Nat)}
theorem Q2_un {X : Nat → Nat → Prop} (h : Q2 β L) (hS : Sh β) (u : Un X β β') (hX : ¬ X 176 60) (hX2 : ∀ j, 4800 ≤ j → ¬ X 225 j) : Q2 β' L := by
  refine ⟨?_, fun i hi => ?_⟩
  · rw [u.i (by omega) (by omega) (by omega) hX]; exact h.1
  · rw [u.iA (by omega) (by omega) (by rw [tg_225 hS]; omega) (hX2 _ (by omega))]; exact h.2 i hi
/-- the head of a statement: send, the sizes, when -/
theorem J_head {s e K : Nat} (hC : CS α t n (.inl (s, e))) (hR : RS β t n (.inl (s, e))) (hK : K < 40) : ∃ α1 α2 α3 β1 β2 β3 v w st3, zM 108 [.ref 8, .int 14] α = some (none, α1) ∧ Sh α1 ∧ zM 54 [.ref 12] α1 = some (some (.int v), α2) ∧ Sh α2 ∧ zM 108 [.ref 8, .int 20] α2 = some (none, α3) ∧ zM 197 [.ref 176, .ref 192] β = some (none, β1) ∧ Sh β1 ∧ zM 232 [.ref 176] β1 = some (some (.int w), β2) ∧ Sh β2 ∧ zM 197 [.ref 176, .ref 198] (sI β2 229 (120 + K) w) = some (none, β3) ∧ CS α3 t n st3 ∧ RS β3 t n st3 ∧ Un (fun r _ => r = 8) α α3 ∧ Un XL β β1 ∧ Un (fun r j => XL r j ∨ (r = 229 ∧ j = 120 + K)) β β3 ∧ (lL st3 = true → s + 6 ≤ lp st3 ∧ ∃ B', B' < 32 ∧ B' ≠ 0 ∧ pc B' ≤ 3 ∧ v = nI B' ∧ w = nI B' ∧ gI β3 229 (120 + K) = nI B') := by
  obtain ⟨α1, β1, a1, a2, a3, a4, a5, a6⟩ := j_word (w := 14) (by decide) hC hR
  have a1 : zM 108 [.ref 8, .int 14] α = some (none, α1) := a1
  have a2 : zM 197 [.ref 176, .ref 192] β = some (none, β1) := a2
  obtain ⟨α2, β2, st2, v, w, b1, b2, b3, b4, b5, b6, b7⟩ := J_sizes a3 a4
  have hS2 := RS_sh b4
  obtain ⟨α3, β3, c1, c2, c3, c4, c5, c6⟩ := j_word (w := 20) (by decide) b3 (RS_sI (r := 229) (j := 120 + K) (v := w) b4 (by omega))
  have c1 : zM 108 [.ref 8, .int 20] α2 = some (none, α3) := c1
  have c2 : zM 197 [.ref 176, .ref 198] _ = some (none, β3) := c2
  refine ⟨α1, α2, α3, β1, β2, β3, v, w, _, a1, CS_sh a3, b1, CS_sh b3, c1, a2, RS_sh a4, b2, hS2, c2, c3, c4, a5.trans (b5.trans c5), a6, ?_, fun q => ?_⟩
  · exact ((a6.trans b6).mono (fun r j _ _ q => .inl q)).trans ((Un_sI (.inr ⟨rfl, rfl⟩)).trans (c6.mono (fun r j _ _ q => .inl q)))
  · have hl2 : lL st2 = true := lW_live q
    obtain ⟨hl1, hp2, B', h1, h2, h3, h4, h5⟩ := b7 hl2
    obtain ⟨s2, e2, rfl⟩ := lx_live hl2
    have q1 : lw t n (.inl (s, e)) = 14 := by
      by_cases z : lw t n (.inl (s, e)) = 14
      · exact z
      · unfold lW at hl1; rw [if_neg z] at hl1; cases hl1
    have q2 : lw t n (.inl (s2, e2)) = 20 := by
      by_cases z : lw t n (.inl (s2, e2)) = 20
      · exact z
      · unfold lW at q; rw [if_neg z] at q; cases q
    have e1 : lW t n 14 (.inl (s, e)) = la t n (.inl (s, e)) := by unfold lW; rw [if_pos q1]
    have e2' : lW t n 20 (.inl (s2, e2)) = la t n (.inl (s2, e2)) := by unfold lW; rw [if_pos q2]
    have p1 := la_pos2 (t := t) (n := n) (s := s) (e := e) (by omega)
    have p2 := la_pos2 (t := t) (n := n) (s := s2) (e := e2) (by omega)
    rw [e1] at hp2
    rw [e2']
    have hp2 : lp (la t n (.inl (s, e))) + 2 ≤ s2 := hp2
    refine ⟨by omega, B', h1, h2, h3, h4, h5, ?_⟩
    rw [c6.iA (by omega) (by omega) (by rw [tg_sI, tg_229 hS2]; omega) (by unfold XL; omega), gI_sI, if_pos ⟨rfl, rfl⟩]
    exact h5
theorem J_send {s e : Nat} {k : Int32} {u3 : Option Value} (hC : CS α t n (.inl (s, e))) (hs : s < n) (hR : RS β t n (.inl (s, e))) (hD : DR α (lc SS)) (hQ : Q2 β (lc SS)) (hSR : SR β 120 0 SS) (hW : wfS SS) (hn : SS.length < 40) (h58 : gI β 176 58 = nI SS.length) (h283 : gI β 228 3 = nI SS.length) (hL : (lc SS).length ≤ s) : ∃ α' β' st' u3', zR 85 52 5 [some (.ref 12), some (.int k), some (.int (nI SS.length)), u3] [] α = zR 85 52 5 [some (.ref 12), some (.int k), some (.int (nI (SS.length + 1))), u3'] [] α' ∧ zM 233 [.ref 176] β = some (none, β') ∧ CS α' t n st' ∧ RS β' t n st' ∧ Un XD α α' ∧ Un XV β β' ∧ (∃ k, k ≤ 1600 ∧ gI α' 12 3 = nI k) ∧ (lL st' = true → ∃ x, wfS (SS ++ [x]) ∧ DR α' (lc (SS ++ [x])) ∧ Q2 β' (lc (SS ++ [x])) ∧ SR β' 120 0 (SS ++ [x]) ∧ gI β' 176 58 = nI (SS ++ [x]).length ∧ gI β' 228 3 = nI (SS ++ [x]).length ∧ (lc (SS ++ [x])).length + 1 ≤ lp st') := by
  have hS := CS_sh hC
  have hSb := RS_sh hR
  have h16 := hC.1.2.1
  have hE := c_atEnd hC
  have he : lE n (.inl (s, e)) = false := by simp [lE]; omega
  rw [he] at hE
  obtain ⟨α1, α2, α3, β1, β2, β3, v, w, st3, a1, a2, a3, a4, a5, b1, b2, b3, b4, b5, c1, c2, c3, c4', c4, c5⟩ := J_head (K := SS.length) hC hR hn
  have hS3 := CS_sh c1
  have hSb3 := RS_sh c2
  -- the class's head
  have eC : zR 85 52 5 [some (.ref 12), some (.int k), some (.int (nI SS.length)), u3] [] α = zbV (zM 56 [.ref 12, .int 0] α3) (fun σ1 => if tg σ1 12 = 7 then zeR none (gR σ1 12 0) (fun q2 => if tg σ1 q2 = 11 then zbV (zM 109 [.ref q2, .int 59] σ1) (fun σ3 => if tg σ3 12 = 7 then zbV (zM 53 [.ref 12, .int ((-40) - v)] σ3) (fun σ4 => zR 85 52 5 [some (.ref 12), some (.int k), some (.int (nI (SS.length + 1))), some (.int v)] [] σ4) else none) else none) else none) := by
    rw [q_X6_read_5, if_neg (show ¬ (40 : Int32) ≤ nI SS.length from nI_ge (b := 40) hn (by omega))]
    simp -implicitDefEqProofs only [tg_sI, ln_sI, tg_sL, ln_sL, tg_sR, ln_sR, tg_sC, ln_sC, ai_sI, ai_sL, gL_sI, gR_sI, gI_sL, gR_sL, gI_sR, gL_sR, gI_sI, gL_sL, gR_sR, zlt_e, zln_e, zli_e, zll_e, zbI_e, zbL_e, zbR_e, zbV_e, zeR_e, zeN_s, zeN_n, Nat.reduceEqDiff, and_self, and_true, true_and, and_false, false_and, ite_true, ite_false, reduceIte, tg_12 hS, gR_12_0 hS, tg_8 hS, hE, a1, tg_12 a2, a3, tg_12 a4, gR_12_0 a4, tg_8 a4, a5, q_X6_read_23, tg_12 hS3, nI_1]
    rw [if_pos (show ((if false = true then 1 else 0 : Int32) = 0) by decide)]
  -- the reference's head
  have h283' : gI β1 228 3 = nI SS.length := by
    rw [c4'.i (by omega) (by omega) (by omega) (by unfold XL; omega)]; exact h283
  have hn40 : ¬ nI SS.length = 40 := fun z => by have := (nI_eq (b := 40) (by omega) (by omega)).mp z; omega
  have h3 : ix 3 = 3 := rfl
  have eR : zM 233 [.ref 176] β = zR 9 233 31 [some (.ref 176), some (.int (nI (120 + SS.length)))] [] β3 := by
    rw [q_X12_sendTold]
    simp -implicitDefEqProofs only [tg_sI, ln_sI, tg_sL, ln_sL, tg_sR, ln_sR, tg_sC, ln_sC, ai_sI, ai_sL, gL_sI, gR_sI, gI_sL, gR_sL, gI_sR, gL_sR, gI_sI, gL_sL, gR_sR, zlt_e, zln_e, zli_e, zll_e, zbI_e, zbL_e, zbR_e, zbV_e, zeR_e, zeN_s, zeN_n, Nat.reduceEqDiff, and_self, and_true, true_and, and_false, false_and, ite_true, ite_false, reduceIte, tg_176 hSb, h58]
    rw [if_neg hn40]
    simp -implicitDefEqProofs only [tg_sI, ln_sI, tg_sL, ln_sL, tg_sR, ln_sR, tg_sC, ln_sC, ai_sI, ai_sL, gL_sI, gR_sI, gI_sL, gR_sL, gI_sR, gL_sR, gI_sI, gL_sL, gR_sR, zlt_e, zln_e, zli_e, zll_e, zbI_e, zbL_e, zbR_e, zbV_e, zeR_e, zeN_s, zeN_n, Nat.reduceEqDiff, and_self, and_true, true_and, and_false, false_and, ite_true, ite_false, reduceIte, gR_176_24 hSb, b1, tg_176 b2, gR_176_65 b2]
    rw [if_pos (show ai β1 32 48 228 3 = true from ai_nI (k := 3) (.inl (tg_228 b2)) (ln_228 b2) (by omega) (by omega)), h3, h283', show (120 : Int32) + nI SS.length = nI (120 + SS.length) from nI_add 120 _]
    simp -implicitDefEqProofs only [tg_sI, ln_sI, tg_sL, ln_sL, tg_sR, ln_sR, tg_sC, ln_sC, ai_sI, ai_sL, gL_sI, gR_sI, gI_sL, gR_sL, gI_sR, gL_sR, gI_sI, gL_sL, gR_sR, zlt_e, zln_e, zli_e, zll_e, zbI_e, zbL_e, zbR_e, zbV_e, zeR_e, zeN_s, zeN_n, Nat.reduceEqDiff, and_self, and_true, true_and, and_false, false_and, ite_true, ite_false, reduceIte, gR_176_66 b2, b3]
    rw [if_pos (ai_nI (.inl (tg_229 b4)) (ln_229 b4) (by omega) (by omega)), ixn (by omega)]
    simp -implicitDefEqProofs only [tg_sI, ln_sI, tg_sL, ln_sL, tg_sR, ln_sR, tg_sC, ln_sC, ai_sI, ai_sL, gL_sI, gR_sI, gI_sL, gR_sL, gI_sR, gL_sR, gI_sI, gL_sL, gR_sR, zlt_e, zln_e, zli_e, zll_e, zbI_e, zbL_e, zbR_e, zbV_e, zeR_e, zeN_s, zeN_n, Nat.reduceEqDiff, and_self, and_true, true_and, and_false, false_and, ite_true, ite_false, reduceIte, tg_176 b4, gR_176_30 b4, b5]
  -- what coded is, and the rows up to the test
  have hQ3 : Q2 β3 (lc SS) := Q2_un hQ hSb c4 (by unfold XL; omega) (fun j _ => by unfold XL; omega)
  have hSR3 : SR β3 120 0 SS := SR_un hSR hSb c4 (fun r j h1 h2 h3 q => by unfold XL at q; omega)
  have hle := flt_le (lc SS)
  have g60 := hQ3.1
  have eR2 : zR 9 233 31 [some (.ref 176), some (.int (nI (120 + SS.length)))] [] β3 = (if (gI β3 176 5) = 0 then zbV (zM 229 [.ref 176] (sI (sI (sI (sI β3 230 (120 + SS.length) (nI (flt (lc SS)).length)) 176 62 0) 176 63 0) 176 69 0)) (fun σ6 => zR 9 233 51 [some (.ref 176), some (.int (nI (120 + SS.length)))] [] σ6) else zR 9 233 51 [some (.ref 176), some (.int (nI (120 + SS.length)))] [] (sI (sI (sI (sI β3 230 (120 + SS.length) (nI (flt (lc SS)).length)) 176 62 0) 176 63 0) 176 69 0)) := by
    rw [q_X12_sendTold_31]
    simp -implicitDefEqProofs only [tg_sI, ln_sI, tg_sL, ln_sL, tg_sR, ln_sR, tg_sC, ln_sC, ai_sI, ai_sL, gL_sI, gR_sI, gI_sL, gR_sL, gI_sR, gL_sR, gI_sI, gL_sL, gR_sR, zlt_e, zln_e, zli_e, zll_e, zbI_e, zbL_e, zbR_e, zbV_e, zeR_e, zeN_s, zeN_n, Nat.reduceEqDiff, and_self, and_true, true_and, and_false, false_and, ite_true, ite_false, reduceIte, tg_176 hSb3, gR_176_67 hSb3, g60]
    rw [if_pos (ai_nI (.inl (tg_230 hSb3)) (ln_230 hSb3) (by omega) (by omega)), ixn (by omega)]
  generalize hβ4 : sI (sI (sI (sI β3 230 (120 + SS.length) (nI (flt (lc SS)).length)) 176 62 0) 176 63 0) 176 69 0 = β4 at eR2
  have u4 : Un (fun r j => (r = 230 ∧ j = 120 + SS.length) ∨ (r = 176 ∧ (j = 62 ∨ j = 63 ∨ j = 69))) β3 β4 := by
    rw [← hβ4]
    exact (Un_sI (by omega)).trans ((Un_sI (by omega)).trans ((Un_sI (by omega)).trans (Un_sI (by omega))))
  have hS4 : Sh β4 := by
    rw [← hβ4]
    exact (((hSb3.sI (by omega)).sI (by omega)).sI (by omega)).sI (by omega)
  have r4 : RS β4 t n st3 := RS_un c2 hS4 u4 (fun r j h q => by omega)
  have q4 : Q2 β4 (lc SS) := Q2_un hQ3 hSb3 u4 (by omega) (fun j _ => by omega)
  have s4 : SQ β4 [] 0 (lc SS) 0 := by
    refine ⟨?_, fun i hi => by simp at hi, ?_, q4.1, q4.2, ?_⟩
    · rw [← hβ4, gI_sI, if_neg (by omega), gI_sI, if_neg (by omega), gI_sI, if_pos ⟨rfl, rfl⟩]; rfl
    · rw [← hβ4, gI_sI, if_neg (by omega), gI_sI, if_pos ⟨rfl, rfl⟩]; rfl
    · rw [← hβ4, gI_sI, if_pos ⟨rfl, rfl⟩]; rfl
  have z3 : CZ t n α α3 st3 (lc SS) := by
    refine ⟨c1, c3.mono (fun r j _ _ q => .inl q), ⟨_, hD.2.1, ?_⟩, fun _ => DR_un hD hS c3 (fun j => by omega) (by omega)⟩
    rw [c3.i (by omega) (by omega) (by omega) (by omega)]; exact hD.1
  have g4 : gI β4 230 (120 + SS.length) = nI (flt (lc SS)).length := by
    rw [← hβ4, gI_sI, if_neg (by omega), gI_sI, if_neg (by omega), gI_sI, if_neg (by omega), gI_sI, if_pos ⟨rfl, rfl⟩]
  -- what the reference does behind the test
  have tail : ∀ (β5 : zS) (st5 : lx) (g5 : Int32), RS β5 t n st5 → Un XU β4 β5 → gI β5 176 60 = g5 → ∃ β6, zR 9 233 51 [some (.ref 176), some (.int (nI (120 + SS.length)))] [] β5 = some (none, β6) ∧ RS β6 t n (lG t n 59 st5) ∧ Un (fun r j => XL r j ∨ (r = 231 ∧ j = 120 + SS.length) ∨ (r = 228 ∧ j = 3) ∨ (r = 176 ∧ j = 58)) β5 β6 ∧ gI β6 231 (120 + SS.length) = g5 ∧ gI β6 228 3 = nI (SS.length + 1) ∧ gI β6 176 58 = nI (SS.length + 1) := by
    intro β5 st5 g5 hR5 u5 hk5
    have hS5 := RS_sh hR5
    have h283a : gI β5 228 3 = nI SS.length := by
      rw [u5.i (by omega) (by omega) (by omega) (by unfold XU XL; omega), u4.i (by omega) (by omega) (by omega) (by omega), c4.i (by omega) (by omega) (by omega) (by unfold XL; omega)]; exact h283
    have h58a : gI β5 176 58 = nI SS.length := by
      rw [u5.i (by omega) (by omega) (by omega) (by unfold XU XL; omega), u4.i (by omega) (by omega) (by omega) (by omega), c4.i (by omega) (by omega) (by omega) (by unfold XL; omega)]; exact h58
    have hR6 : RS (sI (sI β5 231 (120 + SS.length) g5) 228 3 (nI (SS.length + 1))) t n st5 := RS_sI (RS_sI hR5 (by omega)) (by omega)
    have hS6 := RS_sh hR6
    obtain ⟨β7, d1, d2⟩ := r_asksSign (c := 59) (by decide) (by decide) hR6
    have d1 : zM 199 [.ref 176, .int 59] (sI (sI β5 231 (120 + SS.length) g5) 228 3 (nI (SS.length + 1))) = some (none, β7) := d1
    have w7 := Un_ref hS6 d1 rfl (by decide +kernel)
    have hS7 := RS_sh d2
    have h58b : gI β7 176 58 = nI SS.length := by
      rw [w7.i (by omega) (by omega) (by omega) (by unfold XL; omega), gI_sI, if_neg (by omega), gI_sI, if_neg (by omega)]; exact h58a
    refine ⟨sI β7 176 58 (nI (SS.length + 1)), ?_, RS_f d2 (by omega), ?_, ?_, ?_, ?_⟩
    · rw [q_X12_sendTold_51]
      simp -implicitDefEqProofs only [tg_sI, ln_sI, tg_sL, ln_sL, tg_sR, ln_sR, tg_sC, ln_sC, ai_sI, ai_sL, gL_sI, gR_sI, gI_sL, gR_sL, gI_sR, gL_sR, gI_sI, gL_sL, gR_sR, zlt_e, zln_e, zli_e, zll_e, zbI_e, zbL_e, zbR_e, zbV_e, zeR_e, zeN_s, zeN_n, Nat.reduceEqDiff, and_self, and_true, true_and, and_false, false_and, ite_true, ite_false, reduceIte, tg_176 hS5, gR_176_68 hS5, hk5, q_X12_sendTold_57, gR_176_65 hS5]
      rw [if_pos (ai_nI (.inl (tg_231 hS5)) (ln_231 hS5) (by omega) (by omega)), ixn (by omega), if_pos (show ai β5 32 48 228 3 = true from ai_nI (k := 3) (.inl (tg_228 hS5)) (ln_228 hS5) (by omega) (by omega)), if_pos (show ai β5 32 32 228 3 = true from ai_nI (k := 3) (.inl (tg_228 hS5)) (ln_228 hS5) (by omega) (by omega)), h3, h283a, nI_1, d1]
      simp -implicitDefEqProofs only [tg_sI, ln_sI, tg_sL, ln_sL, tg_sR, ln_sR, tg_sC, ln_sC, ai_sI, ai_sL, gL_sI, gR_sI, gI_sL, gR_sL, gI_sR, gL_sR, gI_sI, gL_sL, gR_sR, zlt_e, zln_e, zli_e, zll_e, zbI_e, zbL_e, zbR_e, zbV_e, zeR_e, zeN_s, zeN_n, Nat.reduceEqDiff, and_self, and_true, true_and, and_false, false_and, ite_true, ite_false, reduceIte, tg_176 hS7, h58b, nI_1]
    · exact (Un_sI (.inr (.inl ⟨rfl, rfl⟩))).trans ((Un_sI (.inr (.inr (.inl ⟨rfl, rfl⟩)))).trans ((w7.mono (fun r j _ _ q => .inl q)).trans (Un_sI (.inr (.inr (.inr ⟨rfl, rfl⟩))))))
    · rw [gI_sI, if_neg (by omega), w7.iA (by omega) (by omega) (by rw [tg_231 hS6]; omega) (by unfold XL; omega), gI_sI, if_neg (by omega), gI_sI, if_pos ⟨rfl, rfl⟩]
    · rw [gI_sI, if_neg (by omega), w7.i (by omega) (by omega) (by omega) (by unfold XL; omega), gI_sI, if_pos ⟨rfl, rfl⟩]
    · rw [gI_sI, if_pos ⟨rfl, rfl⟩]
  have uV : ∀ {β5 β6 : zS}, Un XU β4 β5 → Un (fun r j => XL r j ∨ (r = 231 ∧ j = 120 + SS.length) ∨ (r = 228 ∧ j = 3) ∨ (r = 176 ∧ j = 58)) β5 β6 → Un XV β β6 := by
    intro β5 β6 u5 u6
    refine (c4.mono (fun r j _ _ q => ?_)).trans ((u4.mono (fun r j _ _ q => ?_)).trans ((u5.mono (fun r j _ _ q => .inl q)).trans (u6.mono (fun r j _ _ q => ?_))))
    · rcases q with q | q
      · exact .inl (.inl q)
      · exact .inr (by omega)
    · rcases q with q | q
      · exact .inr (by omega)
      · exact .inl (.inr (.inl ⟨q.1, by omega⟩))
    · rcases q with q | q
      · exact .inl (.inl q)
      · exact .inr (by omega)
  rw [eC, eR, eR2]
  -- the class behind a fault
  have dead : ∀ (α4 : zS) (st4 : lx) (L4 : List Nat), ¬ lL st4 = true → CZ t n α α4 st4 L4 → ∃ α6, (if tg α4 12 = 7 then zeR none (gR α4 12 0) (fun q2 => if tg α4 q2 = 11 then zbV (zM 109 [.ref q2, .int 59] α4) (fun σ3 => if tg σ3 12 = 7 then zbV (zM 53 [.ref 12, .int ((-40) - v)] σ3) (fun σ4 => zR 85 52 5 [some (.ref 12), some (.int k), some (.int (nI (SS.length + 1))), some (.int v)] [] σ4) else none) else none) else none) = zR 85 52 5 [some (.ref 12), some (.int k), some (.int (nI (SS.length + 1))), some (.int v)] [] α6 ∧ CZ t n α α6 st4 L4 := by
    intro α4 st4 L4 hd hz
    have hS4 := CS_sh hz.1
    obtain ⟨α5, d1, d2⟩ := c_takeSign hz.1 (c := 59) (by decide)
    have d1 : zM 109 [.ref 8, .int 59] α4 = some (none, α5) := d1
    rw [lG_dead2 hd] at d2
    have z5 := z_tok hz rfl (by decide +kernel) d1 d2 (fun z => z)
    obtain ⟨α6, p1, p2⟩ := z_putV ((-40) - v) z5 hd
    refine ⟨α6, ?_, p2⟩
    simp -implicitDefEqProofs only [tg_sI, ln_sI, tg_sL, ln_sL, tg_sR, ln_sR, tg_sC, ln_sC, ai_sI, ai_sL, gL_sI, gR_sI, gI_sL, gR_sL, gI_sR, gL_sR, gI_sI, gL_sL, gR_sR, zlt_e, zln_e, zli_e, zll_e, zbI_e, zbL_e, zbR_e, zbV_e, zeR_e, zeN_s, zeN_n, Nat.reduceEqDiff, and_self, and_true, true_and, and_false, false_and, ite_true, ite_false, reduceIte, tg_12 hS4, gR_12_0 hS4, tg_8 hS4, d1, tg_12 (CS_sh d2), p1]
  by_cases hl3 : lL st3 = true
  · obtain ⟨s3, e3, rfl⟩ := lx_live hl3
    obtain ⟨hp3, B, hB1, hB2, hB3, hB4, hB5, hB6⟩ := c5 hl3
    have hp3 : s + 6 ≤ s3 := hp3
    rw [if_pos (live_5 c2 rfl)]
    obtain ⟨α4, st4, x, d1, d2, d3, d4⟩ := J_testW c1 (z3.2.2.2 rfl) r4 s4 (by omega)
    have z4 := CZ_t z3 d2
    rw [d1]
    by_cases hl4 : lL st4 = true
    · obtain ⟨s4', e4, rfl⟩ := lx_live hl4
      obtain ⟨f1, f2, f3, β5, f4, f5⟩ := d4 hl4
      have f2 : (lc SS ++ x).length + 6 ≤ s4' := f2
      obtain ⟨β6, t1, t2, t3, t4, t5, t6⟩ := tail β5 (.inl (s4', e4)) _ f5.1 f5.2.1 f5.2.2.2.2.2.1
      obtain ⟨α5, g1, g2⟩ := c_takeSign z4.1 (c := 59) (by decide)
      have g1 : zM 109 [.ref 8, .int 59] α4 = some (none, α5) := g1
      have z5 := z_tok z4 rfl (by decide +kernel) g1 g2 (fun z => lG_live z)
      have hs4n : s4' ≤ n := f5.1.2.1.1
      obtain ⟨α6, p1, p2⟩ := z_put (c := 20000 + B) z5 (fun _ => by omega)
      have hcv : cOf (20000 + B) = (-40) - v := by
        unfold cOf
        rw [if_pos (by omega), show 20000 + B - 20000 = B by omega, hB4]
      rw [hcv] at p1
      rw [f4]
      simp -implicitDefEqProofs only [tg_sI, ln_sI, tg_sL, ln_sL, tg_sR, ln_sR, tg_sC, ln_sC, ai_sI, ai_sL, gL_sI, gR_sI, gI_sL, gR_sL, gI_sR, gL_sR, gI_sI, gL_sL, gR_sR, zlt_e, zln_e, zli_e, zll_e, zbI_e, zbL_e, zbR_e, zbV_e, zeR_e, zeN_s, zeN_n, Nat.reduceEqDiff, and_self, and_true, true_and, and_false, false_and, ite_true, ite_false, reduceIte, t1, tg_12 (CS_sh z4.1), gR_12_0 (CS_sh z4.1), tg_8 (CS_sh z4.1), g1, tg_12 (CS_sh g2), p1]
      refine ⟨α6, β6, _, some (.int v), rfl, rfl, p2.1, t2, p2.2.1, uV f5.2.1 t3, p2.2.2.1, fun hv => ⟨(x, B), ?_, ?_, ?_, ?_, ?_, ?_, ?_⟩⟩
      · intro y hy
        rcases List.mem_append.mp hy with z | z
        · exact hW y z
        · have : y = (x, B) := by simpa using z
          rw [this]
          exact ⟨f1, hB1, hB2, hB3⟩
      · rw [lc_app]
        exact p2.2.2.2 hv
      · have e9 : flt (lc (SS ++ [(x, B)])) = flt (lc SS ++ x) := by
          rw [lc_app, flt_ap (lc SS ++ x)]
          have : flt [20000 + B] = [] := by unfold flt; simp
          rw [this, List.append_nil]
        unfold Q2
        rw [e9]
        exact Q2_un (β := β5) ⟨f5.2.2.2.2.2.1, f5.2.2.2.2.2.2.1⟩ (RS_sh f5.1) t3 (by unfold XL; omega) (fun j _ => by unfold XL; omega)
      · intro i hi
        have hi : i < SS.length + 1 := by simpa using hi
        have hSR6 : SR β6 120 0 SS := SR_un (SR_un (SR_un hSR3 hSb3 u4 (fun r j h1 h2 h3 q => by omega)) hS4 f5.2.1 (fun r j h1 h2 h3 q => by unfold XU XL at q; omega)) (RS_sh f5.1) t3 (fun r j h1 h2 h3 q => by unfold XL at q; omega)
        by_cases q : i = SS.length
        · subst q
          rw [getD_endS, off_app _ _ (Nat.le_refl _), off_end, ← flt_lc hW]
          refine ⟨?_, ?_, ?_⟩
          · rw [t3.iA (by omega) (by omega) (by rw [tg_229 (RS_sh f5.1)]; omega) (by unfold XL; omega), f5.2.1.iA (by omega) (by omega) (by rw [tg_229 hS4]; omega) (by unfold XU XL; omega), u4.iA (by omega) (by omega) (by rw [tg_229 hSb3]; omega) (by omega)]
            exact hB6
          · rw [t3.iA (by omega) (by omega) (by rw [tg_230 (RS_sh f5.1)]; omega) (by unfold XL; omega), f5.2.1.iA (by omega) (by omega) (by rw [tg_230 hS4]; omega) (by unfold XU XL; omega), g4]
            congr 1
            omega
          · rw [t4, flt_ap, flt_toks f1.1, List.length_append]
            show nI ((flt (lc SS)).length + x.length) = nI (0 + (flt (lc SS)).length + x.length)
            rw [Nat.zero_add]
        · rw [getD_appS _ _ (by omega), off_app _ _ (by omega)]
          exact hSR6 i (by omega)
      · rw [t6]; simp
      · rw [t5]; simp
      · rw [lc_app]
        have q59 : ls t n (.inl (s4', e4)) = 59 := by
          by_cases z : ls t n (.inl (s4', e4)) = 59
          · exact z
          · unfold lG at hv; rw [if_neg z] at hv; cases hv
        have e9 : lG t n 59 (.inl (s4', e4)) = la t n (.inl (s4', e4)) := by unfold lG; rw [if_pos q59]
        obtain ⟨hsn4, hk4, -⟩ := ls_of (c := 59) (by decide) q59
        have := la_pos (t := t) (n := n) (s := s4') (e := e4) hsn4 (by omega)
        rw [e9]
        simp at f2 ⊢
        omega
    · obtain ⟨β5, k1, k2⟩ := d3 hl4
      obtain ⟨β6, t1, t2, t3, -⟩ := tail β5 st4 _ k2.1 k2.2 rfl
      rw [lG_dead2 hl4] at t2
      obtain ⟨α6, p1, p2⟩ := dead α4 st4 _ hl4 z4
      rw [k1]
      simp -implicitDefEqProofs only [tg_sI, ln_sI, tg_sL, ln_sL, tg_sR, ln_sR, tg_sC, ln_sC, ai_sI, ai_sL, gL_sI, gR_sI, gI_sL, gR_sL, gI_sR, gL_sR, gI_sI, gL_sL, gR_sR, zlt_e, zln_e, zli_e, zll_e, zbI_e, zbL_e, zbR_e, zbV_e, zeR_e, zeN_s, zeN_n, Nat.reduceEqDiff, and_self, and_true, true_and, and_false, false_and, ite_true, ite_false, reduceIte, t1]
      exact ⟨α6, β6, st4, some (.int v), p1, rfl, p2.1, t2, p2.2.1, uV k2.2 t3, p2.2.2.1, fun z => absurd z hl4⟩
  · rw [if_neg (dead_5 c2 hl3)]
    obtain ⟨β6, t1, t2, t3, -⟩ := tail β4 st3 _ r4 (Un.refl _ _) q4.1
    rw [lG_dead2 hl3] at t2
    obtain ⟨α4, d1, d2⟩ := d_56 (O := 0) hl3 (by omega) z3
    have d1 : zM 56 [.ref 12, .int 0] α3 = some (none, α4) := d1
    obtain ⟨α6, p1, p2⟩ := dead α4 st3 _ hl3 d2
    rw [d1, t1]
    exact ⟨α6, β6, st3, some (.int v), p1, rfl, p2.1, t2, p2.2.1, uV (Un.refl _ _) t3, p2.2.2.1, fun z => absurd z hl3⟩
end
