/-! statements of a house, both at once: sort -/
section
variable {t : Nat → Nat} {n : Nat} {α α' β β' γ : zS} {st : lx} {S N M K : Nat} {X Y : Nat → Nat → Prop}
theorem JH_sort (h : JH α β S N M K) (hM : M < 4) (hP : HP S) (hS : Sh α) (hS2 : Sh β) (u : Un X α α') (w : Un Y β β') (hX : ∀ r j, S ≤ r → r < S + 44 → X r j → (r = S ∧ j = 6) ∨ r = S + 24 + 2 * M ∨ r = S + 25 + 2 * M) (hY : ∀ r j, 213 ≤ r → r < 225 → Y r j → (r = 213 ∧ j = 8 + M) ∨ (r = 214 ∧ j = 1) ∨ ((r = 218 ∨ r = 219 ∨ r = 220) ∧ j = M) ∨ (r = 217 ∧ 5 * M ≤ j)) (h6' : gI α' S 6 = nI (M + 1)) (hm : gI β' 214 1 = nI (M + 1)) (hL : JS α' β' S M) : JH α' β' S N (M + 1) K := by
  have hb := HPb hP
  obtain ⟨h1, h2, h3, h4, h5, h6, h7, h8⟩ := h
  have n1 := h1.1.2.1
  have n3 := h1.2.2.2.1
  have nX : ∀ r j, S ≤ r → r < S + 44 → ¬ ((r = S ∧ j = 6) ∨ r = S + 24 + 2 * M ∨ r = S + 25 + 2 * M) → ¬ X r j := fun r j a b c d => c (hX r j a b d)
  have nY : ∀ r j, 213 ≤ r → r < 225 → ¬ ((r = 213 ∧ j = 8 + M) ∨ (r = 214 ∧ j = 1) ∨ ((r = 218 ∨ r = 219 ∨ r = 220) ∧ j = M) ∨ (r = 217 ∧ 5 * M ≤ j)) → ¬ Y r j := fun r j a b c d => c (hY r j a b d)
  refine ⟨⟨⟨?_, n1, ?_⟩, ⟨h6', by omega, hm⟩, ?_, n3, ?_⟩, JF_un h2 hP u w ⟨nX _ _ (by omega) (by omega) (by omega), nX _ _ (by omega) (by omega) (by omega), nX _ _ (by omega) (by omega) (by omega)⟩ (fun j _ => nY _ _ (by omega) (by omega) (by omega)), JP_un h3 hP u w (fun j => nX _ _ (by omega) (by omega) (by omega)) (fun j _ => nY _ _ (by omega) (by omega) (by omega)), fun k hk => JL_un (h4 k hk) (by omega) hP u w (fun j => ⟨nX _ _ (by omega) (by omega) (by omega), nX _ _ (by omega) (by omega) (by omega)⟩) ⟨nY _ _ (by omega) (by omega) (by omega), nY _ _ (by omega) (by omega) (by omega), fun r _ => nY _ _ (by omega) (by omega) (by omega)⟩, fun k hk => ?_, fun k hk => JQ_un (h6 k hk) (by omega) hP u w (fun j => ⟨nX _ _ (by omega) (by omega) (by omega), nX _ _ (by omega) (by omega) (by omega)⟩) ⟨nY _ _ (by omega) (by omega) (by omega), fun d _ => nY _ _ (by omega) (by omega) (by omega)⟩, JT_un h7 n1 hP hS hS2 u w (fun j => nX _ _ (by omega) (by omega) (by omega)) (fun j _ => nY _ _ (by omega) (by omega) (by omega)), JZ_un h8 hP hS u ⟨fun j => nX _ _ (by omega) (by omega) (by omega), fun j => nX _ _ (by omega) (by omega) (by omega), fun k _ => nX _ _ (by omega) (by omega) (by omega)⟩⟩
  · rw [u.i (by omega) (by omega) (by omega) (nX _ _ (by omega) (by omega) (by omega))]; exact h1.1.1
  · rw [w.i (by omega) (by omega) (by omega) (nY _ _ (by omega) (by omega) (by omega))]; exact h1.1.2.2
  · rw [u.i (by omega) (by omega) (by omega) (nX _ _ (by omega) (by omega) (by omega))]; exact h1.2.2.1
  · rw [w.i (by omega) (by omega) (by omega) (nY _ _ (by omega) (by omega) (by omega))]; exact h1.2.2.2.2
  · rcases Nat.lt_or_ge k M with q | q
    · exact JS_un (h5 k q) (by omega) hP u w (fun j => ⟨nX _ _ (by omega) (by omega) (by omega), nX _ _ (by omega) (by omega) (by omega)⟩) ⟨nY _ _ (by omega) (by omega) (by omega), nY _ _ (by omega) (by omega) (by omega), nY _ _ (by omega) (by omega) (by omega), nY _ _ (by omega) (by omega) (by omega), fun d _ => nY _ _ (by omega) (by omega) (by omega)⟩
    · rw [show k = M by omega]; exact hL
/-- a word, then a number of 100 to a place of the class's sort and to a row of the reference -/
theorem j_wn {w Q c R m : Nat} (hw : w < 35) (hC : CS α t n st) (hR : RS β t n st) (hQ : 16 ≤ Q) (hQ2 : Q < 176) (hR1 : 213 ≤ R) (hR2 : R < 253 := by omega) : ∃ α1 α2 β1 β2 v x, zM 108 [.ref 8, .int (nI w)] α = some (none, α1) ∧ Sh α1 ∧ zM 110 [.ref 8, .int 0, .int 100] α1 = some (some (.int (nI v)), α2) ∧ Sh α2 ∧ zM 197 [.ref 176, .ref (178 + w)] β = some (none, β1) ∧ Sh β1 ∧ zM 200 [.ref 176, .int 0, .int 100] β1 = some (some (.int x), β2) ∧ Sh β2 ∧ CS (sI α2 Q c (nI v)) t n (lU t n 0 100 (lW t n w st)) ∧ RS (sI β2 R m x) t n (lU t n 0 100 (lW t n w st)) ∧ Un (fun r j => r = 8 ∨ (r = Q ∧ j = c)) α (sI α2 Q c (nI v)) ∧ Un (fun r j => XL r j ∨ (r = R ∧ j = m)) β (sI β2 R m x) ∧ v ≤ 100 ∧ (lL (lU t n 0 100 (lW t n w st)) = true → x = nI v ∧ lL st = true) := by
  obtain ⟨α1, β1, b1, b2, b3, b4, b5, b6⟩ := j_word hw hC hR
  obtain ⟨α2, β2, v, x, c1, c2, c3, c4, c5, c6, c7, c8, c9⟩ := j_num b3 b4 (lo := 0) (hi := 100) (by decide) (by decide)
  refine ⟨α1, α2, β1, β2, v, x, b1, CS_sh b3, c1, CS_sh c3, b2, RS_sh b4, c2, RS_sh c4, CS_sI c3 (by omega) (by omega) (by omega) (by omega), RS_sI c4 hR1, ?_, ?_, c8, fun q => ⟨(c9 q).1, lW_live (lU_live q)⟩⟩
  · exact ((b5.trans c5).mono (fun r j _ _ q => .inl q)).trans (Un_sI (.inr ⟨rfl, rfl⟩))
  · exact ((b6.trans c6).mono (fun r j _ _ q => .inl q)).trans (Un_sI (.inr ⟨rfl, rfl⟩))
theorem j_sort {s e : Nat} (hP : HP S) (hC : CS α t n (.inl (s, e))) (hw : lw t n (.inl (s, e)) < 35) (hR : RS β t n (la t n (.inl (s, e)))) (hJ : JH α β S N M K) : ∃ α' β' st', zM 10 [.ref 11, .ref S] α = some (none, α') ∧ zM 209 [.ref 176, .int (nI s)] β = some (none, β') ∧ JR t n S α β α' β' st' := by
  have hb := HPb hP
  have hS := CS_sh hC
  have hS2 := RS_sh hR
  have hs : s < 2000 := by have := hC.2.1.1; have := hC.1.2.1; omega
  have hN := hJ.1
  have k4 := hN.2.1.2.1
  have hR' : RS β t n (.inl (tkS t n s, tkG t n s e)) := hR
  obtain ⟨fn, ff⟩ := r_isFull (a := M) (b := 4) (p := s) hR' (by omega) (by omega) hs
  rw [q_X1_readSort, q_X12_sortTold]
  simp -implicitDefEqProofs only [tg_sI, ln_sI, tg_sL, ln_sL, tg_sR, ln_sR, tg_sC, ln_sC, ai_sI, ai_sL, gL_sI, gR_sI, gI_sL, gR_sL, gI_sR, gL_sR, gI_sI, gL_sL, gR_sR, zlt_e, zln_e, zli_e, zll_e, zbI_e, zbL_e, zbR_e, zbV_e, zeR_e, zeN_s, zeN_n, Nat.reduceEqDiff, and_self, and_true, true_and, and_false, false_and, ite_true, ite_false, reduceIte, tg_P hS hP, tg_176 hS2, gR_176_47 hS2, hN.2.1.1]
  rw [if_pos (show ai β 32 48 214 1 = true from ai_nI (k := 1) (.inl (tg_214 hS2)) (ln_214 hS2) (by omega) (by omega)), show gI β 214 (ix 1) = nI M from hN.2.1.2.2, show (4 : Int32) = nI 4 from rfl]
  by_cases hK : M = 4
  · obtain ⟨β', g1, g2, g3⟩ := ff hK
    obtain ⟨α', f1, f2⟩ := c_failHere hC (f := 5) (by decide) (by decide)
    have f1 : zM 107 [.ref 8, .int 5] α = some (none, α') := f1
    rw [if_neg (show ¬ nI M < nI 4 from nI_nlt (by omega) (by omega)), g1]
    simp -implicitDefEqProofs only [tg_sI, ln_sI, tg_sL, ln_sL, tg_sR, ln_sR, tg_sC, ln_sC, ai_sI, ai_sL, gL_sI, gR_sI, gI_sL, gR_sL, gI_sR, gL_sR, gI_sI, gL_sL, gR_sR, zlt_e, zln_e, zli_e, zll_e, zbI_e, zbL_e, zbR_e, zbV_e, zeR_e, zeN_s, zeN_n, Nat.reduceEqDiff, and_self, and_true, true_and, and_false, false_and, ite_true, ite_false, reduceIte, tg_11 hS, gR_11_0 hS, tg_8 hS, f1]
    rw [if_neg (show ¬ (1 : Int32) = 0 by decide)]
    exact ⟨_, _, .inr (5, s), rfl, rfl, f2, g2, (Un_tok hS f1 rfl (by decide +kernel)).mono (fun r j _ _ q => .inl q), g3.mono (fun r j _ _ q => .inl q), fun q => by cases q⟩
  · obtain ⟨α1, a1, a2⟩ := c_advW hC hw
    have hS1 := CS_sh a2
    have u1 := Un_tok hS a1 rfl (by decide +kernel)
    have a2' : CS α1 t n (.inl (tkS t n s, tkG t n s e)) := a2
    have hJ1 := JH_rd hJ hP hS hS2 u1 (Un.refl XL β)
    have hM4 : M < 4 := by omega
    rw [if_pos (show nI M < nI 4 from nI_lt (by omega) (by omega)), fn hK]
    simp -implicitDefEqProofs only [tg_sI, ln_sI, tg_sL, ln_sL, tg_sR, ln_sR, tg_sC, ln_sC, ai_sI, ai_sL, gL_sI, gR_sI, gI_sL, gR_sL, gI_sR, gL_sR, gI_sI, gL_sL, gR_sR, zlt_e, zln_e, zli_e, zll_e, zbI_e, zbL_e, zbR_e, zbV_e, zeR_e, zeN_s, zeN_n, Nat.reduceEqDiff, and_self, and_true, true_and, and_false, false_and, ite_true, ite_false, reduceIte, tg_11 hS, gR_11_0 hS, tg_8 hS, a1, tg_P hS1 hP, gR_P_1 hS1 hP, hJ1.1.2.1.1]
    rw [if_pos (ai_nI (.inl (tg_P2 hS1 hP)) (ln_P2 hS1 hP) (by omega) (by omega)), ixn (by omega)]
    simp -implicitDefEqProofs only [tg_sI, ln_sI, tg_sL, ln_sL, tg_sR, ln_sR, tg_sC, ln_sC, ai_sI, ai_sL, gL_sI, gR_sI, gI_sL, gR_sL, gI_sR, gL_sR, gI_sI, gL_sL, gR_sR, zlt_e, zln_e, zli_e, zll_e, zbI_e, zbL_e, zbR_e, zbV_e, zeR_e, zeN_s, zeN_n, Nat.reduceEqDiff, and_self, and_true, true_and, and_false, false_and, ite_true, ite_false, reduceIte, gR_Psort hS1 hP hM4, tg_11 hS1, gR_11_0 hS1, tg_8 hS1, c_start a2', tg_176 hS2]
    obtain ⟨x, α2, α3, β3, st3, e1, hS2', e2, e3, e4, e5, e6, e7, e8⟩ := j_name (kd := 1) (c := M) (Q := S + 24 + 2 * M) hP a2' hR' hJ1 (by omega) (by omega) hN.2.1.2.2 (by omega) (by omega) (by intro k hk; have := hN.1.2.1; omega) (by intro k hk; omega) (by intro k hk; have := hN.2.2.2.1; omega)
    have e3 : zM 205 [.ref 176, .int 1] β = some (some (.int (nI M)), β3) := e3
    have hS3 := CS_sh e4
    have hS3b := RS_sh e5
    obtain ⟨α4, β4, b1, b2, b3, b4, b5, b6⟩ := j_word (w := 4) (by decide) e4 e5
    have b1 : zM 108 [.ref 8, .int 4] α3 = some (none, α4) := b1
    have b2 : zM 197 [.ref 176, .ref 182] β3 = some (none, β4) := b2
    have hS4 := CS_sh b3
    have hS4b := RS_sh b4
    obtain ⟨α5, p1, p2, p3, p4⟩ := c_chan (t := t) (n := n) (A := S + 25 + 2 * M) 5 (by omega) (by omega) (by omega) (by omega) (fun σ h => tg_Pfeet h hP hM4) (fun σ h => ln_Pfeet h hP hM4) _ 5 0 rfl α4 none b3 (fun _ j hj => by omega)
    obtain ⟨β5, q1, q2, q3, q4⟩ := r_chan (t := t) (n := n) (T := 217) (M := 40) (F := 5 * M) 5 (by omega) (by omega) (by omega) (by omega) (fun σ h => tg_217 h) (fun σ h => ln_217 h) (by omega) (by omega) _ 5 0 rfl β4 none 0 b4 (fun _ => ⟨rfl, fun j hj => by omega⟩)
    have p1 : zR 4 15 4 [some (.ref 11), some (.ref (S + 25 + 2 * M)), some (.int 100), some (.int 0), none] [] α4 = some (none, α5) := p1
    have q1 : zR 3 207 4 [some (.ref 176), some (.ref 217), some (.int (nI (5 * M))), some (.int 5), some (.int 2), some (.int 0), some (.int 0), none] [] β4 = some (none, β5) := q1
    have hS5 := CS_sh p2
    have hS5b := RS_sh q2
    obtain ⟨a6, a7, r6, r7, v7, x7, c1, i1, c2, i2, c3, i3, c4, i4, c5, c6, c7, c8, c9, c10⟩ := j_wn (w := 5) (Q := S + 24 + 2 * M) (c := 2) (R := 218) (m := M) (by decide) p2 q2 (by omega) (by omega) (by omega)
    obtain ⟨a8, a9, r8, r9, v9, x9, d1, k1, d2, k2, d3, k3, d4, k4', d5, d6, d7, d8, d9, d10⟩ := j_wn (w := 6) (Q := S + 24 + 2 * M) (c := 3) (R := 219) (m := M) (by decide) c5 c6 (by omega) (by omega) (by omega)
    obtain ⟨aA, aB, rA, rB, vB, xB, g1, m1, g2, m2, g3, m3, g4, m4, g5, g6, g7, g8, g9, g10⟩ := j_wn (w := 7) (Q := S + 24 + 2 * M) (c := 4) (R := 220) (m := M) (by decide) d5 d6 (by omega) (by omega) (by omega)
    have c1 : zM 108 [.ref 8, .int 5] α5 = some (none, a6) := c1
    have c3 : zM 197 [.ref 176, .ref 183] β5 = some (none, r6) := c3
    have d1 : zM 108 [.ref 8, .int 6] _ = some (none, a8) := d1
    have d3 : zM 197 [.ref 176, .ref 184] _ = some (none, r8) := d3
    have g1 : zM 108 [.ref 8, .int 7] _ = some (none, aA) := g1
    have g3 : zM 197 [.ref 176, .ref 185] _ = some (none, rA) := g3
    have s7 := CS_sh c5
    have s7b := RS_sh c6
    have s9 := CS_sh d5
    have s9b := RS_sh d6
    have sB := CS_sh g5
    rw [q_X1_readSort_22, e3]
    simp -implicitDefEqProofs only [tg_sI, ln_sI, tg_sL, ln_sL, tg_sR, ln_sR, tg_sC, ln_sC, ai_sI, ai_sL, gL_sI, gR_sI, gI_sL, gR_sL, gI_sR, gL_sR, gI_sI, gL_sL, gR_sR, zlt_e, zln_e, zli_e, zll_e, zbI_e, zbL_e, zbR_e, zbV_e, zeR_e, zeN_s, zeN_n, Nat.reduceEqDiff, and_self, and_true, true_and, and_false, false_and, ite_true, ite_false, reduceIte, tg_11 hS1, gR_11_0 hS1, tg_8 hS1, e1, tg_Psort hS2' hP hM4, tg_11 hS2', e2, tg_11 hS3, gR_11_0 hS3, tg_8 hS3, b1, tg_176 hS3b, gR_176_14 hS3b, b2, tg_Psort hS4 hP hM4, gR_Pfeet hS4 hP hM4, tg_11 hS4, q_X1_takeChances, p1]
    rw [q_X1_readSort_41, q_X12_sortTold_18]
    simp -implicitDefEqProofs only [tg_sI, ln_sI, tg_sL, ln_sL, tg_sR, ln_sR, tg_sC, ln_sC, ai_sI, ai_sL, gL_sI, gR_sI, gI_sL, gR_sL, gI_sR, gL_sR, gI_sI, gL_sL, gR_sR, zlt_e, zln_e, zli_e, zll_e, zbI_e, zbL_e, zbR_e, zbV_e, zeR_e, zeN_s, zeN_n, Nat.reduceEqDiff, and_self, and_true, true_and, and_false, false_and, ite_true, ite_false, reduceIte, tg_176 hS4b, gR_176_50 hS4b, q_X12_chances]
    rw [show (5 : Int32) * nI M = nI (5 * M) from pk_mul 5 M, q1]
    simp -implicitDefEqProofs only [tg_sI, ln_sI, tg_sL, ln_sL, tg_sR, ln_sR, tg_sC, ln_sC, ai_sI, ai_sL, gL_sI, gR_sI, gI_sL, gR_sL, gI_sR, gL_sR, gI_sI, gL_sL, gR_sR, zlt_e, zln_e, zli_e, zll_e, zbI_e, zbL_e, zbR_e, zbV_e, zeR_e, zeN_s, zeN_n, Nat.reduceEqDiff, and_self, and_true, true_and, and_false, false_and, ite_true, ite_false, reduceIte, tg_11 hS5, gR_11_0 hS5, tg_8 hS5, c1, tg_11 i1, gR_11_0 i1, tg_8 i1, c2, tg_Psort i2 hP hM4, tg_11 i2, gR_11_0 i2, tg_8 i2, d1, tg_176 hS5b, gR_176_15 hS5b, c3, tg_176 i3, gR_176_51 i3, c4]
    rw [if_pos (ai_nI (.inl (tg_218 i4)) (ln_218 i4) (by omega) (by omega)), ixn (by omega), q_X1_readSort_56, q_X12_sortTold_39]
    simp -implicitDefEqProofs only [tg_sI, ln_sI, tg_sL, ln_sL, tg_sR, ln_sR, tg_sC, ln_sC, ai_sI, ai_sL, gL_sI, gR_sI, gI_sL, gR_sL, gI_sR, gL_sR, gI_sI, gL_sL, gR_sR, zlt_e, zln_e, zli_e, zll_e, zbI_e, zbL_e, zbR_e, zbV_e, zeR_e, zeN_s, zeN_n, Nat.reduceEqDiff, and_self, and_true, true_and, and_false, false_and, ite_true, ite_false, reduceIte, tg_11 k1, gR_11_0 k1, tg_8 k1, d2, tg_Psort k2 hP hM4, tg_11 k2, gR_11_0 k2, tg_8 k2, g1, tg_11 m1, gR_11_0 m1, tg_8 m1, g2, tg_Psort m2 hP hM4, tg_176 i4, gR_176_16 i4, d3, tg_176 k3, gR_176_52 k3, d4]
    rw [if_pos (ai_nI (.inl (tg_219 k4')) (ln_219 k4') (by omega) (by omega)), ixn (by omega)]
    simp -implicitDefEqProofs only [tg_sI, ln_sI, tg_sL, ln_sL, tg_sR, ln_sR, tg_sC, ln_sC, ai_sI, ai_sL, gL_sI, gR_sI, gI_sL, gR_sL, gI_sR, gL_sR, gI_sI, gL_sL, gR_sR, zlt_e, zln_e, zli_e, zll_e, zbI_e, zbL_e, zbR_e, zbV_e, zeR_e, zeN_s, zeN_n, Nat.reduceEqDiff, and_self, and_true, true_and, and_false, false_and, ite_true, ite_false, reduceIte, tg_176 k4', gR_176_17 k4', g3]
    rw [q_X1_readSort_74, q_X12_sortTold_55]
    simp -implicitDefEqProofs only [tg_sI, ln_sI, tg_sL, ln_sL, tg_sR, ln_sR, tg_sC, ln_sC, ai_sI, ai_sL, gL_sI, gR_sI, gI_sL, gR_sL, gI_sR, gL_sR, gI_sI, gL_sL, gR_sR, zlt_e, zln_e, zli_e, zll_e, zbI_e, zbL_e, zbR_e, zbV_e, zeR_e, zeN_s, zeN_n, Nat.reduceEqDiff, and_self, and_true, true_and, and_false, false_and, ite_true, ite_false, reduceIte, tg_P m2 hP, tg_176 m3, gR_176_53 m3, g4]
    rw [if_pos (ai_nI (.inl (tg_220 m4)) (ln_220 m4) (by omega) (by omega)), ixn (by omega)]
    have uC : Un (fun r j => r = 8 ∨ r = S + 25 + 2 * M ∨ (r = S + 24 + 2 * M ∧ 2 ≤ j)) α3 (sI aB (S + 24 + 2 * M) 4 (nI vB)) := (b5.mono (fun r j _ _ q => by omega)).trans ((p3.mono (fun r j _ _ q => by omega)).trans ((c7.mono (fun r j _ _ q => by omega)).trans ((d7.mono (fun r j _ _ q => by omega)).trans (g7.mono (fun r j _ _ q => by omega)))))
    have h6B : gI aB S 6 = nI M := by
      have e : gI (sI aB (S + 24 + 2 * M) 4 (nI vB)) S 6 = gI aB S 6 := by rw [gI_sI, if_neg (by omega)]
      rw [← e, uC.i (by omega) (by omega) (by omega) (by omega), e6.i (by omega) (by omega) (by omega) (by omega)]
      exact hJ1.1.2.1.1
    rw [h6B, nI_1]
    have uA : Un (fun r j => r = 8 ∨ r = S + 24 + 2 * M ∨ r = S + 25 + 2 * M ∨ (r = S ∧ j = 6)) α (sI (sI aB (S + 24 + 2 * M) 4 (nI vB)) S 6 (nI (M + 1))) := (u1.mono (fun r j _ _ q => .inl q)).trans ((e6.mono (fun r j _ _ q => by omega)).trans ((uC.mono (fun r j _ _ q => by omega)).trans (Un_sI (by omega))))
    have wC : Un (fun r j => XL r j ∨ ((r = 218 ∨ r = 219 ∨ r = 220) ∧ j = M)) β5 (sI rB 220 M xB) := (c8.mono (fun r j _ _ q => by simp only [XL] at q ⊢; omega)).trans ((d8.mono (fun r j _ _ q => by simp only [XL] at q ⊢; omega)).trans (g8.mono (fun r j _ _ q => by simp only [XL] at q ⊢; omega)))
    have wD : Un (fun r j => XL r j ∨ ((r = 218 ∨ r = 219 ∨ r = 220) ∧ j = M) ∨ (r = 217 ∧ 5 * M ≤ j ∧ j < 5 * M + 5)) β3 (sI rB 220 M xB) := (b6.mono (fun r j _ _ q => .inl q)).trans ((q3.mono (fun r j _ _ q => by simp only [XL] at q ⊢; omega)).trans (wC.mono (fun r j _ _ q => by simp only [XL] at q ⊢; omega)))
    have wB : Un (fun r j => XL r j ∨ (r = 213 ∧ j = 8 + M) ∨ (r = 214 ∧ j = 1) ∨ ((r = 218 ∨ r = 219 ∨ r = 220) ∧ j = M) ∨ (r = 217 ∧ 5 * M ≤ j ∧ j < 5 * M + 5)) β (sI rB 220 M xB) := (e7.mono (fun r j _ _ q => by simp only [XL] at q ⊢; omega)).trans (wD.mono (fun r j _ _ q => by simp only [XL] at q ⊢; omega))
    refine ⟨_, _, _, rfl, rfl, CS_sI g5 (by omega) (by omega) (by omega) (by omega), g6, uA.mono (fun r j _ _ q => by unfold XC; omega), wB.mono (fun r j _ _ q => ?_), fun q => ?_⟩
    · rcases q with q | q
      · exact .inl q
      · exact .inr (by unfold XW; omega)
    · obtain ⟨xe, hl⟩ := g10 q
      obtain ⟨xe2, hl2⟩ := d10 hl
      obtain ⟨xe3, hl3⟩ := c10 hl2
      have hl4 : lL (lW t n 4 st3) = true := chn_dn (show 0 ≤ 5 by omega) hl3
      obtain ⟨nm, mm⟩ := e8 (lW_live hl4)
      have nX : ∀ r j, 213 ≤ r → ¬ XL r j := fun r j h q => by unfold XL at q; omega
      refine ⟨N, M + 1, K, JH_sort hJ hM4 hP hS hS2 uA wB (fun r j _ _ q => by omega) (fun r j _ _ q => by unfold XL at q; omega) (by rw [gI_sI, if_pos ⟨rfl, rfl⟩]) ?_ ⟨?_, ⟨v7, c9, ?_, ?_⟩, ⟨v9, d9, ?_, ?_⟩, ⟨vB, g9, ?_, ?_⟩, fun d => chf t n 5 d (lW t n 4 st3), chf5 hl3, fun d hd => ⟨?_, ?_⟩⟩⟩
      · rw [wD.i (by omega) (by omega) (by omega) (by unfold XL; omega)]; exact mm
      · rw [gI_sI, if_neg (by omega), uC.i (by omega) (by omega) (by omega) (by omega), wD.l (by omega) (by omega) (by omega) (by unfold XL; omega)]
        rw [show 8 * 1 + M = 8 + M by omega] at nm
        exact nm
      · rw [gI_sI, if_neg (by omega), g7.i (by omega) (by omega) (by omega) (by omega), d7.i (by omega) (by omega) (by omega) (by omega), gI_sI, if_pos ⟨rfl, rfl⟩]
      · rw [g8.i (by omega) (by omega) (by omega) (by unfold XL; omega), d8.i (by omega) (by omega) (by omega) (by unfold XL; omega), gI_sI, if_pos ⟨rfl, rfl⟩, xe3]
      · rw [gI_sI, if_neg (by omega), g7.i (by omega) (by omega) (by omega) (by omega), gI_sI, if_pos ⟨rfl, rfl⟩]
      · rw [g8.i (by omega) (by omega) (by omega) (by unfold XL; omega), gI_sI, if_pos ⟨rfl, rfl⟩, xe2]
      · rw [gI_sI, if_neg (by omega), gI_sI, if_pos ⟨rfl, rfl⟩]
      · rw [gI_sI, if_pos ⟨rfl, rfl⟩, xe]
      · rw [gI_sI, if_neg (by omega), g7.i (by omega) (by omega) (by omega) (by omega), d7.i (by omega) (by omega) (by omega) (by omega), c7.i (by omega) (by omega) (by omega) (by omega)]
        exact p4 hl3 d hd
      · rw [wC.i (by omega) (by omega) (by omega) (by unfold XL; omega)]
        exact q4 hl3 d hd
end
