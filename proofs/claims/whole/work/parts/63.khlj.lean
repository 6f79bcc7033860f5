/-! statements of a house, both at once: last (2) -/
section
variable {t : Nat → Nat} {n : Nat} {α α' β β' γ : zS} {st : lx} {S N M K : Nat}
/-- a word that is due, both -/
theorem j_word {w : Nat} (hw : w < 35) (hC : CS α t n st) (hR : RS β t n st) : ∃ α' β', zM 108 [.ref 8, .int (nI w)] α = some (none, α') ∧ zM 197 [.ref 176, .ref (178 + w)] β = some (none, β') ∧ CS α' t n (lW t n w st) ∧ RS β' t n (lW t n w st) ∧ Un (fun r _ => r = 8) α α' ∧ Un XL β β' := by
  obtain ⟨α', h1, h2⟩ := c_takeWord hC hw
  obtain ⟨β', g1, g2⟩ := r_asks hw hR
  exact ⟨α', β', h1, g1, h2, g2, Un_tok (CS_sh hC) h1 rfl (by decide +kernel), Un_ref (RS_sh hR) g1 rfl (by decide +kernel)⟩
theorem lW_live {w : Nat} {st : lx} (h : lL (lW t n w st) = true) : lL st = true := by
  match st, h with
  | .inl _, _ => rfl
  | .inr q, h =>
    unfold lW at h
    split at h <;> exact h
theorem j_last {s e : Nat} (hP : HP S) (hC : CS α t n (.inl (s, e))) (hw : lw t n (.inl (s, e)) < 35) (hR : RS β t n (la t n (.inl (s, e)))) (hJ : JH α β S N M K) : ∃ α' β' st', zM 9 [.ref 11, .ref S] α = some (none, α') ∧ zM 208 [.ref 176, .int (nI s)] β = some (none, β') ∧ JR t n S α β α' β' st' := by
  have hb := HPb hP
  have hS := CS_sh hC
  have hS2 := RS_sh hR
  have hs : s < 2000 := by have := hC.2.1.1; have := hC.1.2.1; omega
  have hN := hJ.1
  have k8 := hN.1.2.1
  have hR' : RS β t n (.inl (tkS t n s, tkG t n s e)) := hR
  obtain ⟨fn, ff⟩ := r_isFull (a := N) (b := 8) (p := s) hR' (by omega) (by omega) hs
  rw [q_X1_readLast, q_X12_lastTold]
  simp -implicitDefEqProofs only [tg_sI, ln_sI, tg_sL, ln_sL, tg_sR, ln_sR, tg_sC, ln_sC, ai_sI, ai_sL, gL_sI, gR_sI, gI_sL, gR_sL, gI_sR, gL_sR, gI_sI, gL_sL, gR_sR, zlt_e, zln_e, zli_e, zll_e, zbI_e, zbL_e, zbR_e, zbV_e, zeR_e, zeN_s, zeN_n, Nat.reduceEqDiff, and_self, and_true, true_and, and_false, false_and, ite_true, ite_false, reduceIte, tg_P hS hP, tg_176 hS2, gR_176_47 hS2, hN.1.1]
  rw [if_pos (show ai β 32 48 214 0 = true from ai_nI (k := 0) (.inl (tg_214 hS2)) (ln_214 hS2) (by omega) (by omega)), show gI β 214 (ix 0) = nI N from hN.1.2.2, show (8 : Int32) = nI 8 from rfl]
  by_cases hK : N = 8
  · obtain ⟨β', g1, g2, g3⟩ := ff hK
    obtain ⟨α', f1, f2⟩ := c_failHere hC (f := 5) (by decide) (by decide)
    have f1 : zM 107 [.ref 8, .int 5] α = some (none, α') := f1
    rw [if_neg (show ¬ nI N < nI 8 from nI_nlt (by omega) (by omega)), g1]
    simp -implicitDefEqProofs only [tg_sI, ln_sI, tg_sL, ln_sL, tg_sR, ln_sR, tg_sC, ln_sC, ai_sI, ai_sL, gL_sI, gR_sI, gI_sL, gR_sL, gI_sR, gL_sR, gI_sI, gL_sL, gR_sR, zlt_e, zln_e, zli_e, zll_e, zbI_e, zbL_e, zbR_e, zbV_e, zeR_e, zeN_s, zeN_n, Nat.reduceEqDiff, and_self, and_true, true_and, and_false, false_and, ite_true, ite_false, reduceIte, tg_11 hS, gR_11_0 hS, tg_8 hS, f1]
    rw [if_neg (show ¬ (1 : Int32) = 0 by decide)]
    exact ⟨_, _, .inr (5, s), rfl, rfl, f2, g2, (Un_tok hS f1 rfl (by decide +kernel)).mono (fun r j _ _ q => .inl q), g3.mono (fun r j _ _ q => .inl q), fun q => by cases q⟩
  · obtain ⟨α1, a1, a2⟩ := c_advW hC hw
    have hS1 := CS_sh a2
    have u1 := Un_tok hS a1 rfl (by decide +kernel)
    have a2' : CS α1 t n (.inl (tkS t n s, tkG t n s e)) := a2
    have hJ1 := JH_rd hJ hP hS hS2 u1 (Un.refl XL β)
    have hN8 : N < 8 := by omega
    rw [if_pos (show nI N < nI 8 from nI_lt (by omega) (by omega)), fn hK]
    simp -implicitDefEqProofs only [tg_sI, ln_sI, tg_sL, ln_sL, tg_sR, ln_sR, tg_sC, ln_sC, ai_sI, ai_sL, gL_sI, gR_sI, gI_sL, gR_sL, gI_sR, gL_sR, gI_sI, gL_sL, gR_sR, zlt_e, zln_e, zli_e, zll_e, zbI_e, zbL_e, zbR_e, zbV_e, zeR_e, zeN_s, zeN_n, Nat.reduceEqDiff, and_self, and_true, true_and, and_false, false_and, ite_true, ite_false, reduceIte, tg_11 hS, gR_11_0 hS, tg_8 hS, a1, tg_P hS1 hP, gR_P_0 hS1 hP, hJ1.1.1.1]
    rw [if_pos (ai_nI (.inl (tg_P1 hS1 hP)) (ln_P1 hS1 hP) (by omega) (by omega)), ixn (by omega)]
    simp -implicitDefEqProofs only [tg_sI, ln_sI, tg_sL, ln_sL, tg_sR, ln_sR, tg_sC, ln_sC, ai_sI, ai_sL, gL_sI, gR_sI, gI_sL, gR_sL, gI_sR, gL_sR, gI_sI, gL_sL, gR_sR, zlt_e, zln_e, zli_e, zll_e, zbI_e, zbL_e, zbR_e, zbV_e, zeR_e, zeN_s, zeN_n, Nat.reduceEqDiff, and_self, and_true, true_and, and_false, false_and, ite_true, ite_false, reduceIte, gR_Plast hS1 hP hN8, tg_11 hS1, gR_11_0 hS1, tg_8 hS1, c_start a2', tg_176 hS2]
    obtain ⟨x, α2, α3, β3, st3, e1, hS2', e2, e3, e4, e5, e6, e7, e8⟩ := j_name (kd := 0) (c := N) (Q := S + 8 + 2 * N) hP a2' hR' hJ1 (by omega) (by omega) hN.1.2.2 (by omega) (by omega) (by intro k hk; omega) (by intro k hk; have := hN.2.1.2.1; omega) (by intro k hk; have := hN.2.2.2.1; omega)
    have e3 : zM 205 [.ref 176, .int 0] β = some (some (.int (nI N)), β3) := e3
    have hS3 := CS_sh e4
    have hS3b := RS_sh e5
    obtain ⟨α4, β4, b1, b2, b3, b4, b5, b6⟩ := j_word (w := 1) (by decide) e4 e5
    have b1 : zM 108 [.ref 8, .int 1] α3 = some (none, α4) := b1
    have b2 : zM 197 [.ref 176, .ref 179] β3 = some (none, β4) := b2
    have hS4 := CS_sh b3
    have hS4b := RS_sh b4
    obtain ⟨α5, β5, v, wv5, c1, c2, c3, c4, c5, c6, c7, c8, c9⟩ := j_num b3 b4 (lo := 0) (hi := 9999) (by decide) (by decide)
    have c1 : zM 110 [.ref 8, .int 0, .int 9999] α4 = some (some (.int (nI v)), α5) := c1
    have c2 : zM 200 [.ref 176, .int 0, .int 9999] β4 = some (some (.int wv5), β5) := c2
    have hS5 := CS_sh c3
    have hS5b := RS_sh c4
    have c3' := CS_sI (r := S + 8 + 2 * N) (j := 1) (v := nI v) c3 (by omega) (by omega) (by omega) (by omega)
    have c4' := RS_sI (r := 215) (j := N) (v := wv5) c4 (by omega)
    obtain ⟨α6, β6, d1, d2, d3, d4, d5, d6⟩ := j_word (w := 2) (by decide) c3' c4'
    have d1 : zM 108 [.ref 8, .int 2] _ = some (none, α6) := d1
    have d2 : zM 197 [.ref 176, .ref 180] _ = some (none, β6) := d2
    have hS6 := CS_sh d3
    have hS6b := RS_sh d4
    obtain ⟨α7, p1, p2, p3, p4⟩ := c_chan (t := t) (n := n) (A := S + 9 + 2 * N) 3 (by omega) (by omega) (by omega) (by omega) (fun σ h => tg_Pruns h hP hN8) (fun σ h => ln_Pruns h hP hN8) _ 3 0 rfl α6 none d3 (fun _ j hj => by omega)
    obtain ⟨β7, q1, q2, q3, q4⟩ := r_chan (t := t) (n := n) (T := 216) (M := 48) (F := 3 * N) 3 (by omega) (by omega) (by omega) (by omega) (fun σ h => tg_216 h) (fun σ h => ln_216 h) (by omega) (by omega) _ 3 0 rfl β6 none 0 d4 (fun _ => ⟨rfl, fun j hj => by omega⟩)
    have p1 : zR 4 15 4 [some (.ref 11), some (.ref (S + 9 + 2 * N)), some (.int 100), some (.int 0), none] [] α6 = some (none, α7) := p1
    have q1 : zR 3 207 4 [some (.ref 176), some (.ref 216), some (.int (nI (3 * N))), some (.int 3), some (.int 1), some (.int 0), some (.int 0), none] [] β6 = some (none, β7) := q1
    have hS7 := CS_sh p2
    have hS7b := RS_sh q2
    obtain ⟨β8, z1, z2, z3, z4⟩ := r_zero (t := t) (n := n) hN8 (nI s) 20 0 rfl β7 q2
    have z1 : zR 6 208 41 [some (.ref 176), some (.int (nI s)), some (.int (nI N)), some (.int 0)] [] β7 = some (none, β8) := z1
    rw [q_X1_readLast_22, e3]
    simp -implicitDefEqProofs only [tg_sI, ln_sI, tg_sL, ln_sL, tg_sR, ln_sR, tg_sC, ln_sC, ai_sI, ai_sL, gL_sI, gR_sI, gI_sL, gR_sL, gI_sR, gL_sR, gI_sI, gL_sL, gR_sR, zlt_e, zln_e, zli_e, zll_e, zbI_e, zbL_e, zbR_e, zbV_e, zeR_e, zeN_s, zeN_n, Nat.reduceEqDiff, and_self, and_true, true_and, and_false, false_and, ite_true, ite_false, reduceIte, tg_11 hS1, gR_11_0 hS1, tg_8 hS1, e1, tg_Plast hS2' hP hN8, tg_11 hS2', e2, tg_11 hS3, gR_11_0 hS3, tg_8 hS3, b1, tg_176 hS3b, gR_176_11 hS3b, b2]
    rw [q_X1_readLast_37, q_X12_lastTold_18]
    simp -implicitDefEqProofs only [tg_sI, ln_sI, tg_sL, ln_sL, tg_sR, ln_sR, tg_sC, ln_sC, ai_sI, ai_sL, gL_sI, gR_sI, gI_sL, gR_sL, gI_sR, gL_sR, gI_sI, gL_sL, gR_sR, zlt_e, zln_e, zli_e, zll_e, zbI_e, zbL_e, zbR_e, zbV_e, zeR_e, zeN_s, zeN_n, Nat.reduceEqDiff, and_self, and_true, true_and, and_false, false_and, ite_true, ite_false, reduceIte, tg_11 hS4, gR_11_0 hS4, tg_8 hS4, c1, tg_Plast hS5 hP hN8, tg_11 hS5, gR_11_0 hS5, tg_8 hS5, tg_176 hS4b, gR_176_48 hS4b, c2, tg_176 hS5b, gR_176_12 hS5b, d1]
    rw [if_pos (ai_nI (.inl (tg_215 hS5b)) (ln_215 hS5b) (by omega) (by omega)), ixn (by omega), d2]
    simp -implicitDefEqProofs only [tg_sI, ln_sI, tg_sL, ln_sL, tg_sR, ln_sR, tg_sC, ln_sC, ai_sI, ai_sL, gL_sI, gR_sI, gI_sL, gR_sL, gI_sR, gL_sR, gI_sI, gL_sL, gR_sR, zlt_e, zln_e, zli_e, zll_e, zbI_e, zbL_e, zbR_e, zbV_e, zeR_e, zeN_s, zeN_n, Nat.reduceEqDiff, and_self, and_true, true_and, and_false, false_and, ite_true, ite_false, reduceIte, tg_Plast hS6 hP hN8, gR_Pruns hS6 hP hN8, tg_11 hS6, q_X1_takeChances, p1, tg_176 hS6b, gR_176_49 hS6b, q_X12_chances]
    rw [show (3 : Int32) * nI N = nI (3 * N) from pk_mul 3 N, q1]
    simp -implicitDefEqProofs only [tg_sI, ln_sI, tg_sL, ln_sL, tg_sR, ln_sR, tg_sC, ln_sC, ai_sI, ai_sL, gL_sI, gR_sI, gI_sL, gR_sL, gI_sR, gL_sR, gI_sI, gL_sL, gR_sR, zlt_e, zln_e, zli_e, zll_e, zbI_e, zbL_e, zbR_e, zbV_e, zeR_e, zeN_s, zeN_n, Nat.reduceEqDiff, and_self, and_true, true_and, and_false, false_and, ite_true, ite_false, reduceIte, q_X1_readLast_52, q_X12_lastTold_39, z1, tg_P hS7 hP]
    have h57 : gI α7 S 5 = nI N := by
      rw [p3.i (by omega) (by omega) (by omega) (by omega), d5.i (by omega) (by omega) (by omega) (by omega), gI_sI, if_neg (by omega), c5.i (by omega) (by omega) (by omega) (by omega), b5.i (by omega) (by omega) (by omega) (by omega), e6.i (by omega) (by omega) (by omega) (by omega)]
      exact hJ1.1.1.1
    rw [h57, nI_1]
    have uA : Un (fun r j => r = 8 ∨ (r = S + 8 + 2 * N ∧ j < 2) ∨ r = S + 9 + 2 * N ∨ (r = S ∧ j = 5)) α (sI α7 S 5 (nI (N + 1))) := (u1.mono (fun r j _ _ q => .inl q)).trans ((e6.mono (fun r j _ _ q => by omega)).trans ((b5.mono (fun r j _ _ q => .inl q)).trans ((c5.mono (fun r j _ _ q => .inl q)).trans ((Un_sI (by omega)).trans ((d5.mono (fun r j _ _ q => .inl q)).trans ((p3.mono (fun r j _ _ q => by omega)).trans (Un_sI (by omega))))))))
    have wB : Un (fun r j => XL r j ∨ (r = 213 ∧ j = N) ∨ (r = 214 ∧ j = 0) ∨ (r = 215 ∧ j = N) ∨ (r = 216 ∧ 3 * N ≤ j ∧ j < 3 * N + 3) ∨ (r = 224 ∧ 20 * N ≤ j ∧ j < 20 * N + 20)) β β8 := (e7.mono (fun r j _ _ q => by simp only [XL] at q ⊢; omega)).trans ((b6.mono (fun r j _ _ q => .inl q)).trans ((c6.mono (fun r j _ _ q => .inl q)).trans ((Un_sI (by omega)).trans ((d6.mono (fun r j _ _ q => .inl q)).trans ((q3.mono (fun r j _ _ q => by simp only [XL] at q ⊢; omega)).trans (z3.mono (fun r j _ _ q => by omega)))))))
    refine ⟨_, _, (chn t n 3 (lW t n 2 (lU t n 0 9999 (lW t n 1 st3)))).2, rfl, rfl, CS_sI p2 (by omega) (by omega) (by omega) (by omega), z2, uA.mono (fun r j _ _ q => by unfold XC; omega), wB.mono (fun r j _ _ q => ?_), fun q => ?_⟩
    · rcases q with q | q
      · exact .inl q
      · exact .inr (by unfold XW; omega)
    · have hl0 : lL (lW t n 2 (lU t n 0 9999 (lW t n 1 st3))) = true := chn_dn (show 0 ≤ 3 by omega) q
      have hl1 := lW_live hl0
      have hl3 := lW_live (lU_live hl1)
      obtain ⟨nm, mm⟩ := e8 hl3
      obtain ⟨c9a, -⟩ := c9 hl1
      have nX : ∀ r j, 213 ≤ r → ¬ XL r j := fun r j h q => by unfold XL at q; omega
      refine ⟨N + 1, M, K, JH_last hJ hN8 hP hS hS2 uA wB (fun r j _ _ q => by omega) (fun r j _ _ q => by unfold XL at q; omega) (by rw [gI_sI, if_pos ⟨rfl, rfl⟩]) ?_ ⟨?_, ⟨v, c8, ?_, ?_⟩, fun r => chf t n 3 r (lW t n 2 (lU t n 0 9999 (lW t n 1 st3))), chf3 q, fun r hr => ⟨?_, ?_⟩⟩ (fun j hj => z4 j (by omega) hj)⟩
      · rw [z3.i (by omega) (by omega) (by omega) (by omega), q3.i (by omega) (by omega) (by omega) (by unfold XL; omega), d6.i (by omega) (by omega) (by omega) (nX _ _ (by omega)), gI_sI, if_neg (by omega), c6.i (by omega) (by omega) (by omega) (nX _ _ (by omega)), b6.i (by omega) (by omega) (by omega) (nX _ _ (by omega))]
        exact mm
      · rw [gI_sI, if_neg (by omega), p3.i (by omega) (by omega) (by omega) (by omega), d5.i (by omega) (by omega) (by omega) (by omega), gI_sI, if_neg (by omega), c5.i (by omega) (by omega) (by omega) (by omega), b5.i (by omega) (by omega) (by omega) (by omega), z3.l (by omega) (by omega) (by omega) (by omega), q3.l (by omega) (by omega) (by omega) (by unfold XL; omega), d6.l (by omega) (by omega) (by omega) (nX _ _ (by omega)), gL_sI, c6.l (by omega) (by omega) (by omega) (nX _ _ (by omega)), b6.l (by omega) (by omega) (by omega) (nX _ _ (by omega))]
        rw [show 8 * 0 + N = N by omega] at nm
        exact nm
      · rw [gI_sI, if_neg (by omega), p3.i (by omega) (by omega) (by omega) (by omega), d5.i (by omega) (by omega) (by omega) (by omega), gI_sI, if_pos ⟨rfl, rfl⟩]
      · rw [z3.i (by omega) (by omega) (by omega) (by omega), q3.i (by omega) (by omega) (by omega) (by unfold XL; omega), d6.i (by omega) (by omega) (by omega) (nX _ _ (by omega)), gI_sI, if_pos ⟨rfl, rfl⟩, c9a]
      · rw [gI_sI, if_neg (by omega)]; exact p4 q r hr
      · rw [z3.i (by omega) (by omega) (by omega) (by omega)]; exact q4 q r hr
end
