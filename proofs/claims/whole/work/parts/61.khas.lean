/-! statements of a house, both at once: ask -/
section
variable {t : Nat → Nat} {n : Nat} {α α' β β' γ : zS} {st : lx} {S N M K : Nat} {X Y : Nat → Nat → Prop}
theorem c_start {s e : Nat} (h : CS α t n (.inl (s, e))) : zM 95 [.ref 8] α = some (some (.int (nI s)), α) := by
  rw [q_X10_start, tg_8 (CS_sh h), if_pos rfl, h.2.2.1.1]
theorem r_isFull {s e a b p : Nat} (h : RS β t n (.inl (s, e))) (ha : a < 100) (hb : b < 100) (hp : p < 2000) : (a ≠ b → zM 206 [.ref 176, .int (nI a), .int (nI b), .int (nI p)] β = some (some (.int 0), β)) ∧ (a = b → ∃ β', zM 206 [.ref 176, .int (nI a), .int (nI b), .int (nI p)] β = some (some (.int 1), β') ∧ RS β' t n (.inr (5, p)) ∧ Un XL β β') := by
  have hS := RS_sh h
  obtain ⟨β', f1, f2⟩ := r_fail h (f := 5) (p := p) (by decide) (by decide) hp
  have f1 : zM 191 [.ref 176, .int 5, .int (nI p)] β = some (none, β') := f1
  have f2 : RS β' t n (.inr (5, p)) := f2
  rw [q_X12_isFull]
  simp -implicitDefEqProofs only [tg_sI, ln_sI, tg_sL, ln_sL, tg_sR, ln_sR, tg_sC, ln_sC, ai_sI, ai_sL, gL_sI, gR_sI, gI_sL, gR_sL, gI_sR, gL_sR, gI_sI, gL_sL, gR_sR, zlt_e, zln_e, zli_e, zll_e, zbI_e, zbL_e, zbR_e, zbV_e, zeR_e, zeN_s, zeN_n, Nat.reduceEqDiff, and_self, and_true, true_and, and_false, false_and, ite_true, ite_false, reduceIte, tg_176 hS, bad_live h, f1, tg_176 (RS_sh f2)]
  constructor
  · intro q
    rw [if_neg (fun z => q ((nI_eq (by omega) (by omega)).mp z))]
  · intro q
    rw [if_pos (by rw [q]), if_neg (RS_d f2)]
    exact ⟨_, rfl, f2, Un_ref hS f1 rfl (by decide +kernel)⟩
theorem JH_ask (h : JH α β S N M K) (hK : K < 6) (hP : HP S) (hS : Sh α) (hS2 : Sh β) (u : Un X α α') (w : Un Y β β') (hX : ∀ r j, S ≤ r → r < S + 44 → X r j → (r = S ∧ j = 7) ∨ r = S + 32 + 2 * K ∨ r = S + 33 + 2 * K) (hY : ∀ r j, 213 ≤ r → r < 225 → Y r j → (r = 213 ∧ j = 16 + K) ∨ (r = 214 ∧ j = 2) ∨ (r = 221 ∧ 5 * K ≤ j)) (h7 : gI α' S 7 = nI (K + 1)) (hm : gI β' 214 2 = nI (K + 1)) (hQ : JQ α' β' S K) : JH α' β' S N M (K + 1) := by
  have hb := HPb hP
  obtain ⟨h1, h2, h3, h4, h5, h6, h7', h8⟩ := h
  have n1 := h1.1.2.1
  have n2 := h1.2.1.2.1
  have nX : ∀ r j, S ≤ r → r < S + 44 → ¬ ((r = S ∧ j = 7) ∨ r = S + 32 + 2 * K ∨ r = S + 33 + 2 * K) → ¬ X r j := fun r j a b c d => c (hX r j a b d)
  have nY : ∀ r j, 213 ≤ r → r < 225 → ¬ ((r = 213 ∧ j = 16 + K) ∨ (r = 214 ∧ j = 2) ∨ (r = 221 ∧ 5 * K ≤ j)) → ¬ Y r j := fun r j a b c d => c (hY r j a b d)
  refine ⟨⟨⟨?_, n1, ?_⟩, ⟨?_, n2, ?_⟩, h7, by omega, hm⟩, JF_un h2 hP u w ⟨nX _ _ (by omega) (by omega) (by omega), nX _ _ (by omega) (by omega) (by omega), nX _ _ (by omega) (by omega) (by omega)⟩ (fun j _ => nY _ _ (by omega) (by omega) (by omega)), JP_un h3 hP u w (fun j => nX _ _ (by omega) (by omega) (by omega)) (fun j _ => nY _ _ (by omega) (by omega) (by omega)), fun k hk => JL_un (h4 k hk) (by omega) hP u w (fun j => ⟨nX _ _ (by omega) (by omega) (by omega), nX _ _ (by omega) (by omega) (by omega)⟩) ⟨nY _ _ (by omega) (by omega) (by omega), nY _ _ (by omega) (by omega) (by omega), fun r _ => nY _ _ (by omega) (by omega) (by omega)⟩, fun k hk => JS_un (h5 k hk) (by omega) hP u w (fun j => ⟨nX _ _ (by omega) (by omega) (by omega), nX _ _ (by omega) (by omega) (by omega)⟩) ⟨nY _ _ (by omega) (by omega) (by omega), nY _ _ (by omega) (by omega) (by omega), nY _ _ (by omega) (by omega) (by omega), nY _ _ (by omega) (by omega) (by omega), fun d _ => nY _ _ (by omega) (by omega) (by omega)⟩, fun k hk => ?_, JT_un h7' n1 hP hS hS2 u w (fun j => nX _ _ (by omega) (by omega) (by omega)) (fun j _ => nY _ _ (by omega) (by omega) (by omega)), JZ_un h8 hP hS u ⟨fun j => nX _ _ (by omega) (by omega) (by omega), fun j => nX _ _ (by omega) (by omega) (by omega), fun k _ => nX _ _ (by omega) (by omega) (by omega)⟩⟩
  · rw [u.i (by omega) (by omega) (by omega) (nX _ _ (by omega) (by omega) (by omega))]; exact h1.1.1
  · rw [w.i (by omega) (by omega) (by omega) (nY _ _ (by omega) (by omega) (by omega))]; exact h1.1.2.2
  · rw [u.i (by omega) (by omega) (by omega) (nX _ _ (by omega) (by omega) (by omega))]; exact h1.2.1.1
  · rw [w.i (by omega) (by omega) (by omega) (nY _ _ (by omega) (by omega) (by omega))]; exact h1.2.1.2.2
  · rcases Nat.lt_or_ge k K with q | q
    · exact JQ_un (h6 k q) (by omega) hP u w (fun j => ⟨nX _ _ (by omega) (by omega) (by omega), nX _ _ (by omega) (by omega) (by omega)⟩) ⟨nY _ _ (by omega) (by omega) (by omega), fun d _ => nY _ _ (by omega) (by omega) (by omega)⟩
    · rw [show k = K by omega]; exact hQ
theorem j_ask {s e : Nat} (hP : HP S) (hC : CS α t n (.inl (s, e))) (hw : lw t n (.inl (s, e)) < 35) (hR : RS β t n (la t n (.inl (s, e)))) (hJ : JH α β S N M K) : ∃ α' β' st', zM 12 [.ref 11, .ref S] α = some (none, α') ∧ zM 210 [.ref 176, .int (nI s)] β = some (none, β') ∧ JR t n S α β α' β' st' := by
  have hb := HPb hP
  have hS := CS_sh hC
  have hS2 := RS_sh hR
  have hs : s < 2000 := by have := hC.2.1.1; have := hC.1.2.1; omega
  have hN := hJ.1
  have k6 := hN.2.2.2.1
  have hR' : RS β t n (.inl (tkS t n s, tkG t n s e)) := hR
  obtain ⟨fn, ff⟩ := r_isFull (a := K) (b := 6) (p := s) hR' (by omega) (by omega) hs
  rw [q_X1_readAsk, q_X12_askTold]
  simp -implicitDefEqProofs only [tg_sI, ln_sI, tg_sL, ln_sL, tg_sR, ln_sR, tg_sC, ln_sC, ai_sI, ai_sL, gL_sI, gR_sI, gI_sL, gR_sL, gI_sR, gL_sR, gI_sI, gL_sL, gR_sR, zlt_e, zln_e, zli_e, zll_e, zbI_e, zbL_e, zbR_e, zbV_e, zeR_e, zeN_s, zeN_n, Nat.reduceEqDiff, and_self, and_true, true_and, and_false, false_and, ite_true, ite_false, reduceIte, tg_P hS hP, tg_176 hS2, gR_176_47 hS2, hN.2.2.1]
  rw [if_pos (show ai β 32 48 214 2 = true from ai_nI (k := 2) (.inl (tg_214 hS2)) (ln_214 hS2) (by omega) (by omega)), show gI β 214 (ix 2) = nI K from hN.2.2.2.2, show (6 : Int32) = nI 6 from rfl]
  by_cases hK : K = 6
  · obtain ⟨β', g1, g2, g3⟩ := ff hK
    obtain ⟨α', f1, f2⟩ := c_failHere hC (f := 5) (by decide) (by decide)
    have f1 : zM 107 [.ref 8, .int 5] α = some (none, α') := f1
    rw [if_neg (show ¬ nI K < nI 6 from nI_nlt (by omega) (by omega)), g1]
    simp -implicitDefEqProofs only [tg_sI, ln_sI, tg_sL, ln_sL, tg_sR, ln_sR, tg_sC, ln_sC, ai_sI, ai_sL, gL_sI, gR_sI, gI_sL, gR_sL, gI_sR, gL_sR, gI_sI, gL_sL, gR_sR, zlt_e, zln_e, zli_e, zll_e, zbI_e, zbL_e, zbR_e, zbV_e, zeR_e, zeN_s, zeN_n, Nat.reduceEqDiff, and_self, and_true, true_and, and_false, false_and, ite_true, ite_false, reduceIte, tg_11 hS, gR_11_0 hS, tg_8 hS, f1]
    rw [if_neg (show ¬ (1 : Int32) = 0 by decide)]
    exact ⟨_, _, .inr (5, s), rfl, rfl, f2, g2, (Un_tok hS f1 rfl (by decide +kernel)).mono (fun r j _ _ q => .inl q), g3.mono (fun r j _ _ q => .inl q), fun q => by cases q⟩
  · obtain ⟨α1, a1, a2⟩ := c_advW hC hw
    have hS1 := CS_sh a2
    have u1 := Un_tok hS a1 rfl (by decide +kernel)
    have a2' : CS α1 t n (.inl (tkS t n s, tkG t n s e)) := a2
    have hJ1 := JH_rd hJ hP hS hS2 u1 (Un.refl XL β)
    rw [if_pos (show nI K < nI 6 from nI_lt (by omega) (by omega)), fn hK]
    simp -implicitDefEqProofs only [tg_sI, ln_sI, tg_sL, ln_sL, tg_sR, ln_sR, tg_sC, ln_sC, ai_sI, ai_sL, gL_sI, gR_sI, gI_sL, gR_sL, gI_sR, gL_sR, gI_sI, gL_sL, gR_sR, zlt_e, zln_e, zli_e, zll_e, zbI_e, zbL_e, zbR_e, zbV_e, zeR_e, zeN_s, zeN_n, Nat.reduceEqDiff, and_self, and_true, true_and, and_false, false_and, ite_true, ite_false, reduceIte, tg_11 hS, gR_11_0 hS, tg_8 hS, a1, tg_P hS1 hP, gR_P_2 hS1 hP, hJ1.1.2.2.1]
    rw [if_pos (ai_nI (.inl (tg_P3 hS1 hP)) (ln_P3 hS1 hP) (by omega) (by omega)), ixn (by omega)]
    simp -implicitDefEqProofs only [tg_sI, ln_sI, tg_sL, ln_sL, tg_sR, ln_sR, tg_sC, ln_sC, ai_sI, ai_sL, gL_sI, gR_sI, gI_sL, gR_sL, gI_sR, gL_sR, gI_sI, gL_sL, gR_sR, zlt_e, zln_e, zli_e, zll_e, zbI_e, zbL_e, zbR_e, zbV_e, zeR_e, zeN_s, zeN_n, Nat.reduceEqDiff, and_self, and_true, true_and, and_false, false_and, ite_true, ite_false, reduceIte, gR_Pquest hS1 hP (show K < 6 by omega), tg_11 hS1, gR_11_0 hS1, tg_8 hS1, c_start a2', tg_176 hS2]
    obtain ⟨x, α2, α3, β3, st3, e1, hS2', e2, e3, e4, e5, e6, e7, e8⟩ := j_name (kd := 2) (c := K) (Q := S + 32 + 2 * K) hP a2' hR' hJ1 (by omega) (by omega) hN.2.2.2.2 (by omega) (by omega) (by intro k hk; have := hN.1.2.1; omega) (by intro k hk; have := hN.2.1.2.1; omega) (by intro k hk; omega)
    have e3 : zM 205 [.ref 176, .int 2] β = some (some (.int (nI K)), β3) := e3
    have hS3 := CS_sh e4
    have hS3b := RS_sh e5
    obtain ⟨α4, b1, b2, b3, b4⟩ := c_hund (t := t) (n := n) (A := S + 33 + 2 * K) 5 (by omega) (by omega) (by omega) (fun σ h => tg_Pyes h hP (by omega)) (fun σ h => ln_Pyes h hP (by omega)) st3 5 0 rfl α3 e4 (fun _ j hj => by omega)
    obtain ⟨β4, d1, d2, d3, d4⟩ := r_hund_a (t := t) (n := n) (k := K) (by omega) (nI s) st3 5 0 rfl β3 e5 (fun _ j hj => by omega)
    have hS4 := CS_sh b2
    rw [q_X1_readAsk_22, e3]
    simp -implicitDefEqProofs only [tg_sI, ln_sI, tg_sL, ln_sL, tg_sR, ln_sR, tg_sC, ln_sC, ai_sI, ai_sL, gL_sI, gR_sI, gI_sL, gR_sL, gI_sR, gL_sR, gI_sI, gL_sL, gR_sR, zlt_e, zln_e, zli_e, zll_e, zbI_e, zbL_e, zbR_e, zbV_e, zeR_e, zeN_s, zeN_n, Nat.reduceEqDiff, and_self, and_true, true_and, and_false, false_and, ite_true, ite_false, reduceIte, tg_11 hS1, gR_11_0 hS1, tg_8 hS1, e1, tg_Pquest hS2' hP (show K < 6 by omega), tg_11 hS2', e2, tg_Pquest hS3 hP (show K < 6 by omega), gR_Pyes hS3 hP (show K < 6 by omega), tg_11 hS3, q_X1_takeHundreds]
    have b1 : zR 4 14 2 [some (.ref 11), some (.ref (S + 33 + 2 * K)), some (.int 0)] [] α3 = some (none, α4) := b1
    have d1 : zR 6 210 16 [some (.ref 176), some (.int (nI s)), some (.int (nI K)), some (.int 0)] [] β3 = some (none, β4) := d1
    rw [b1, d1]
    simp -implicitDefEqProofs only [tg_sI, ln_sI, tg_sL, ln_sL, tg_sR, ln_sR, tg_sC, ln_sC, ai_sI, ai_sL, gL_sI, gR_sI, gI_sL, gR_sL, gI_sR, gL_sR, gI_sI, gL_sL, gR_sR, zlt_e, zln_e, zli_e, zll_e, zbI_e, zbL_e, zbR_e, zbV_e, zeR_e, zeN_s, zeN_n, Nat.reduceEqDiff, and_self, and_true, true_and, and_false, false_and, ite_true, ite_false, reduceIte, q_X1_readAsk_37, tg_P hS4 hP]
    have h47 : gI α4 S 7 = nI K := by
      rw [b3.i (by omega) (by omega) (by omega) (by omega), e6.i (by omega) (by omega) (by omega) (by omega)]
      exact hJ1.1.2.2.1
    rw [h47, nI_1]
    have uA : Un (fun r j => r = 8 ∨ r = S + 32 + 2 * K ∨ r = S + 33 + 2 * K ∨ (r = S ∧ j = 7)) α (sI α4 S 7 (nI (K + 1))) := ((u1.mono (fun r j _ _ q => .inl q)).trans ((e6.mono (fun r j _ _ q => by omega)).trans (b3.mono (fun r j _ _ q => by omega)))).trans (Un_sI (by omega))
    have wB : Un (fun r j => XL r j ∨ (r = 213 ∧ j = 16 + K) ∨ (r = 214 ∧ j = 2) ∨ (r = 221 ∧ 5 * K ≤ j ∧ j < 5 * K + 5)) β β4 := (e7.mono (fun r j _ _ q => by simp only [XL] at q ⊢; omega)).trans (d3.mono (fun r j _ _ q => by simp only [XL] at q ⊢; omega))
    refine ⟨_, _, hun t n 5 st3, rfl, rfl, CS_sI b2 (by omega) (by omega) (by omega) (by omega), d2, uA.mono (fun r j _ _ q => by unfold XC; omega), wB.mono (fun r j _ _ q => ?_), fun q => ?_⟩
    · rcases q with q | q
      · exact .inl q
      · exact .inr (by unfold XW; omega)
    · have hl3 : lL st3 = true := hun_dn (show 0 ≤ 5 by omega) q
      obtain ⟨nm, mm⟩ := e8 hl3
      refine ⟨N, M, K + 1, JH_ask hJ (by omega) hP hS hS2 uA wB (fun r j _ _ q => by omega) (fun r j _ _ q => by unfold XL at q; omega) (by rw [gI_sI, if_pos ⟨rfl, rfl⟩]) ?_ ⟨?_, fun d => lUv t n (hun t n d st3), fun d hd => ⟨hun_hi (hun_dn (show d + 1 ≤ 5 by omega) q), ?_, d4 q d hd⟩⟩⟩
      · rw [d3.i (by omega) (by omega) (by omega) (by unfold XL; omega)]; exact mm
      · rw [gI_sI, if_neg (by omega), b3.i (by omega) (by omega) (by omega) (by omega), d3.l (by omega) (by omega) (by omega) (by unfold XL; omega)]
        exact nm
      · rw [gI_sI, if_neg (by omega)]; exact b4 q d hd
end
