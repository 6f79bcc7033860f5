/-! statements of a house, both at once: last -/
section
variable {t : Nat → Nat} {n : Nat} {α α' β β' γ : zS} {st : lx} {S N M K : Nat} {X Y : Nat → Nat → Prop}
theorem r_zero {k : Nat} (hk : k < 8) (b : Int32) : ∀ d i, d + i = 20 → ∀ β, RS β t n st → ∃ β', zR 6 208 41 [some (.ref 176), some (.int b), some (.int (nI k)), some (.int (nI i))] [] β = some (none, β') ∧ RS β' t n st ∧ Un (fun r j => r = 224 ∧ 20 * k + i ≤ j ∧ j < 20 * k + 20) β β' ∧ ∀ j, i ≤ j → j < 20 → gI β' 224 (20 * k + j) = 0 := by
  intro d
  induction d with
  | zero =>
    intro i hi β hR
    have : i = 20 := by omega
    subst this
    refine ⟨β, ?_, hR, Un.refl _ _, fun j _ _ => by omega⟩
    rw [q_X12_lastTold_41, if_pos (by decide)]
  | succ d ih =>
    intro i hi β hR
    have hS := RS_sh hR
    rw [q_X12_lastTold_41]
    simp -implicitDefEqProofs only [tg_sI, ln_sI, tg_sL, ln_sL, tg_sR, ln_sR, tg_sC, ln_sC, ai_sI, ai_sL, gL_sI, gR_sI, gI_sL, gR_sL, gI_sR, gL_sR, gI_sI, gL_sL, gR_sR, zlt_e, zln_e, zli_e, zll_e, zbI_e, zbL_e, zbR_e, zbV_e, zeR_e, zeN_s, zeN_n, Nat.reduceEqDiff, and_self, and_true, true_and, and_false, false_and, ite_true, ite_false, reduceIte, tg_176 hS, gR_176_57 hS]
    rw [if_neg (show ¬ (20 : Int32) ≤ nI i from nI_ge (b := 20) (by omega) (by omega)), show (20 : Int32) = nI 20 from rfl, pk_mul, nI_add, if_pos (ai_nI (.inl (tg_224 hS)) (ln_224 hS) (by omega) (by omega)), ixn (by omega), nI_1]
    obtain ⟨β', g1, g2, g3, g4⟩ := ih (i + 1) (by omega) _ (RS_sI (r := 224) (j := 20 * k + i) (v := 0) hR (by omega))
    refine ⟨β', g1, g2, (Un_sI (X := fun r j => r = 224 ∧ 20 * k + i ≤ j ∧ j < 20 * k + 20) ⟨rfl, by omega, by omega⟩).trans (g3.mono (fun r j _ _ q => by omega)), fun j h1 h2 => ?_⟩
    rcases Nat.eq_or_lt_of_le h1 with q | q
    · rw [g3.iA (by omega) (by omega) (by rw [tg_sI, tg_224 hS]; omega) (by omega), gI_sI, if_pos (by omega)]
    · exact g4 j q h2
theorem JH_last (h : JH α β S N M K) (hN : N < 8) (hP : HP S) (hS : Sh α) (hS2 : Sh β) (u : Un X α α') (w : Un Y β β') (hX : ∀ r j, S ≤ r → r < S + 44 → X r j → (r = S ∧ j = 5) ∨ (r = S + 8 + 2 * N ∧ j < 2) ∨ r = S + 9 + 2 * N) (hY : ∀ r j, 213 ≤ r → r < 225 → Y r j → (r = 213 ∧ j = N) ∨ (r = 214 ∧ j = 0) ∨ (r = 215 ∧ j = N) ∨ (r = 216 ∧ 3 * N ≤ j) ∨ (r = 224 ∧ 20 * N ≤ j)) (h5' : gI α' S 5 = nI (N + 1)) (hm : gI β' 214 0 = nI (N + 1)) (hL : JL α' β' S N) (hz : ∀ j, j < 20 → gI β' 224 (20 * N + j) = 0) : JH α' β' S (N + 1) M K := by
  have hb := HPb hP
  obtain ⟨h1, h2, h3, h4, h5, h6, h7, h8⟩ := h
  have n2 := h1.2.1.2.1
  have n3 := h1.2.2.2.1
  have nX : ∀ r j, S ≤ r → r < S + 44 → ¬ ((r = S ∧ j = 5) ∨ (r = S + 8 + 2 * N ∧ j < 2) ∨ r = S + 9 + 2 * N) → ¬ X r j := fun r j a b c d => c (hX r j a b d)
  have nY : ∀ r j, 213 ≤ r → r < 225 → ¬ ((r = 213 ∧ j = N) ∨ (r = 214 ∧ j = 0) ∨ (r = 215 ∧ j = N) ∨ (r = 216 ∧ 3 * N ≤ j) ∨ (r = 224 ∧ 20 * N ≤ j)) → ¬ Y r j := fun r j a b c d => c (hY r j a b d)
  refine ⟨⟨⟨h5', by omega, hm⟩, ⟨?_, n2, ?_⟩, ?_, n3, ?_⟩, JF_un h2 hP u w ⟨nX _ _ (by omega) (by omega) (by omega), nX _ _ (by omega) (by omega) (by omega), nX _ _ (by omega) (by omega) (by omega)⟩ (fun j _ => nY _ _ (by omega) (by omega) (by omega)), JP_un h3 hP u w (fun j => nX _ _ (by omega) (by omega) (by omega)) (fun j _ => nY _ _ (by omega) (by omega) (by omega)), fun k hk => ?_, fun k hk => JS_un (h5 k hk) (by omega) hP u w (fun j => ⟨nX _ _ (by omega) (by omega) (by omega), nX _ _ (by omega) (by omega) (by omega)⟩) ⟨nY _ _ (by omega) (by omega) (by omega), nY _ _ (by omega) (by omega) (by omega), nY _ _ (by omega) (by omega) (by omega), nY _ _ (by omega) (by omega) (by omega), fun d _ => nY _ _ (by omega) (by omega) (by omega)⟩, fun k hk => JQ_un (h6 k hk) (by omega) hP u w (fun j => ⟨nX _ _ (by omega) (by omega) (by omega), nX _ _ (by omega) (by omega) (by omega)⟩) ⟨nY _ _ (by omega) (by omega) (by omega), fun d _ => nY _ _ (by omega) (by omega) (by omega)⟩, ⟨fun j hj => ?_, fun j ha hb2 => ?_⟩, JZ_un h8 hP hS u ⟨fun j => nX _ _ (by omega) (by omega) (by omega), fun j => nX _ _ (by omega) (by omega) (by omega), fun k _ => nX _ _ (by omega) (by omega) (by omega)⟩⟩
  · rw [u.i (by omega) (by omega) (by omega) (nX _ _ (by omega) (by omega) (by omega))]; exact h1.2.1.1
  · rw [w.i (by omega) (by omega) (by omega) (nY _ _ (by omega) (by omega) (by omega))]; exact h1.2.1.2.2
  · rw [u.i (by omega) (by omega) (by omega) (nX _ _ (by omega) (by omega) (by omega))]; exact h1.2.2.1
  · rw [w.i (by omega) (by omega) (by omega) (nY _ _ (by omega) (by omega) (by omega))]; exact h1.2.2.2.2
  · rcases Nat.lt_or_ge k N with q | q
    · exact JL_un (h4 k q) (by omega) hP u w (fun j => ⟨nX _ _ (by omega) (by omega) (by omega), nX _ _ (by omega) (by omega) (by omega)⟩) ⟨nY _ _ (by omega) (by omega) (by omega), nY _ _ (by omega) (by omega) (by omega), fun r _ => nY _ _ (by omega) (by omega) (by omega)⟩
    · rw [show k = N by omega]; exact hL
  · rcases Nat.lt_or_ge j (20 * N) with q | q
    · obtain ⟨v, v1, v2, v3⟩ := h7.1 j q
      refine ⟨v, v1, ?_, ?_⟩
      · rw [u.iA (by omega) (by omega) (by rw [tg_P6 hS hP]; omega) (nX _ _ (by omega) (by omega) (by omega))]; exact v2
      · rw [w.iA (by omega) (by omega) (by rw [tg_224 hS2]; omega) (nY _ _ (by omega) (by omega) (by omega))]; exact v3
    · refine ⟨0, by omega, ?_, ?_⟩
      · rw [u.iA (by omega) (by omega) (by rw [tg_P6 hS hP]; omega) (nX _ _ (by omega) (by omega) (by omega))]; exact h7.2 j q (by omega)
      · have := hz (j - 20 * N) (by omega)
        rw [show 20 * N + (j - 20 * N) = j by omega] at this
        exact this
  · rw [u.iA (by omega) (by omega) (by rw [tg_P6 hS hP]; omega) (nX _ _ (by omega) (by omega) (by omega))]; exact h7.2 j (by omega) hb2
theorem chn_dn {st : lx} : ∀ {i N : Nat}, i ≤ N → lL (chn t n N st).2 = true → lL (chn t n i st).2 = true := by
  intro i N hi h
  induction N with
  | zero => rw [show i = 0 by omega]; exact h
  | succ N ih =>
    rcases Nat.lt_or_ge i (N + 1) with q | q
    · exact ih (by omega) (chn_live h)
    · rw [show i = N + 1 by omega]; exact h
theorem chn_step {st : lx} {i : Nat} (h : lL (chn t n (i + 1) st).2 = true) : (chn t n (i + 1) st).1 + lUv t n (chn t n i st).2 = (chn t n i st).1 := by
  have h2 : lL (lU t n 0 (chn t n i st).1 (chn t n i st).2) = true := h
  have := (lU_hi h2).2
  show (chn t n i st).1 - (if lL (lU t n 0 (chn t n i st).1 (chn t n i st).2) = true then lUv t n (chn t n i st).2 else 0) + _ = _
  rw [if_pos h2]
  omega
theorem chf3 {st : lx} (h : lL (chn t n 3 st).2 = true) : chf t n 3 0 st + chf t n 3 1 st + chf t n 3 2 st = 100 := by
  have a : (chn t n 3 st).1 + lUv t n (chn t n 2 st).2 = (chn t n 2 st).1 := chn_step (i := 2) h
  have b : (chn t n 2 st).1 + lUv t n (chn t n 1 st).2 = (chn t n 1 st).1 := chn_step (i := 1) (chn_dn (show 2 ≤ 3 by omega) h)
  have c : (chn t n 1 st).1 + lUv t n (chn t n 0 st).2 = (chn t n 0 st).1 := chn_step (i := 0) (chn_dn (show 1 ≤ 3 by omega) h)
  have d : (chn t n 0 st).1 = 100 := rfl
  unfold chf
  simp
  omega
theorem chf5 {st : lx} (h : lL (chn t n 5 st).2 = true) : chf t n 5 0 st + chf t n 5 1 st + chf t n 5 2 st + chf t n 5 3 st + chf t n 5 4 st = 100 := by
  have a : (chn t n 5 st).1 + lUv t n (chn t n 4 st).2 = (chn t n 4 st).1 := chn_step (i := 4) h
  have b : (chn t n 4 st).1 + lUv t n (chn t n 3 st).2 = (chn t n 3 st).1 := chn_step (i := 3) (chn_dn (show 4 ≤ 5 by omega) h)
  have c : (chn t n 3 st).1 + lUv t n (chn t n 2 st).2 = (chn t n 2 st).1 := chn_step (i := 2) (chn_dn (show 3 ≤ 5 by omega) h)
  have d : (chn t n 2 st).1 + lUv t n (chn t n 1 st).2 = (chn t n 1 st).1 := chn_step (i := 1) (chn_dn (show 2 ≤ 5 by omega) h)
  have e : (chn t n 1 st).1 + lUv t n (chn t n 0 st).2 = (chn t n 0 st).1 := chn_step (i := 0) (chn_dn (show 1 ≤ 5 by omega) h)
  have f : (chn t n 0 st).1 = 100 := rfl
  unfold chf
  simp
  omega
end
