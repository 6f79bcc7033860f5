/-! loops; rows that are filled; the class's house cleared -/
theorem lp_run {γ : Type} {F : Nat → γ → zO} (I : Nat → γ → Prop) (N : Nat) (hs : ∀ i g, i < N → I i g → ∃ g', F i g = F (i + 1) g' ∧ I (i + 1) g') (g : γ) (h0 : I 0 g) : ∃ g', F 0 g = F N g' ∧ I N g' := by
  have : ∀ i, i ≤ N → ∃ g', F 0 g = F i g' ∧ I i g' := by
    intro i
    induction i with
    | zero => intro _; exact ⟨g, rfl, h0⟩
    | succ i ih =>
      intro hi
      obtain ⟨g1, e1, h1⟩ := ih (by omega)
      obtain ⟨g2, e2, h2⟩ := hs i g1 (by omega) h1
      exact ⟨g2, e1.trans e2, h2⟩
  exact this N (Nat.le_refl _)
theorem lp_seq {G : Nat → zO} (N : Nat) (h : ∀ i, i < N → G i = G (i + 1)) : G 0 = G N := by
  have : ∀ i, i ≤ N → G 0 = G i := by
    intro i
    induction i with
    | zero => intro _; rfl
    | succ i ih => intro hi; exact (ih (by omega)).trans (h i (by omega))
  exact this N (Nat.le_refl _)
section
variable {t : Nat → Nat} {n : Nat} {α α' β β' γ : zS} {st : lx} {S N M K : Nat} {X Y : Nat → Nat → Prop}
/-- Arrays.fill of a row of N ints -/
theorem c_fill {A : Nat} (v : Int32) (ht : tg α A = 32) (hl : ln α A = N) (hN : N < 2 ^ 31) (hA : A < 253 := by omega) : ∃ α', zM 335 [.ref A, .int v] α = some (none, α') ∧ Un (fun r j => r = A ∧ j < N) α α' ∧ (∀ j, j < N → gI α' A j = v) ∧ (∀ r, tg α' r = tg α r) ∧ (∀ r, ln α' r = ln α r) := by
  rw [q_J7_fill_53178, ht, if_pos (by decide), hl]
  have e : Int32.ofNat N = nI N := rfl
  rw [e]
  obtain ⟨α1, e1, ⟨h1, h2, h3, h4⟩⟩ := lp_run (F := fun i (σ : zS) => zR 1 335 5 [some (.ref A), some (.int v), some (.int (nI i)), some (.int (nI N))] [] σ) (fun i σ => Un (fun r j => r = A ∧ j < N) α σ ∧ (∀ j, j < i → gI σ A j = v) ∧ (∀ r, tg σ r = tg α r) ∧ (∀ r, ln σ r = ln α r)) N (by
    intro i σ hi ⟨h1, h2, h3, h4⟩
    refine ⟨sI σ A i v, ?_, h1.trans (Un_sI ⟨rfl, hi⟩), fun j hj => ?_, fun r => h3 r, fun r => h4 r⟩
    · rw [q_J7_fill_53178_5, if_neg (nI_ge hi hN), if_pos (ai_nI (.inl (by rw [h3, ht])) (by rw [h4, hl]) hi hN), ixn (by omega), nI_1]
      rfl
    · rw [gI_sI]
      split
      · rfl
      · exact h2 j (by omega)) α ⟨Un.refl _ _, fun j hj => by omega, fun _ => rfl, fun _ => rfl⟩
  refine ⟨α1, ?_, h1, h2, h3, h4⟩
  have e1 : zR 1 335 5 [some (.ref A), some (.int v), some (.int 0), some (.int (nI N))] [] α = zR 1 335 5 [some (.ref A), some (.int v), some (.int (nI N)), some (.int (nI N))] [] α1 := e1
  rw [e1, q_J7_fill_53178_5, if_pos (nI_le (Nat.le_refl _) hN)]
theorem c_sclear (hS : Sh α) (hP : HP S) : ∃ α', zM 80 [.ref (S + 5)] α = some (none, α') ∧ Un (fun r _ => r = S + 5 ∨ r = S + 6 ∨ r = S + 7) α α' ∧ (∀ j, j < 160 → gI α' (S + 6) j = 0) ∧ (∀ j, j < 1120 → gI α' (S + 7) j = 0) ∧ gI α' (S + 5) 2 = 0 ∧ gI α' (S + 5) 3 = 0 := by
  have hb := HPb hP
  obtain ⟨α1, f1, f2, f3, -⟩ := c_fill (α := α) (A := S + 6) 0 (tg_P6 hS hP) (ln_P6 hS hP) (by omega)
  have hS1 : Sh α1 := zM_sh rfl hS f1
  obtain ⟨α2, g1, g2, g3, -⟩ := c_fill (α := α1) (A := S + 7) 0 (tg_P7 hS1 hP) (ln_P7 hS1 hP) (by omega)
  have hS2 : Sh α2 := zM_sh rfl hS1 g1
  refine ⟨sI (sI α2 (S + 5) 2 0) (S + 5) 3 0, ?_, ?_, ?_, ?_, ?_, ?_⟩
  · rw [q_X9_clear]
    simp -implicitDefEqProofs only [tg_sI, ln_sI, tg_sL, ln_sL, tg_sR, ln_sR, tg_sC, ln_sC, ai_sI, ai_sL, gL_sI, gR_sI, gI_sL, gR_sL, gI_sR, gL_sR, gI_sI, gL_sL, gR_sR, zlt_e, zln_e, zli_e, zll_e, zbI_e, zbL_e, zbR_e, zbV_e, zeR_e, zeN_s, zeN_n, Nat.reduceEqDiff, and_self, and_true, true_and, and_false, false_and, ite_true, ite_false, reduceIte, tg_P5 hS hP, gR_P5_0 hS hP, f1, tg_P5 hS1 hP, gR_P5_1 hS1 hP, g1, tg_P5 hS2 hP]
  · exact (f2.mono (fun r j _ _ q => by omega)).trans ((g2.mono (fun r j _ _ q => by omega)).trans ((Un_sI (by omega)).trans (Un_sI (by omega))))
  · intro j hj
    rw [gI_sI, if_neg (by omega), gI_sI, if_neg (by omega), g2.iA (by omega) (by omega) (by rw [tg_P6 hS1 hP]; omega) (by omega)]
    exact f3 j hj
  · intro j hj
    rw [gI_sI, if_neg (by omega), gI_sI, if_neg (by omega)]
    exact g3 j hj
  · rw [gI_sI, if_neg (by omega), gI_sI, if_pos ⟨rfl, rfl⟩]
  · rw [gI_sI, if_pos ⟨rfl, rfl⟩]
theorem c_clear (hS : Sh α) (hP : HP S) : ∃ α', zM 1 [.ref S] α = some (none, α') ∧ Un (fun r _ => S ≤ r ∧ r < S + 44) α α' ∧ JZ α' S ∧ (∀ j, j < 160 → gI α' (S + 6) j = 0) ∧ (∀ d, d < 5 → gI α' (S + 4) d = 0) ∧ (∀ j, 5 ≤ j → j < 11 → gI α' S j = 0) := by
  have hb := HPb hP
  have hS0 : Sh (sI (sI (sI (sI (sI (sI α S 5 0) S 6 0) S 7 0) S 8 0) S 9 0) S 10 0) := (((((hS.sI (by omega)).sI (by omega)).sI (by omega)).sI (by omega)).sI (by omega)).sI (by omega)
  obtain ⟨α1, f1, f2, f3, -⟩ := c_fill (α := sI (sI (sI (sI (sI (sI α S 5 0) S 6 0) S 7 0) S 8 0) S 9 0) S 10 0) (A := S + 4) 0 (tg_P4 hS0 hP) (ln_P4 hS0 hP) (by omega)
  have hS1 : Sh α1 := zM_sh rfl hS0 f1
  obtain ⟨α2, g1, g2, g3, g4, g5, g6⟩ := c_sclear hS1 hP
  have hS2 : Sh α2 := zM_sh rfl hS1 g1
  have w0 : Un (fun r j => r = S ∧ 5 ≤ j ∧ j < 11) α (sI (sI (sI (sI (sI (sI α S 5 0) S 6 0) S 7 0) S 8 0) S 9 0) S 10 0) := (Un_sI (by omega)).trans ((Un_sI (by omega)).trans ((Un_sI (by omega)).trans ((Un_sI (by omega)).trans ((Un_sI (by omega)).trans (Un_sI (by omega))))))
  obtain ⟨α3, e1, k1, k2, k3⟩ := lp_run (F := fun i (σ : zS) => zR 3 1 27 [some (.ref S), some (.int (nI i))] [] σ) (fun i σ => Un (fun r j => (S + 8 ≤ r ∧ r < S + 24) ∧ j = 3) α2 σ ∧ (∀ k, k < i → gI σ (S + 8 + 2 * k) 3 = -1) ∧ Sh σ) 8 (by
    intro i σ hi ⟨h1, h2, h3⟩
    refine ⟨sI σ (S + 8 + 2 * i) 3 (-1), ?_, h1.trans (Un_sI (by omega)), fun j hj => ?_, h3.sI (by omega)⟩
    · rw [q_X0_clear_27, if_neg (show ¬ (8 : Int32) ≤ nI i from nI_ge (b := 8) hi (by omega))]
      simp -implicitDefEqProofs only [tg_sI, ln_sI, tg_sL, ln_sL, tg_sR, ln_sR, tg_sC, ln_sC, ai_sI, ai_sL, gL_sI, gR_sI, gI_sL, gR_sL, gI_sR, gL_sR, gI_sI, gL_sL, gR_sR, zlt_e, zln_e, zli_e, zll_e, zbI_e, zbL_e, zbR_e, zbV_e, zeR_e, zeN_s, zeN_n, Nat.reduceEqDiff, and_self, and_true, true_and, and_false, false_and, ite_true, ite_false, reduceIte, tg_P h3 hP, gR_P_0 h3 hP]
      rw [if_pos (ai_nI (.inl (tg_P1 h3 hP)) (ln_P1 h3 hP) hi (by omega)), ixn (by omega), gR_Plast h3 hP hi]
      simp -implicitDefEqProofs only [tg_sI, ln_sI, tg_sL, ln_sL, tg_sR, ln_sR, tg_sC, ln_sC, ai_sI, ai_sL, gL_sI, gR_sI, gI_sL, gR_sL, gI_sR, gL_sR, gI_sI, gL_sL, gR_sR, zlt_e, zln_e, zli_e, zll_e, zbI_e, zbL_e, zbR_e, zbV_e, zeR_e, zeN_s, zeN_n, Nat.reduceEqDiff, and_self, and_true, true_and, and_false, false_and, ite_true, ite_false, reduceIte, tg_Plast h3 hP hi]
      rw [nI_1]
    · rw [gI_sI]
      split
      · rfl
      · exact h2 j (by omega)) α2 ⟨Un.refl _ _, fun j hj => by omega, hS2⟩
  have e1 : zR 3 1 27 [some (.ref S), some (.int 0)] [] α2 = zR 3 1 27 [some (.ref S), some (.int 8)] [] α3 := e1
  refine ⟨α3, ?_, ?_, ⟨?_, ?_, ?_, k2⟩, ?_, ?_, ?_⟩
  · rw [q_X0_clear]
    simp -implicitDefEqProofs only [tg_sI, ln_sI, tg_sL, ln_sL, tg_sR, ln_sR, tg_sC, ln_sC, ai_sI, ai_sL, gL_sI, gR_sI, gI_sL, gR_sL, gI_sR, gL_sR, gI_sI, gL_sL, gR_sR, zlt_e, zln_e, zli_e, zll_e, zbI_e, zbL_e, zbR_e, zbV_e, zeR_e, zeN_s, zeN_n, Nat.reduceEqDiff, and_self, and_true, true_and, and_false, false_and, ite_true, ite_false, reduceIte, tg_P hS hP, gR_P_3 hS hP, f1, q_X0_clear_22, tg_P hS1 hP, gR_P_4 hS1 hP, tg_P5 hS1 hP, g1, e1]
    rw [q_X0_clear_27, if_pos (by decide)]
  · exact (w0.mono (fun r j _ _ q => by omega)).trans ((f2.mono (fun r j _ _ q => by omega)).trans ((g2.mono (fun r j _ _ q => by omega)).trans (k1.mono (fun r j _ _ q => by omega))))
  · intro j hj
    rw [k1.iA (by omega) (by omega) (by rw [tg_P7 hS2 hP]; omega) (by omega)]; exact g4 j hj
  · rw [k1.i (by omega) (by omega) (by omega) (by omega)]; exact g5
  · rw [k1.i (by omega) (by omega) (by omega) (by omega)]; exact g6
  · intro j hj
    rw [k1.iA (by omega) (by omega) (by rw [tg_P6 hS2 hP]; omega) (by omega)]; exact g3 j hj
  · intro j hj
    rw [k1.i (by omega) (by omega) (by omega) (by omega), g2.i (by omega) (by omega) (by omega) (by omega)]; exact f3 j hj
  · intro j h1 h2
    rw [k1.i (by omega) (by omega) (by omega) (by omega), g2.i (by omega) (by omega) (by omega) (by omega), f2.i (by omega) (by omega) (by omega) (by omega)]
    rcases (show j = 5 ∨ j = 6 ∨ j = 7 ∨ j = 8 ∨ j = 9 ∨ j = 10 by omega) with rfl | rfl | rfl | rfl | rfl | rfl <;> simp [gI_sI]
/-- what leaves tape, tokens and own names alone leaves the class's reading -/
theorem CS_un (h : CS α t n st) (hS : Sh α') (u : Un X α α') (hX : ∀ r j, r = 7 ∨ r = 8 ∨ r = 9 → ¬ X r j) : CS α' t n st := by
  obtain ⟨⟨a, b, c, d, e, f, g⟩, ho, h⟩ := h
  have g8 : ∀ j, j < 100 → gI α' 8 j = gI α 8 j := fun j hj => u.i (by omega) (by omega) hj (hX _ _ (by omega))
  refine ⟨⟨hS, b, c, fun j => ?_, ?_, ?_, fun i hi => ?_⟩, ho, ?_⟩
  · rw [u.iA (by omega) (by omega) (by rw [tg_7 a]; omega) (hX _ _ (by omega))]; exact d j
  · rw [u.r (by omega) (by omega) (by omega) (hX _ _ (by omega))]; exact e
  · rw [g8 _ (by omega)]; exact f
  · rw [u.iA (by omega) (by omega) (by rw [tg_9 a]; omega) (hX _ _ (by omega))]; exact g i hi
  · match st, h with
    | .inl (s, e), h =>
      obtain ⟨⟨d1, d2, d3, d4, d5⟩, a, b⟩ := h
      refine ⟨⟨?_, ?_, ?_, ?_, ?_⟩, ?_, ?_⟩ <;> rw [g8 _ (by omega)] <;> (try rw [g8 3 (by omega)]) <;> (try rw [g8 6 (by omega)]) <;> (try rw [g8 7 (by omega)]) <;> assumption
    | .inr (f, p), h =>
      refine ⟨?_, ?_, ?_⟩ <;> rw [g8 _ (by omega)]
      · exact h.1
      · exact h.2.1
      · exact h.2.2
/-- what leaves its tape, its words and its reading fields alone leaves the reference's reading -/
theorem RS_un (h : RS β t n st) (hS : Sh β') (u : Un X β β') (hX : ∀ r j, (r = 176 ∧ 2 ≤ j ∧ j ≤ 6) ∨ (177 ≤ r ∧ r < 213) → ¬ X r j) : RS β' t n st := by
  obtain ⟨⟨a, b, c, d, e, f⟩, ho, h⟩ := h
  have g8 : ∀ j, 2 ≤ j → j ≤ 6 → gI β' 176 j = gI β 176 j := fun j h1 h2 => u.i (by omega) (by omega) (by omega) (hX _ _ (by omega))
  refine ⟨⟨hS, b, c, fun j hj => ?_, ?_, fun w hw i hi => ?_⟩, ho, ?_⟩
  · rw [u.iA (by omega) (by omega) (by rw [tg_177 a]; omega) (hX _ _ (by omega))]; exact d j hj
  · rw [g8 3 (by omega) (by omega)]; exact e
  · rw [u.iA (by omega) (by omega) (by rw [tg_word a hw]; omega) (hX _ _ (by omega))]; exact f w hw i hi
  · match st, h with
    | .inl (s, e), h =>
      rw [g8 2 (by omega) (by omega), g8 4 (by omega) (by omega), g8 5 (by omega) (by omega), g8 6 (by omega) (by omega)]; exact h
    | .inr (f, p), h =>
      rw [g8 5 (by omega) (by omega), g8 6 (by omega) (by omega)]; exact h
end
