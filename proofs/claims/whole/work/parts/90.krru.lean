/-! a rule's statements one after the other, both at once; what is kept of them -/
/-- the rule k, as both have it -/
def RUk (σ : zS) (k : Nat) : Prop := (gR σ 13 k = none ∧ gI σ 227 k = 0) ∨ ∃ r SS, gR σ 13 k = some r ∧ 253 ≤ r ∧ tg σ r = 32 ∧ ln σ r = (lc SS).length ∧ (∀ i, i < (lc SS).length → gI σ r i = cOf ((lc SS).getD i 0)) ∧ wfS SS ∧ SS.length ≤ 40 ∧ (lc SS).length < 1600 ∧ gI σ 227 k = 1 ∧ gI σ 228 k = nI SS.length ∧ SR σ (40 * k) (1600 * k) SS ∧ ∀ i, i < (lr SS).length → gI σ 225 (1600 * k + i) = nI ((lr SS).getD i 0)
section
variable {t : Nat → Nat} {n : Nat} {α α' α1 β β0 β' β1 γ : zS} {st st1 : lx} {L W V W0 q p toks : List Nat} {c O b f : Nat} {SS : List (List Nat × Nat)} {u2 u3 u4 : Option Value}
/-- what stands behind c statements that were read -/
def RSS (α β : zS) (c s : Nat) : Prop := ∃ SS : List (List Nat × Nat), SS.length = c ∧ wfS SS ∧ DR α (lc SS) ∧ Q2 β (lc SS) ∧ SR β 120 0 SS ∧ gI β 176 58 = nI c ∧ gI β 228 3 = nI c ∧ (lc SS).length ≤ s ∧ (lc SS).length < 1600
theorem J_rLoop (k : Nat) : ∀ d c α β st u3 v2 v3 v4, d + c = 40 → CS α t n st → RS β t n st → (∃ k, k ≤ 1600 ∧ gI α 12 3 = nI k) → (lL st = true → RSS α β c (lp st)) → ∃ α' β' st' c' u3', zR 85 52 5 [some (.ref 12), some (.int (nI k)), some (.int (nI c)), u3] [] α = zR 85 52 45 [some (.ref 12), some (.int (nI k)), some (.int (nI c')), u3'] [] α' ∧ zR 10 234 18 [some (.ref 176), some (.int (nI k)), v2, v3, v4] [] β = zR 10 234 18 [some (.ref 176), some (.int (nI k)), v2, v3, v4] [] β' ∧ CS α' t n st' ∧ RS β' t n st' ∧ Un XD α α' ∧ Un XV β β' ∧ (lL st' = true → lE n st' = true ∧ c' ≤ 40 ∧ RSS α' β' c' (lp st')) := by
  intro d
  induction d with
  | zero =>
    intro c α β st u3 v2 v3 v4 hd hC hR hk hJ
    have hc0 : c = 40 := by omega
    subst hc0
    have hS := CS_sh hC
    have hS2 := RS_sh hR
    rw [q_X6_read_5, if_pos (show (40 : Int32) ≤ nI 40 by decide)]
    simp -implicitDefEqProofs only [tg_sI, ln_sI, tg_sL, ln_sL, tg_sR, ln_sR, tg_sC, ln_sC, ai_sI, ai_sL, gL_sI, gR_sI, gI_sL, gR_sL, gI_sR, gL_sR, gI_sI, gL_sL, gR_sR, zlt_e, zln_e, zli_e, zll_e, zbI_e, zbL_e, zbR_e, zbV_e, zeR_e, zeN_s, zeN_n, Nat.reduceEqDiff, and_self, and_true, true_and, and_false, false_and, ite_true, ite_false, reduceIte, tg_12 hS, gR_12_0 hS, tg_8 hS, c_atEnd hC]
    by_cases he : lE n st = true
    · rw [if_pos he, if_neg (by decide)]
      exact ⟨α, β, st, 40, u3, rfl, rfl, hC, hR, Un.refl _ _, Un.refl _ _, fun q => ⟨he, by omega, hJ q⟩⟩
    · rw [if_neg he, if_pos rfl]
      match st, hC, hR, hJ, he with
      | .inr z, _, _, _, he => exact absurd rfl he
      | .inl (s, e), hC, hR, hJ, he =>
        have hs : s < n := by
          have : ¬ n ≤ s := fun q => he (by simpa [lE] using q)
          omega
        have hs2 : s < 2000 := by have := hC.1.2.1; omega
        have h256 : t s < 256 := hC.1.2.2.1 s
        obtain ⟨SS, j1, -, -, -, -, h58, -⟩ := hJ rfl
        obtain ⟨α', f1, f2⟩ := c_failHere hC (f := 5) (by decide) (by decide)
        have f1 : zM 107 [.ref 8, .int 5] α = some (none, α') := f1
        have hRl := RS_look hR
        have hSl := RS_sh hRl
        obtain ⟨β', g1, g2⟩ := r_fail hRl (f := 5) (p := s) (by decide) (by decide) hs2
        have g1 : zM 191 [.ref 176, .int 5, .int (nI s)] (sI β 176 2 (nI s)) = some (none, β') := g1
        refine ⟨α', β', .inr (5, s), 40, u3, ?_, ?_, f2, g2, (Un_tok hS f1 rfl (by decide +kernel)).mono (fun r j _ _ q => .inl q), ?_, fun q => by cases q⟩
        · rw [f1]
          rfl
        · rw [q_X12_rule_18]
          simp -implicitDefEqProofs only [tg_sI, ln_sI, tg_sL, ln_sL, tg_sR, ln_sR, tg_sC, ln_sC, ai_sI, ai_sL, gL_sI, gR_sI, gI_sL, gR_sL, gI_sR, gL_sR, gI_sI, gL_sL, gR_sR, zlt_e, zln_e, zli_e, zll_e, zbI_e, zbL_e, zbR_e, zbV_e, zeR_e, zeN_s, zeN_n, Nat.reduceEqDiff, and_self, and_true, true_and, and_false, false_and, ite_true, ite_false, reduceIte, tg_176 hS2, bad_live hR, r_look hR]
          rw [if_pos hs, if_neg (nI_nm1 (by omega)), q_X12_sendTold]
          simp -implicitDefEqProofs only [tg_sI, ln_sI, tg_sL, ln_sL, tg_sR, ln_sR, tg_sC, ln_sC, ai_sI, ai_sL, gL_sI, gR_sI, gI_sL, gR_sL, gI_sR, gL_sR, gI_sI, gL_sL, gR_sR, zlt_e, zln_e, zli_e, zll_e, zbI_e, zbL_e, zbR_e, zbV_e, zeR_e, zeN_s, zeN_n, Nat.reduceEqDiff, and_self, and_true, true_and, and_false, false_and, ite_true, ite_false, reduceIte, tg_176 hS2, h58]
          rw [if_pos (show nI 40 = 40 from rfl), g1]
          rfl
        · exact (Un_sI (.inl (.inl ⟨rfl, .inl rfl⟩))).trans ((Un_ref hSl g1 rfl (by decide +kernel)).mono (fun r j _ _ q => .inl (.inl q)))
  | succ d ih =>
    intro c α β st u3 v2 v3 v4 hd hC hR hk hJ
    have hS := CS_sh hC
    have hS2 := RS_sh hR
    by_cases he : lE n st = true
    · rw [q_X6_read_5, if_neg (show ¬ (40 : Int32) ≤ nI c from nI_ge (b := 40) (by omega) (by omega))]
      simp -implicitDefEqProofs only [tg_sI, ln_sI, tg_sL, ln_sL, tg_sR, ln_sR, tg_sC, ln_sC, ai_sI, ai_sL, gL_sI, gR_sI, gI_sL, gR_sL, gI_sR, gL_sR, gI_sI, gL_sL, gR_sR, zlt_e, zln_e, zli_e, zll_e, zbI_e, zbL_e, zbR_e, zbV_e, zeR_e, zeN_s, zeN_n, Nat.reduceEqDiff, and_self, and_true, true_and, and_false, false_and, ite_true, ite_false, reduceIte, tg_12 hS, gR_12_0 hS, tg_8 hS, c_atEnd hC]
      rw [if_pos he, if_neg (by decide)]
      exact ⟨α, β, st, c, u3, by rw [if_neg (by decide)], rfl, hC, hR, Un.refl _ _, Un.refl _ _, fun q => ⟨he, by omega, hJ q⟩⟩
    · match st, hC, hR, hJ, he with
      | .inr z, _, _, _, he => exact absurd rfl he
      | .inl (s, e), hC, hR, hJ, he =>
        have hs : s < n := by
          have : ¬ n ≤ s := fun q => he (by simpa [lE] using q)
          omega
        have h16 := hC.1.2.1
        have h256 : t s < 256 := hC.1.2.2.1 s
        have hRl := RS_look hR
        have hSl := RS_sh hRl
        have wl : Un XL β (sI β 176 2 (nI s)) := Un_sI ⟨rfl, .inl rfl⟩
        obtain ⟨SS, rfl, j2, j3, j4, j5, j6, j7, j8, j9⟩ := hJ rfl
        obtain ⟨α2, β2, st2, u3', a1, a2, a3, a4, a5, a6, a7, a8⟩ := J_send (k := nI k) (u3 := u3) hC hs hRl j3 (Q2_un j4 hS2 wl (by unfold XL; omega) (fun j _ => by unfold XL; omega)) (SR_un j5 hS2 wl (fun r j h1 h2 h3 q => by unfold XL at q; omega)) j2 (by omega) (by rw [wl.i (by omega) (by omega) (by omega) (by unfold XL; omega)]; exact j6) (by rw [wl.i (by omega) (by omega) (by omega) (by unfold XL; omega)]; exact j7) j8
        obtain ⟨α', β', st', c', u3'', b1, b2, b3, b4, b5, b6, b7⟩ := ih (SS.length + 1) α2 β2 st2 u3' v2 v3 v4 (by omega) a3 a4 a7 (fun q => by
          obtain ⟨x, k1, k2, k3, k4, k5, k6, k7⟩ := a8 q
          have hlp : lp st2 ≤ n := by
            obtain ⟨s', e', rfl⟩ := lx_live q
            exact a3.2.1.1
          exact ⟨SS ++ [x], by simp, k1, k2, k3, k4, by rw [k5]; simp, by rw [k6]; simp, by omega, by omega⟩)
        refine ⟨α', β', st', c', u3'', ?_, ?_, b3, b4, a5.trans b5, ?_, b7⟩
        · rw [a1]; exact b1
        · rw [q_X12_rule_18]
          simp -implicitDefEqProofs only [tg_sI, ln_sI, tg_sL, ln_sL, tg_sR, ln_sR, tg_sC, ln_sC, ai_sI, ai_sL, gL_sI, gR_sI, gI_sL, gR_sL, gI_sR, gL_sR, gI_sI, gL_sL, gR_sR, zlt_e, zln_e, zli_e, zll_e, zbI_e, zbL_e, zbR_e, zbV_e, zeR_e, zeN_s, zeN_n, Nat.reduceEqDiff, and_self, and_true, true_and, and_false, false_and, ite_true, ite_false, reduceIte, tg_176 hS2, bad_live hR, r_look hR]
          rw [if_pos hs, if_neg (nI_nm1 (by omega)), a2]
          exact b2
        · exact (wl.mono (fun r j _ _ q => .inl (.inl q))).trans (a6.trans b6)
def XY (k r j : Nat) : Prop := ((r = 229 ∨ r = 230 ∨ r = 231) ∧ 40 * k ≤ j ∧ j < 40 * k + 40) ∨ (r = 225 ∧ 1600 * k ≤ j ∧ j < 1600 * k + 1600) ∨ (r = 227 ∧ j = k) ∨ (r = 228 ∧ j = k)
theorem off_le (SS : List (List Nat × Nat)) (i : Nat) : off SS i ≤ (lr SS).length := by
  unfold off lr
  rw [← List.take_append_drop i SS, List.flatMap_append, List.length_append]
  simp only [List.take_append_drop]
  omega
/-- the reference keeps a rule -/
theorem r_keep {k : Nat} (hk : k < 3) (hS : Sh β) (h3 : gI β 228 3 = nI SS.length) (h40 : SS.length ≤ 40) (hR : SR β 120 0 SS) (hQ : Q2 β (lc SS)) (hW : wfS SS) (hl : (lc SS).length < 1600) : ∃ β', zR 10 234 49 [some (.ref 176), some (.int (nI k)), u2, u3, u4] [] (sI β 228 k (nI SS.length)) = some (some (.int (gI β 176 58)), β') ∧ Sh β' ∧ Un (XY k) β β' ∧ gI β' 227 k = 1 ∧ gI β' 228 k = nI SS.length ∧ SR β' (40 * k) (1600 * k) SS ∧ ∀ i, i < (lr SS).length → gI β' 225 (1600 * k + i) = nI ((lr SS).getD i 0) := by
  have hfl := flt_lc hW
  have hle := flt_le (lc SS)
  rw [hfl] at hle
  have hS1 : Sh (sI β 228 k (nI SS.length)) := hS.sI (by omega)
  have w1 : Un (XY k) β (sI β 228 k (nI SS.length)) := Un_sI (by unfold XY; omega)
  obtain ⟨g, e1, k1, k2, k3⟩ := lp_run (F := fun i (g : zS × Option Value × Option Value) => zR 10 234 51 [some (.ref 176), some (.int (nI k)), some (.int (nI i)), g.2.1, g.2.2] [] g.1) (fun i g => Un (fun r j => (r = 229 ∨ r = 230 ∨ r = 231) ∧ 40 * k ≤ j ∧ j < 40 * k + 40) (sI β 228 k (nI SS.length)) g.1 ∧ Sh g.1 ∧ ∀ j, j < i → gI g.1 229 (40 * k + j) = nI (SS.getD j ([], 0)).2 ∧ gI g.1 230 (40 * k + j) = nI (1600 * k + off SS j) ∧ gI g.1 231 (40 * k + j) = nI (1600 * k + off SS j + (SS.getD j ([], 0)).1.length)) SS.length (by
    intro i g hi ⟨h1, h2, h4⟩
    obtain ⟨σ, x3, x4⟩ := g
    have hk3 : gI σ 228 k = nI SS.length := by
      rw [h1.i (by omega) (by omega) (by omega) (by omega), gI_sI, if_pos ⟨rfl, rfl⟩]
    obtain ⟨p1, p2, p3⟩ := hR i hi
    have q1 : gI σ 229 (120 + i) = nI (SS.getD i ([], 0)).2 := by
      rw [h1.iA (by omega) (by omega) (by rw [tg_229 hS1]; omega) (by omega), gI_sI, if_neg (by omega)]; exact p1
    have q2 : gI σ 230 (120 + i) = nI (0 + off SS i) := by
      rw [h1.iA (by omega) (by omega) (by rw [tg_230 hS1]; omega) (by omega), gI_sI, if_neg (by omega)]; exact p2
    have q3 : gI σ 231 (120 + i) = nI (0 + off SS i + (SS.getD i ([], 0)).1.length) := by
      rw [h1.iA (by omega) (by omega) (by rw [tg_231 hS1]; omega) (by omega), gI_sI, if_neg (by omega)]; exact p3
    refine ⟨(sI (sI (sI σ 229 (40 * k + i) (nI (SS.getD i ([], 0)).2)) 230 (40 * k + i) (nI (1600 * k + off SS i))) 231 (40 * k + i) (nI (1600 * k + off SS i + (SS.getD i ([], 0)).1.length)), some (.int (nI (120 + i))), some (.int (nI (40 * k + i)))), ?_, ?_, ((h2.sI (by omega)).sI (by omega)).sI (by omega), fun j hj => ?_⟩
    · show zR 10 234 51 [some (.ref 176), some (.int (nI k)), some (.int (nI i)), x3, x4] [] σ = _
      rw [q_X12_rule_51]
      simp -implicitDefEqProofs only [tg_sI, ln_sI, tg_sL, ln_sL, tg_sR, ln_sR, tg_sC, ln_sC, ai_sI, ai_sL, gL_sI, gR_sI, gI_sL, gR_sL, gI_sR, gL_sR, gI_sI, gL_sL, gR_sR, zlt_e, zln_e, zli_e, zll_e, zbI_e, zbL_e, zbR_e, zbV_e, zeR_e, zeN_s, zeN_n, Nat.reduceEqDiff, and_self, and_true, true_and, and_false, false_and, ite_true, ite_false, reduceIte, tg_176 h2, gR_176_65 h2]
      rw [if_pos (ai_nI (.inl (tg_228 h2)) (ln_228 h2) (show k < 4 by omega) (by omega)), ixn (by omega), hk3, if_neg (nI_ge hi (by omega)), show (120 : Int32) + nI i = nI (120 + i) from nI_add 120 i, show (40 : Int32) * nI k + nI i = nI (40 * k + i) from by rw [show (40 : Int32) = nI 40 from rfl, pk_mul, nI_add]]
      simp -implicitDefEqProofs only [tg_sI, ln_sI, tg_sL, ln_sL, tg_sR, ln_sR, tg_sC, ln_sC, ai_sI, ai_sL, gL_sI, gR_sI, gI_sL, gR_sL, gI_sR, gL_sR, gI_sI, gL_sL, gR_sR, zlt_e, zln_e, zli_e, zll_e, zbI_e, zbL_e, zbR_e, zbV_e, zeR_e, zeN_s, zeN_n, Nat.reduceEqDiff, and_self, and_true, true_and, and_false, false_and, ite_true, ite_false, reduceIte, gR_176_66 h2]
      rw [if_pos (ai_nI (.inl (tg_229 h2)) (ln_229 h2) (show 120 + i < 160 by omega) (by omega)), if_pos (ai_nI (.inl (tg_229 h2)) (ln_229 h2) (show 40 * k + i < 160 by omega) (by omega)), ixn (by omega), ixn (by omega), q1]
      simp -implicitDefEqProofs only [tg_sI, ln_sI, tg_sL, ln_sL, tg_sR, ln_sR, tg_sC, ln_sC, ai_sI, ai_sL, gL_sI, gR_sI, gI_sL, gR_sL, gI_sR, gL_sR, gI_sI, gL_sL, gR_sR, zlt_e, zln_e, zli_e, zll_e, zbI_e, zbL_e, zbR_e, zbV_e, zeR_e, zeN_s, zeN_n, Nat.reduceEqDiff, and_self, and_true, true_and, and_false, false_and, ite_true, ite_false, reduceIte, tg_176 h2, gR_176_67 h2]
      rw [if_pos (ai_nI (.inl (tg_230 h2)) (ln_230 h2) (show 120 + i < 160 by omega) (by omega)), if_pos (ai_nI (.inl (tg_230 h2)) (ln_230 h2) (show 40 * k + i < 160 by omega) (by omega)), q2]
      simp -implicitDefEqProofs only [tg_sI, ln_sI, tg_sL, ln_sL, tg_sR, ln_sR, tg_sC, ln_sC, ai_sI, ai_sL, gL_sI, gR_sI, gI_sL, gR_sL, gI_sR, gL_sR, gI_sI, gL_sL, gR_sR, zlt_e, zln_e, zli_e, zll_e, zbI_e, zbL_e, zbR_e, zbV_e, zeR_e, zeN_s, zeN_n, Nat.reduceEqDiff, and_self, and_true, true_and, and_false, false_and, ite_true, ite_false, reduceIte, tg_176 h2, gR_176_68 h2, q_X12_rule_87]
      rw [if_pos (ai_nI (.inl (tg_231 h2)) (ln_231 h2) (show 120 + i < 160 by omega) (by omega)), if_pos (ai_nI (.inl (tg_231 h2)) (ln_231 h2) (show 40 * k + i < 160 by omega) (by omega)), ixn (by omega), ixn (by omega), q3, nI_1, show (1600 : Int32) * nI k = nI (1600 * k) from by rw [show (1600 : Int32) = nI 1600 from rfl, pk_mul], nI_add, nI_add, show 1600 * k + (0 + off SS i) = 1600 * k + off SS i by omega, show 1600 * k + (0 + off SS i + (SS.getD i ([], 0)).1.length) = 1600 * k + off SS i + (SS.getD i ([], 0)).1.length by omega]
    · exact h1.trans ((Un_sI (by omega)).trans ((Un_sI (by omega)).trans (Un_sI (by omega))))
    · by_cases z : j = i
      · subst z
        refine ⟨?_, ?_, ?_⟩
        · rw [gI_sI, if_neg (by omega), gI_sI, if_neg (by omega), gI_sI, if_pos ⟨rfl, rfl⟩]
        · rw [gI_sI, if_neg (by omega), gI_sI, if_pos ⟨rfl, rfl⟩]
        · rw [gI_sI, if_pos ⟨rfl, rfl⟩]
      · obtain ⟨y1, y2, y3⟩ := h4 j (by omega)
        refine ⟨?_, ?_, ?_⟩
        · rw [gI_sI, if_neg (by omega), gI_sI, if_neg (by omega), gI_sI, if_neg (by omega)]; exact y1
        · rw [gI_sI, if_neg (by omega), gI_sI, if_neg (by omega), gI_sI, if_neg (by omega)]; exact y2
        · rw [gI_sI, if_neg (by omega), gI_sI, if_neg (by omega), gI_sI, if_neg (by omega)]; exact y3) (sI β 228 k (nI SS.length), u3, u4) ⟨Un.refl _ _, hS1, fun j hj => by omega⟩
  obtain ⟨σ1, x3, x4⟩ := g
  have k1 : Un (fun r j => (r = 229 ∨ r = 230 ∨ r = 231) ∧ 40 * k ≤ j ∧ j < 40 * k + 40) (sI β 228 k (nI SS.length)) σ1 := k1
  have k2 : Sh σ1 := k2
  have e1 : zR 10 234 51 [some (.ref 176), some (.int (nI k)), some (.int 0), u3, u4] [] (sI β 228 k (nI SS.length)) = zR 10 234 51 [some (.ref 176), some (.int (nI k)), some (.int (nI SS.length)), x3, x4] [] σ1 := e1
  have h60 : gI σ1 176 60 = nI (lr SS).length := by
    rw [k1.i (by omega) (by omega) (by omega) (by omega), gI_sI, if_neg (by omega), hQ.1, hfl]
  have hQ1 : ∀ i, i < (lr SS).length → gI σ1 225 (4800 + i) = nI ((lr SS).getD i 0) := fun i hi => by
    rw [k1.iA (by omega) (by omega) (by rw [tg_225 hS1]; omega) (by omega), gI_sI, if_neg (by omega)]
    have := hQ.2 i (by rw [hfl]; exact hi)
    rw [hfl] at this
    exact this
  obtain ⟨σ2, e2, m1, m2, m3⟩ := lp_run (F := fun i (σ : zS) => zR 10 234 103 [some (.ref 176), some (.int (nI k)), some (.int (nI i)), x3, x4] [] σ) (fun i σ => Un (fun r j => r = 225 ∧ 1600 * k ≤ j ∧ j < 1600 * k + 1600) σ1 σ ∧ Sh σ ∧ ∀ j, j < i → gI σ 225 (1600 * k + j) = nI ((lr SS).getD j 0)) (lr SS).length (by
    intro i σ hi ⟨h1, h2, h4⟩
    have h60' : gI σ 176 60 = nI (lr SS).length := by
      rw [h1.i (by omega) (by omega) (by omega) (by omega)]; exact h60
    have q1 : gI σ 225 (4800 + i) = nI ((lr SS).getD i 0) := by
      rw [h1.iA (by omega) (by omega) (by rw [tg_225 k2]; omega) (by omega)]; exact hQ1 i hi
    refine ⟨sI σ 225 (1600 * k + i) (nI ((lr SS).getD i 0)), ?_, h1.trans (Un_sI (by omega)), h2.sI (by omega), fun j hj => ?_⟩
    · rw [q_X12_rule_103]
      simp -implicitDefEqProofs only [tg_sI, ln_sI, tg_sL, ln_sL, tg_sR, ln_sR, tg_sC, ln_sC, ai_sI, ai_sL, gL_sI, gR_sI, gI_sL, gR_sL, gI_sR, gL_sR, gI_sI, gL_sL, gR_sR, zlt_e, zln_e, zli_e, zll_e, zbI_e, zbL_e, zbR_e, zbV_e, zeR_e, zeN_s, zeN_n, Nat.reduceEqDiff, and_self, and_true, true_and, and_false, false_and, ite_true, ite_false, reduceIte, tg_176 h2, h60', gR_176_59 h2]
      rw [if_neg (nI_ge hi (by omega)), show (4800 : Int32) + nI i = nI (4800 + i) from nI_add 4800 i, show (1600 : Int32) * nI k + nI i = nI (1600 * k + i) from by rw [show (1600 : Int32) = nI 1600 from rfl, pk_mul, nI_add], if_pos (ai_nI (.inl (tg_225 h2)) (ln_225 h2) (show 4800 + i < 6400 by omega) (by omega)), if_pos (ai_nI (.inl (tg_225 h2)) (ln_225 h2) (show 1600 * k + i < 6400 by omega) (by omega)), ixn (by omega), ixn (by omega), q1, nI_1]
    · by_cases z : j = i
      · subst z
        rw [gI_sI, if_pos ⟨rfl, rfl⟩]
      · rw [gI_sI, if_neg (by omega)]; exact h4 j (by omega)) σ1 ⟨Un.refl _ _, k2, fun j hj => by omega⟩
  have e2 : zR 10 234 103 [some (.ref 176), some (.int (nI k)), some (.int 0), x3, x4] [] σ1 = zR 10 234 103 [some (.ref 176), some (.int (nI k)), some (.int (nI (lr SS).length)), x3, x4] [] σ2 := e2
  have h60b : gI σ2 176 60 = nI (lr SS).length := by
    rw [m1.i (by omega) (by omega) (by omega) (by omega)]; exact h60
  have h58b : gI σ2 176 58 = gI β 176 58 := by
    rw [m1.i (by omega) (by omega) (by omega) (by omega), k1.i (by omega) (by omega) (by omega) (by omega), gI_sI, if_neg (by omega)]
  have hk3 : gI σ1 228 k = nI SS.length := by
    rw [k1.i (by omega) (by omega) (by omega) (by omega), gI_sI, if_pos ⟨rfl, rfl⟩]
  refine ⟨sI σ2 227 k 1, ?_, m2.sI (by omega), ?_, ?_, ?_, ?_, fun i hi => ?_⟩
  · rw [q_X12_rule_49, e1, q_X12_rule_51]
    simp -implicitDefEqProofs only [tg_sI, ln_sI, tg_sL, ln_sL, tg_sR, ln_sR, tg_sC, ln_sC, ai_sI, ai_sL, gL_sI, gR_sI, gI_sL, gR_sL, gI_sR, gL_sR, gI_sI, gL_sL, gR_sR, zlt_e, zln_e, zli_e, zll_e, zbI_e, zbL_e, zbR_e, zbV_e, zeR_e, zeN_s, zeN_n, Nat.reduceEqDiff, and_self, and_true, true_and, and_false, false_and, ite_true, ite_false, reduceIte, tg_176 k2, gR_176_65 k2]
    rw [if_pos (ai_nI (.inl (tg_228 k2)) (ln_228 k2) (show k < 4 by omega) (by omega)), ixn (by omega), hk3, if_pos (nI_le (Nat.le_refl _) (by omega)), e2, q_X12_rule_103]
    simp -implicitDefEqProofs only [tg_sI, ln_sI, tg_sL, ln_sL, tg_sR, ln_sR, tg_sC, ln_sC, ai_sI, ai_sL, gL_sI, gR_sI, gI_sL, gR_sL, gI_sR, gL_sR, gI_sI, gL_sL, gR_sR, zlt_e, zln_e, zli_e, zll_e, zbI_e, zbL_e, zbR_e, zbV_e, zeR_e, zeN_s, zeN_n, Nat.reduceEqDiff, and_self, and_true, true_and, and_false, false_and, ite_true, ite_false, reduceIte, tg_176 m2, h60b, gR_176_64 m2]
    rw [if_pos (nI_le (Nat.le_refl _) (by omega)), if_pos (ai_nI (.inl (tg_227 m2)) (ln_227 m2) (show k < 3 by omega) (by omega)), h58b]
    simp -implicitDefEqProofs only [ixn (show k < 2 ^ 31 by omega)]
  · refine w1.trans ((k1.mono (fun r j _ _ q => .inl q)).trans ((m1.mono (fun r j _ _ q => .inr (.inl q))).trans (Un_sI ?_)))
    unfold XY
    omega
  · rw [gI_sI, if_pos ⟨rfl, rfl⟩]
  · rw [gI_sI, if_neg (by omega), m1.i (by omega) (by omega) (by omega) (by omega)]; exact hk3
  · intro i hi
    obtain ⟨y1, y2, y3⟩ := k3 i hi
    refine ⟨?_, ?_, ?_⟩
    · rw [gI_sI, if_neg (by omega), m1.iA (by omega) (by omega) (by rw [tg_229 k2]; omega) (by omega)]; exact y1
    · rw [gI_sI, if_neg (by omega), m1.iA (by omega) (by omega) (by rw [tg_230 k2]; omega) (by omega)]; exact y2
    · rw [gI_sI, if_neg (by omega), m1.iA (by omega) (by omega) (by rw [tg_231 k2]; omega) (by omega)]; exact y3
  · rw [gI_sI, if_neg (by omega)]; exact m3 i hi
end
