/-! the call rule: both answer alike, and all stands again -/
section
variable {σ σ' σ1 σ2 α α' β β' : zS} {X : Nat → Nat → Prop} {B P S N M K np c p k so z n : Nat} {t : Nat → Nat} {st : lx}
theorem t64_0 : (0 : Int32).toInt64 = 0 := by decide +kernel
theorem t64_2 : (2 : Int32).toInt64 = 2 := by decide +kernel
theorem isIn02 (a : Int32) (s : zS) : zM 188 [.long a.toInt64, .long 0, .long 2] s = some (some (.int (if 0 ≤ a ∧ a ≤ 2 then 1 else 0)), s) := by
  have h := r_isIn a 0 2 s
  rw [t64_0, t64_2] at h
  exact h
theorem Tp_0 (h : Tp σ t n) (h7 : ∀ j, gI σ' 7 j = gI σ 7 j) (h177 : ∀ j, j < 1600 → gI σ' 177 j = gI σ 177 j) (h1 : gI σ' 6 1 = 0) (h2 : gI σ' 176 1 = 0) : Tp σ' t 0 := by
  obtain ⟨a, b, c, d, e, f⟩ := h
  exact ⟨by omega, b, fun j => by rw [h7]; exact c j, fun j hj => by rw [h177 j hj]; exact d j hj, h1, h2⟩
theorem Ow_sI (h : Ow σ) {r j : Nat} {a : Int32} (hr : r = 6 := by omega) : Ow (sI σ r j a) := ⟨fun i hi => by rw [gI_sI, if_neg (by omega)]; exact h.1 i hi, fun w hw i hi => by rw [gI_sI, if_neg (by omega)]; exact h.2 w hw i hi⟩
theorem op_rule (h : RR B σ c P S N M K np t n) (a : Int32) : ∃ v σ1 σ2, zM 118 [.ref 6, .int a] σ = some (some (.int v), σ1) ∧ Sh σ1 ∧ zM 234 [.ref 176, .int a] σ1 = some (some (.int v), σ2) ∧ RX B σ2 (c + 1) := by
  have hRR := h
  have hRP := RR_rp h
  obtain ⟨hS, hH, hT, hO, hF, -, -, -, -, -, -, hU, hM⟩ := h
  have hTT := hT
  obtain ⟨hn, h256, ht7, ht177, h61, h1761⟩ := hT
  have tk : zM 116 [.ref 6] σ = some (some (.int (nI n)), sI σ 6 1 0) := by
    rw [q_X11_takeTape]
    simp -implicitDefEqProofs only [tg_sI, ln_sI, tg_sL, ln_sL, tg_sR, ln_sR, tg_sC, ln_sC, ai_sI, ai_sL, gL_sI, gR_sI, gI_sL, gR_sL, gI_sR, gL_sR, gI_sI, gL_sL, gR_sR, zlt_e, zln_e, zli_e, zll_e, zbI_e, zbL_e, zbR_e, zbV_e, zeR_e, zeN_s, zeN_n, Nat.reduceEqDiff, and_self, and_true, true_and, and_false, false_and, ite_true, ite_false, reduceIte, tg_6 hS, h61]
  have hSa : Sh (sI σ 6 1 0) := hS.sI (by omega)
  have ua : Un Xz σ (sI σ 6 1 0) := Un_sI (.inr (.inl ⟨rfl, .inl rfl⟩))
  -- no such number
  have out : (a < 0 ∨ nI 3 ≤ a) → ∃ v σ1 σ2, zM 118 [.ref 6, .int a] σ = some (some (.int v), σ1) ∧ Sh σ1 ∧ zM 234 [.ref 176, .int a] σ1 = some (some (.int v), σ2) ∧ RX B σ2 (c + 1) := by
    intro q
    refine ⟨-2, sI σ 6 1 0, sI (sI σ 6 1 0) 176 1 0, ?_, hSa, ?_, ?_⟩
    · rw [q_X11_rule]
      simp -implicitDefEqProofs only [tg_sI, ln_sI, tg_sL, ln_sL, tg_sR, ln_sR, tg_sC, ln_sC, ai_sI, ai_sL, gL_sI, gR_sI, gI_sL, gR_sL, gI_sR, gL_sR, gI_sI, gL_sL, gR_sR, zlt_e, zln_e, zli_e, zll_e, zbI_e, zbL_e, zbR_e, zbV_e, zeR_e, zeN_s, zeN_n, Nat.reduceEqDiff, and_self, and_true, true_and, and_false, false_and, ite_true, ite_false, reduceIte, tg_6 hS, tk]
      rcases q with q | q
      · rw [if_pos q]
      · have q2 : ¬ a < 0 := fun z => by
          rw [Int32.lt_iff_toInt_lt] at z
          rw [Int32.le_iff_toInt_le, nI_toInt (by omega)] at q
          have : (0 : Int32).toInt = 0 := rfl
          omega
        rw [if_neg q2, if_neg (show ¬ a < 3 from Int32.not_lt.mpr q)]
    · rw [q_X12_rule, isIn02]
      have q2 : ¬ (0 ≤ a ∧ a ≤ 2) := fun z => by
        have z1 := Int32.le_iff_toInt_le.mp z.1
        have z2 := Int32.le_iff_toInt_le.mp z.2
        have e0 : (0 : Int32).toInt = 0 := rfl
        have e2 : (2 : Int32).toInt = 2 := rfl
        rcases q with q | q
        · rw [Int32.lt_iff_toInt_lt] at q; omega
        · rw [Int32.le_iff_toInt_le, nI_toInt (by omega)] at q; omega
      rw [if_neg q2]
      simp -implicitDefEqProofs only [tg_sI, ln_sI, tg_sL, ln_sL, tg_sR, ln_sR, tg_sC, ln_sC, ai_sI, ai_sL, gL_sI, gR_sI, gI_sL, gR_sL, gI_sR, gL_sR, gI_sI, gL_sL, gR_sR, zlt_e, zln_e, zli_e, zll_e, zbI_e, zbL_e, zbR_e, zbV_e, zeR_e, zeN_s, zeN_n, Nat.reduceEqDiff, and_self, and_true, true_and, and_false, false_and, ite_true, ite_false, reduceIte, tg_176 hS]
    · have u2 : Un Xz σ (sI (sI σ 6 1 0) 176 1 0) := ua.trans (Un_sI (.inr (.inr (.inl ⟨rfl, .inl rfl⟩))))
      have hS2 : Sh (sI (sI σ 6 1 0) 176 1 0) := hSa.sI (by omega)
      exact ⟨P, S, N, M, K, np, t, 0, RR_mono (RP_rr (RP_zs hRP u2 hS2) (Tp_0 hTT (fun j => rfl) (fun j _ => rfl) rfl rfl) hF (rm_z hM u2)) (by omega)⟩
  rcases pk_ix a (n := 3) (by decide) with q | q | ⟨k, hk, rfl⟩
  · exact out (.inl q)
  · exact out (.inr q)
  have hOa : Ow (sI σ 6 1 0) := Ow_sI hO
  obtain ⟨α0, a1, a2, a3⟩ := c_open (t := t) (n := n) hSa hOa hn h256 (fun j => ht7 j)
  have hS0 := CS_sh a2
  have a2' : CS (sI α0 12 3 0) t n (.inl (ru t n 5 0, 0)) := CS_sI a2 (by omega) (by omega) (by omega) (by omega)
  have uz0 : Un Xz σ (sI α0 12 3 0) := ua.trans ((a3.mono (fun r j _ _ q => .inl (.inl q))).trans (Un_sI (.inl (.inr (.inl ⟨rfl, .inl rfl⟩)))))
  have go := fun (τ : zS) (h1 : Sh τ) (h2 : Ow τ) (h3 : ∀ j, j < 1600 → gI τ 177 j = nI (t j)) (h4 : gI τ 176 1 = nI n) => rl_go (k := k) a2' (by rw [gI_sI, if_pos ⟨rfl, rfl⟩]) hk h1 h2 h3 h4
  -- the class's run, and that it leaves what the reference begins with
  have run1 : ∃ v σr, zM 52 [.ref 12, .int (nI k)] α0 = some (some (.int v), σr) ∧ Sh σr ∧ Ow σr ∧ (∀ j, j < 1600 → gI σr 177 j = nI (t j)) ∧ gI σr 176 1 = nI n := by
    obtain ⟨β0, α', β', st', c', u3', -, -, -, -, k5, -, k7, k8, k9, -, k11⟩ := go σ hS hO ht177 h1761
    have uA : Un Xz σ α' := uz0.trans (k9.mono (fun r j _ _ q => .inl (XD_s q)))
    have hSA := CS_sh k7
    have hRA := RP_zs hRP uA hSA
    have t177 : ∀ j, j < 1600 → gI α' 177 j = nI (t j) := fun j hj => by
      have u' : Un (fun r j => r = 6 ∨ r = 8 ∨ r = 12 ∨ r = 14) σ α' := ((Un_sI (by omega)).trans ((a3.mono (fun r j _ _ q => by omega)).trans (Un_sI (by omega)))).trans (k9.mono (fun r j _ _ q => by unfold XD at q; omega))
      rw [u'.iA (by omega) (by omega) (by rw [tg_177 hS]; omega) (by omega)]; exact ht177 j hj
    have t1 : gI α' 176 1 = nI n := by
      have u' : Un (fun r j => r = 6 ∨ r = 8 ∨ r = 12 ∨ r = 14) σ α' := ((Un_sI (by omega)).trans ((a3.mono (fun r j _ _ q => by omega)).trans (Un_sI (by omega)))).trans (k9.mono (fun r j _ _ q => by unfold XD at q; omega))
      rw [u'.i (by omega) (by omega) (by omega) (by omega)]; exact h1761
    have e52 : zM 52 [.ref 12, .int (nI k)] α0 = zR 85 52 45 [some (.ref 12), some (.int (nI k)), some (.int (nI c')), u3'] [] α' := by
      rw [q_X6_read, tg_12 hS0, if_pos rfl]
      exact k5
    obtain ⟨d1, d2⟩ := c_rTail (cc := c') (u3 := u3') hk k7
    by_cases hl : lL st' = true
    · obtain ⟨-, -, SS, -, -, hD, -, -, -, -, -, hl9⟩ := k11 hl
      refine ⟨_, _, by rw [e52]; exact d2 hl _ hD hl9, (Sh_cpN hSA (by omega)).sR ?_, ⟨?_, ?_⟩, ?_, ?_⟩
      · rcases (show k = 0 ∨ k = 1 ∨ k = 2 by omega) with rfl | rfl | rfl <;> decide +kernel
      · intro i hi
        have := Sh_len hSA
        rw [gI_sR, cpN_I (by omega) (by omega)]; exact hRA.2.2.1.1 i hi
      · intro w hw i hi
        have := Sh_len hSA
        rw [gI_sR, cpN_I (by omega) (by omega)]; exact hRA.2.2.1.2 w hw i hi
      · intro j hj
        have := Sh_len hSA
        rw [gI_sR, cpN_I (by omega) (by omega)]; exact t177 j hj
      · have := Sh_len hSA
        rw [gI_sR, cpN_I (by omega) (by omega)]; exact t1
    · exact ⟨_, _, by rw [e52]; exact d1 hl, hSA, hRA.2.2.1, t177, t1⟩
  obtain ⟨v, σr, r1, r2, r3, r4, r5⟩ := run1
  have hS1 : Sh (sI (sI σr 6 7 (gI σr 8 8)) 6 8 (gI σr 8 9)) := (r2.sI (by omega)).sI (by omega)
  have eC : zM 118 [.ref 6, .int (nI k)] σ = some (some (.int v), sI (sI σr 6 7 (gI σr 8 8)) 6 8 (gI σr 8 9)) := by
    have q0 : ¬ nI k < 0 := nI_pos (by omega)
    have q3 : nI k < 3 := nI_lt (b := 3) hk (by omega)
    rw [q_X11_rule]
    simp -implicitDefEqProofs only [tg_sI, ln_sI, tg_sL, ln_sL, tg_sR, ln_sR, tg_sC, ln_sC, ai_sI, ai_sL, gL_sI, gR_sI, gI_sL, gR_sL, gI_sR, gL_sR, gI_sI, gL_sL, gR_sR, zlt_e, zln_e, zli_e, zll_e, zbI_e, zbL_e, zbR_e, zbV_e, zeR_e, zeN_s, zeN_n, Nat.reduceEqDiff, and_self, and_true, true_and, and_false, false_and, ite_true, ite_false, reduceIte, tg_6 hS, tk]
    rw [if_neg q0, if_pos q3]
    simp -implicitDefEqProofs only [tg_sI, ln_sI, tg_sL, ln_sL, tg_sR, ln_sR, tg_sC, ln_sC, ai_sI, ai_sL, gL_sI, gR_sI, gI_sL, gR_sL, gI_sR, gL_sR, gI_sI, gL_sL, gR_sR, zlt_e, zln_e, zli_e, zll_e, zbI_e, zbL_e, zbR_e, zbV_e, zeR_e, zeN_s, zeN_n, Nat.reduceEqDiff, and_self, and_true, true_and, and_false, false_and, ite_true, ite_false, reduceIte, tg_6 hS, gR_6_2 hS, gR_6_0 hS, tg_8 hS, a1, tg_6 hS0, gR_6_4 hS0, tg_12 hS0, r1, tg_6 r2, c_keepF r2, q_X11_rule_23]
  -- again, with the memory that the reference finds
  obtain ⟨β0, α', β', st', c', u3', k1, k2, k3, k4, k5, k6, k7, k8, k9, k10, k11⟩ := go _ hS1 (Ow_sI (Ow_sI r3)) (fun j hj => by rw [gI_sI, if_neg (by omega), gI_sI, if_neg (by omega)]; exact r4 j hj) (by rw [gI_sI, if_neg (by omega), gI_sI, if_neg (by omega)]; exact r5)
  have uA : Un Xz σ α' := uz0.trans (k9.mono (fun r j _ _ q => .inl (XD_s q)))
  have hSA := CS_sh k7
  have hRA := RP_zs hRP uA hSA
  have u7 : Un (fun r j => r = 6 ∨ r = 8 ∨ r = 12 ∨ r = 14) σ α' := ((Un_sI (by omega)).trans ((a3.mono (fun r j _ _ q => by omega)).trans (Un_sI (by omega)))).trans (k9.mono (fun r j _ _ q => by unfold XD at q; omega))
  have e52 : zM 52 [.ref 12, .int (nI k)] α0 = zR 85 52 45 [some (.ref 12), some (.int (nI k)), some (.int (nI c')), u3'] [] α' := by
    rw [q_X6_read, tg_12 hS0, if_pos rfl]
    exact k5
  rw [r1] at e52
  obtain ⟨d1, d2⟩ := c_rTail (cc := c') (u3 := u3') hk k7
  obtain ⟨f1, f2⟩ := r_rTail (α := α') (c' := c') hk k8 k11
  -- the reference's run
  have eR : zM 234 [.ref 176, .int (nI k)] (sI (sI σr 6 7 (gI σr 8 8)) 6 8 (gI σr 8 9)) = zR 10 234 18 [some (.ref 176), some (.int (nI k)), none, none, none] [] β' := by
    have q2 : 0 ≤ nI k ∧ nI k ≤ 2 := ⟨nI_pos' (by omega), nI_le (b := 2) (by omega) (by omega)⟩
    rw [q_X12_rule, isIn02, if_pos q2]
    simp -implicitDefEqProofs only [tg_sI, ln_sI, tg_sL, ln_sL, tg_sR, ln_sR, tg_sC, ln_sC, ai_sI, ai_sL, gL_sI, gR_sI, gI_sL, gR_sL, gI_sR, gL_sR, gI_sI, gL_sL, gR_sR, zlt_e, zln_e, zli_e, zll_e, zbI_e, zbL_e, zbR_e, zbV_e, zeR_e, zeN_s, zeN_n, Nat.reduceEqDiff, and_self, and_true, true_and, and_false, false_and, ite_true, ite_false, reduceIte, tg_176 r2]
    rw [if_neg (by decide), k1]
    simp -implicitDefEqProofs only [tg_sI, ln_sI, tg_sL, ln_sL, tg_sR, ln_sR, tg_sC, ln_sC, ai_sI, ai_sL, gL_sI, gR_sI, gI_sL, gR_sL, gI_sR, gL_sR, gI_sI, gL_sL, gR_sR, zlt_e, zln_e, zli_e, zll_e, zbI_e, zbL_e, zbR_e, zbV_e, zeR_e, zeN_s, zeN_n, Nat.reduceEqDiff, and_self, and_true, true_and, and_false, false_and, ite_true, ite_false, reduceIte, tg_176 k2, gR_176_65 k2]
    rw [if_pos (show ai β0 32 32 228 3 = true from ai_nI (k := 3) (.inl (tg_228 k2)) (ln_228 k2) (by omega) (by omega))]
    exact k6
  have uB : Un Xz (sI (sI σr 6 7 (gI σr 8 8)) 6 8 (gI σr 8 9)) β' := (k3.mono (fun r j _ _ q => by
      obtain ⟨rfl, q⟩ := q
      rcases (show j = 1 ∨ j = 2 ∨ j = 3 ∨ j = 4 ∨ j = 5 ∨ j = 6 ∨ j = 58 ∨ j = 60 by omega) with rfl | rfl | rfl | rfl | rfl | rfl | rfl | rfl
      · exact .inr (.inr (.inl ⟨rfl, .inl rfl⟩))
      · exact .inl (XV_s (.inl (.inl ⟨rfl, by omega⟩)))
      · exact .inl (.inr (.inr (.inr (.inr (.inr (.inr (.inr (.inr (.inr ⟨rfl, .inr rfl⟩)))))))))
      · exact .inl (XV_s (.inl (.inl ⟨rfl, by omega⟩)))
      · exact .inl (XV_s (.inl (.inl ⟨rfl, by omega⟩)))
      · exact .inl (XV_s (.inl (.inl ⟨rfl, by omega⟩)))
      · exact .inl (XV_s (.inr (.inl ⟨rfl, rfl⟩)))
      · exact .inl (XV_s (.inl (.inr (.inl ⟨rfl, .inl rfl⟩)))))).trans ((Un_sI (.inl (XV_s (.inr (.inr (.inl ⟨rfl, rfl⟩)))))).trans (k10.mono (fun r j _ _ q => .inl (XV_s q))))
  have uB7 : Un (fun r j => (r = 176 ∧ j ≠ 7 ∧ j ≠ 8) ∨ (225 ≤ r ∧ r < 232)) (sI (sI σr 6 7 (gI σr 8 8)) 6 8 (gI σr 8 9)) β' := (k3.mono (fun r j _ _ q => by omega)).trans ((Un_sI (by omega)).trans (k10.mono (fun r j _ _ q => by unfold XV XU XL at q; omega)))
  have hS1' := hS1
  have b1761 : gI β' 176 1 = 0 := by
    rw [k10.i (by omega) (by omega) (by omega) (by unfold XV XU XL; omega), gI_sI, if_neg (by omega)]; exact k4
  by_cases hl : lL st' = true
  · have hc40 : c' ≤ 40 := (k11 hl).2.1
    obtain ⟨SS, β2, j1, j2, j3, j4, j5, j6, j7, j8, j9, j10, j11, j12, j13⟩ := f2 hl
    have e2 := d2 hl _ j3 j4
    rw [e2] at e52
    cases e52
    have hlen := Sh_len hSA
    have hS13 : Sh (sR (cpN α' 14 (lc SS).length) 13 k (some α'.1.length)) := r2
    have c8 : ∀ j, gI (sR (cpN α' 14 (lc SS).length) 13 k (some α'.1.length)) 8 j = gI α' 8 j := fun j => by rw [gI_sR]; exact cpN_I (by omega) (by omega)
    obtain ⟨s, e, rfl⟩ := lx_live hl
    have g88 : gI α' 8 8 = 0 := k7.2.2.2.1
    have g89 : gI α' 8 9 = -1 := k7.2.2.2.2
    refine ⟨_, _, β2, eC, hS1, ?_, P, S, N, M, K, np, t, 0, ?_⟩
    · rw [eR]; exact j5
    -- all of it again
    have w2 : Un Xw (sI (sI (sR (cpN α' 14 (lc SS).length) 13 k (some α'.1.length)) 6 7 (gI (sR (cpN α' 14 (lc SS).length) 13 k (some α'.1.length)) 8 8)) 6 8 (gI (sR (cpN α' 14 (lc SS).length) 13 k (some α'.1.length)) 8 9)) β2 := (uB.mono (fun r j _ _ q => .inl q)).trans (j7.mono (fun r j _ _ q => by
      rcases q with q | q | q
      · exact .inl (.inl (XV_s (.inl (.inl q))))
      · unfold XY at q
        exact .inr (.inr (by omega))
      · exact .inl (.inr (.inr (.inl ⟨q.1, by omega⟩)))))
    have wc1 : Un Xw (sR (cpN α' 14 (lc SS).length) 13 k (some α'.1.length)) (sI (sI (sR (cpN α' 14 (lc SS).length) 13 k (some α'.1.length)) 6 7 (gI (sR (cpN α' 14 (lc SS).length) 13 k (some α'.1.length)) 8 8)) 6 8 (gI (sR (cpN α' 14 (lc SS).length) 13 k (some α'.1.length)) 8 9)) := (Un_sI (.inl (.inr (.inl ⟨rfl, .inr (.inl rfl)⟩)))).trans (Un_sI (.inl (.inr (.inl ⟨rfl, .inr (.inr rfl)⟩))))
    have w3 := wc1.trans w2
    have q1 : RQ (α'.1, (sR (cpN α' 14 (lc SS).length) 13 k (some α'.1.length)).2) c P S N M K np := by
      have u13 := cp_un (k := k) hSA (A := 14) (m := (lc SS).length) (r := α'.1.length) (by omega)
      refine RQ_ws (RP_rq hRA) (u13.mono (fun r j _ _ q => .inr (.inl q.1))) ?_
      obtain ⟨-, h2, h3, h4⟩ := hS13
      exact ⟨hSA.1, h2, h3, h4⟩
    have q2 := RQ_ws (RQ_kd q1 hS13) w3 j6
    have len2 : β2.1 = α'.1 ++ [(32, (lc SS).length)] := w3.1
    have ruo : ∀ k', k' < 3 → k' ≠ k → RUk β2 k' := fun k' hk' hne => by
      have u13 := cp_un (k := k) hSA (A := 14) (m := (lc SS).length) (r := α'.1.length) (by omega)
      have x1 : RUk (α'.1, (sR (cpN α' 14 (lc SS).length) 13 k (some α'.1.length)).2) k' := RUk_un (hRA.2.2.2.2.2.2.2.2.2 k' hk') hk' hSA u13 ⟨by omega, by omega, by omega, fun r j a _ _ => by omega, fun j _ _ => by omega⟩
      have x2 : RUk (sR (cpN α' 14 (lc SS).length) 13 k (some α'.1.length)) k' := RUk_kd x1 ⟨_, rfl⟩
      have x3 : RUk β' k' := RU_zs x2 hk' hS13 (((Un_sI (.inr (.inl ⟨rfl, .inr (.inl rfl)⟩))).trans (Un_sI (.inr (.inl ⟨rfl, .inr (.inr rfl)⟩)))).trans uB)
      exact RUk_un x3 hk' (RS_sh k8) j7 ⟨by unfold XL XY; omega, by unfold XL XY; omega, by unfold XL XY; omega, fun r j a b c => by unfold XL XY; omega, fun j a b => by unfold XL XY; omega⟩
    have ruk : RUk β2 k := by
      refine .inr ⟨α'.1.length, SS, ?_, hlen, ?_, ?_, fun i hi => ?_, j2, by omega, j4, j10, j11, j12, j13⟩
      · rw [j7.r (by omega) (by omega) (by omega) (by unfold XL XY; omega), uB7.r (by omega) (by omega) (by omega) (by omega), gR_sI, gR_sI, gR_sR, if_pos ⟨rfl, rfl⟩]
      · unfold tg kd
        rw [len2, List.getElem?_append_right (Nat.le_refl _)]
        simp
      · unfold ln kd
        rw [len2, List.getElem?_append_right (Nat.le_refl _)]
        simp
      · have ht : tg (sR (cpN α' 14 (lc SS).length) 13 k (some α'.1.length)) α'.1.length = 32 := by
          unfold tg kd
          show (match (α'.1 ++ [(32, (lc SS).length)])[α'.1.length]? with | some q => q.1 | none => 0) = 32
          rw [List.getElem?_append_right (Nat.le_refl _)]
          simp
        rw [w3.2.2 _ _ hlen ht, gI_sR, cpN_new (by omega) hi]
        exact j3.2.2 i hi
    have hm1 : σ.1.length = α'.1.length := by rw [uA.1]
    have hm2 : zsl α' = zsl σ := by unfold zsl; rw [uA.1]
    refine RP_rr (RQ_rp (by
      obtain ⟨y1, y2, y4, y6, y7, y8, y9, y10, y11⟩ := q2
      exact ⟨y1, y2, y4, y6, HD_mono y7 (by omega), y8, y9, y10, y11⟩) (fun k' hk' => by
      by_cases q : k' = k
      · rw [q]; exact ruk
      · exact ruo k' hk' q)) (Tp_0 hTT ?_ ?_ ?_ ?_) ⟨?_, ?_⟩ ⟨?_, ?_, fun p hp => ?_⟩
    · intro j
      rw [j7.iA (by omega) (by omega) (by rw [tg_7 (RS_sh k8)]; omega) (by unfold XL XY; omega), uB7.iA (by omega) (by omega) (by rw [tg_7 hS1]; omega) (by omega), gI_sI, if_neg (by omega), gI_sI, if_neg (by omega), gI_sR, cpN_I (by omega) (by omega), u7.iA (by omega) (by omega) (by rw [tg_7 hS]; omega) (by omega)]
    · intro j hj
      rw [j7.iA (by omega) (by omega) (by rw [tg_177 (RS_sh k8)]; omega) (by unfold XL XY; omega), uB7.iA (by omega) (by omega) (by rw [tg_177 hS1]; omega) (by omega), gI_sI, if_neg (by omega), gI_sI, if_neg (by omega), gI_sR, cpN_I (by omega) (by omega), u7.iA (by omega) (by omega) (by rw [tg_177 hS]; omega) (by omega)]
    · rw [j7.i (by omega) (by omega) (by omega) (by unfold XL XY; omega), uB7.i (by omega) (by omega) (by omega) (by omega), gI_sI, if_neg (by omega), gI_sI, if_neg (by omega), gI_sR, cpN_I (by omega) (by omega), k9.i (by omega) (by omega) (by omega) (by unfold XD; omega), gI_sI, if_neg (by omega), a3.i (by omega) (by omega) (by omega) (by omega), gI_sI, if_pos ⟨rfl, rfl⟩]
    · rw [j7.i (by omega) (by omega) (by omega) (by unfold XL XY; omega)]; exact b1761
    · rw [j8, j7.i (by omega) (by omega) (by omega) (by unfold XL XY; omega), uB7.i (by omega) (by omega) (by omega) (by omega), gI_sI, if_neg (by omega), gI_sI, if_pos ⟨rfl, rfl⟩, c8, g88]
    · rw [j9, j7.i (by omega) (by omega) (by omega) (by unfold XL XY; omega), uB7.i (by omega) (by omega) (by omega) (by omega), gI_sI, if_pos ⟨rfl, rfl⟩, c8, g89]
    · rw [len2, List.length_append]
      have := hM.1
      simp only [List.length_singleton]
      omega
    · have e9 : zsl β2 = zsl α' + (lc SS).length := by
        unfold zsl
        rw [len2, List.map_append, List.sum_append]
        simp
      have := hM.2.1
      omega
    · obtain ⟨m, y1, y2⟩ := hM.2.2 p hp
      refine ⟨m, by omega, ?_⟩
      rw [j7.i (by omega) (by omega) (by omega) (by unfold XL XY; omega), uB7.i (by omega) (by omega) (by omega) (by omega), gI_sI, if_neg (by omega), gI_sI, if_neg (by omega), gI_sR, cpN_I (by omega) (by omega), u7.i (by omega) (by omega) (by omega) (by omega)]
      exact y2
  · have e2 := d1 hl
    rw [e2] at e52
    cases e52
    refine ⟨-1, _, _, eC, hS1, by rw [eR]; exact f1 hl, P, S, N, M, K, np, t, 0, ?_⟩
    have hSB := RS_sh k8
    have w2 : Un Xz σ (sI (sI β' 176 7 (gI β' 176 5)) 176 8 (gI β' 176 6)) := uA.trans (((Un_sI (.inr (.inl ⟨rfl, .inr (.inl rfl)⟩))).trans (Un_sI (.inr (.inl ⟨rfl, .inr (.inr rfl)⟩)))).trans (uB.trans ((Un_sI (.inr (.inr (.inl ⟨rfl, .inr (.inl rfl)⟩)))).trans (Un_sI (.inr (.inr (.inl ⟨rfl, .inr (.inr rfl)⟩)))))))
    have hS2 : Sh (sI (sI β' 176 7 (gI β' 176 5)) 176 8 (gI β' 176 6)) := (hSB.sI (by omega)).sI (by omega)
    match st', hl, k7, k8 with
    | .inl _, hl, _, _ => exact absurd rfl hl
    | .inr (f, p), _, k7, k8 =>
      have g88 : gI σr 8 8 = nI f := k7.2.2.1
      have g89 : gI σr 8 9 = nI p := k7.2.2.2.1
      have g5 : gI β' 176 5 = nI f := k8.2.2.1
      have g6 : gI β' 176 6 = nI p := k8.2.2.2
      refine RR_mono (RP_rr (RP_zs hRP w2 hS2) (Tp_0 hTT ?_ ?_ ?_ ?_) ⟨?_, ?_⟩ (rm_z hM w2)) (by omega)
      · intro j
        rw [gI_sI, if_neg (by omega), gI_sI, if_neg (by omega), uB7.iA (by omega) (by omega) (by rw [tg_7 hS1]; omega) (by omega), gI_sI, if_neg (by omega), gI_sI, if_neg (by omega), u7.iA (by omega) (by omega) (by rw [tg_7 hS]; omega) (by omega)]
      · intro j hj
        rw [gI_sI, if_neg (by omega), gI_sI, if_neg (by omega), uB7.iA (by omega) (by omega) (by rw [tg_177 hS1]; omega) (by omega), gI_sI, if_neg (by omega), gI_sI, if_neg (by omega), u7.iA (by omega) (by omega) (by rw [tg_177 hS]; omega) (by omega)]
      · rw [gI_sI, if_neg (by omega), gI_sI, if_neg (by omega), uB7.i (by omega) (by omega) (by omega) (by omega), gI_sI, if_neg (by omega), gI_sI, if_neg (by omega), k9.i (by omega) (by omega) (by omega) (by unfold XD; omega), gI_sI, if_neg (by omega), a3.i (by omega) (by omega) (by omega) (by omega), gI_sI, if_pos ⟨rfl, rfl⟩]
      · rw [gI_sI, if_neg (by omega), gI_sI, if_neg (by omega)]; exact b1761
      · rw [gI_sI, if_neg (by omega), gI_sI, if_neg (by omega), uB7.i (by omega) (by omega) (by omega) (by omega), gI_sI, if_neg (by omega), gI_sI, if_pos ⟨rfl, rfl⟩, gI_sI, if_neg (by omega), gI_sI, if_pos ⟨rfl, rfl⟩, g88, g5]
      · rw [gI_sI, if_neg (by omega), gI_sI, if_neg (by omega), uB7.i (by omega) (by omega) (by omega) (by omega), gI_sI, if_pos ⟨rfl, rfl⟩, gI_sI, if_pos ⟨rfl, rfl⟩, g89, g6]
end
