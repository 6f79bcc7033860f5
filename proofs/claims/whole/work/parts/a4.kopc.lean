/-! stock, print, fee -/
section
variable {σ σ' σ1 σ2 α α' β β' : zS} {X : Nat → Nat → Prop} {u : Option Value} {B P S N M K np c k n m i mC mR : Nat} {aC aR : List Value} {t : Nat → Nat} {st : lx}
theorem sz_ix {b : Int32} (q : 30 ≤ b ∧ b ≤ 49) : ∃ z, 30 ≤ z ∧ z ≤ 49 ∧ b = nI z := by
  have q1 := Int32.le_iff_toInt_le.mp q.1
  have q2 := Int32.le_iff_toInt_le.mp q.2
  have e1 : (30 : Int32).toInt = 30 := by decide
  have e2 : (49 : Int32).toInt = 49 := by decide
  rcases pk_ix b (n := 50) (by omega) with z | z | ⟨k, hk, rfl⟩
  · rw [Int32.lt_iff_toInt_lt] at z
    have e0 : (0 : Int32).toInt = 0 := rfl
    omega
  · rw [Int32.le_iff_toInt_le, nI_toInt (by omega)] at z
    omega
  · rw [nI_toInt (by omega)] at q1 q2
    exact ⟨k, by omega, by omega, rfl⟩
theorem op_stock (h : RR B σ c P S N M K np t n) (a b : Int32) : Al B σ c 163 [.ref 6, .int a, .int b] 288 [.ref 176, .int a, .int b] := by
  have hS := h.1
  have hP := h.2.1.1
  have n8 := (RR_hn h).1.2.1
  rcases rng_no a (N := N) (by omega) with q | ⟨k, hk, rfl⟩
  · refine Al_rd h (-1) ?_ ?_
    · rw [q_X11_stock]
      simp -implicitDefEqProofs only [tg_sI, ln_sI, tg_sL, ln_sL, tg_sR, ln_sR, tg_sC, ln_sC, ai_sI, ai_sL, gL_sI, gR_sI, gI_sL, gR_sL, gI_sR, gL_sR, gI_sI, gL_sL, gR_sR, zlt_e, zln_e, zli_e, zll_e, zbI_e, zbL_e, zbR_e, zbV_e, zeR_e, zeN_s, zeN_n, Nat.reduceEqDiff, and_self, and_true, true_and, and_false, false_and, ite_true, ite_false, reduceIte, tg_6 hS, RR_cL h, if_neg q]
    · rw [q_X12_stock]
      simp -implicitDefEqProofs only [tg_sI, ln_sI, tg_sL, ln_sL, tg_sR, ln_sR, tg_sC, ln_sC, ai_sI, ai_sL, gL_sI, gR_sI, gI_sL, gR_sL, gI_sR, gL_sR, gI_sI, gL_sL, gR_sR, zlt_e, zln_e, zli_e, zll_e, zbI_e, zbL_e, zbR_e, zbV_e, zeR_e, zeN_s, zeN_n, Nat.reduceEqDiff, and_self, and_true, true_and, and_false, false_and, ite_true, ite_false, reduceIte, tg_176 hS, RR_rL h, if_neg q]
  · have q := rng_ok hk (by omega)
    by_cases qb : 30 ≤ b ∧ b ≤ 49
    · have qb' := qb
      obtain ⟨z, z1, z2, rfl⟩ := sz_ix qb
      have hs : HS σ P N := h.2.2.2.2.2.1.2.2.2.2.2.2.2.2.2
      have e1 : nI k * 20 + nI z - 30 = nI (20 * k + z - 30) := by
        rw [nI_mulR 20 k, nI_add, nI_subR (n := 30) (by omega), Nat.mul_comm]
      have e2 : 160 + 20 * nI k + nI z - 30 = nI (160 + (20 * k + z - 30)) := by
        rw [nI_mulL 20 k, nI_addL 160 (20 * k), nI_add, nI_subR (n := 30) (by omega)]
        congr 1
        omega
      refine Al_rd h (gI σ 224 (160 + (20 * k + z - 30))) ?_ ?_
      · rw [q_X11_stock]
        simp -implicitDefEqProofs only [tg_sI, ln_sI, tg_sL, ln_sL, tg_sR, ln_sR, tg_sC, ln_sC, ai_sI, ai_sL, gL_sI, gR_sI, gI_sL, gR_sL, gI_sR, gL_sR, gI_sI, gL_sL, gR_sR, zlt_e, zln_e, zli_e, zll_e, zbI_e, zbL_e, zbR_e, zbV_e, zeR_e, zeN_s, zeN_n, Nat.reduceEqDiff, and_self, and_true, true_and, and_false, false_and, ite_true, ite_false, reduceIte, tg_6 hS, RR_cL h, if_pos q, sz_c, if_pos qb', h.2.1.2.2.2.1, tg_P hS hP, gR_P_4 hS hP, tg_P5 hS hP, q_X9_count, gR_P5_0 hS hP, q_X9_placeOf, e1]
        rw [if_neg (by decide), if_neg (by decide), if_pos (ai_nI (.inl (tg_P6 hS hP)) (ln_P6 hS hP) (show 20 * k + z - 30 < 160 by omega) (by omega)), ixn (by omega), zbI_e, hs _ (by omega)]
      · rw [q_X12_stock]
        simp -implicitDefEqProofs only [tg_sI, ln_sI, tg_sL, ln_sL, tg_sR, ln_sR, tg_sC, ln_sC, ai_sI, ai_sL, gL_sI, gR_sI, gI_sL, gR_sL, gI_sR, gL_sR, gI_sI, gL_sL, gR_sR, zlt_e, zln_e, zli_e, zll_e, zbI_e, zbL_e, zbR_e, zbV_e, zeR_e, zeN_s, zeN_n, Nat.reduceEqDiff, and_self, and_true, true_and, and_false, false_and, ite_true, ite_false, reduceIte, tg_176 hS, RR_rL h, if_pos q, sz_r, if_pos qb', gR_176_57 hS, q_X12_stockAt, e2]
        rw [if_neg (by decide), if_neg (by decide), if_pos (ai_nI (.inl (tg_224 hS)) (ln_224 hS) (show 160 + (20 * k + z - 30) < 320 by omega) (by omega)), ixn (by omega)]
    · refine Al_rd h (-1) ?_ ?_
      · rw [q_X11_stock]
        simp -implicitDefEqProofs only [tg_sI, ln_sI, tg_sL, ln_sL, tg_sR, ln_sR, tg_sC, ln_sC, ai_sI, ai_sL, gL_sI, gR_sI, gI_sL, gR_sL, gI_sR, gL_sR, gI_sI, gL_sL, gR_sR, zlt_e, zln_e, zli_e, zll_e, zbI_e, zbL_e, zbR_e, zbV_e, zeR_e, zeN_s, zeN_n, Nat.reduceEqDiff, and_self, and_true, true_and, and_false, false_and, ite_true, ite_false, reduceIte, tg_6 hS, RR_cL h, if_pos q, sz_c, if_neg qb]
        rw [if_neg (by decide)]
      · rw [q_X12_stock]
        simp -implicitDefEqProofs only [tg_sI, ln_sI, tg_sL, ln_sL, tg_sR, ln_sR, tg_sC, ln_sC, ai_sI, ai_sL, gL_sI, gR_sI, gI_sL, gR_sL, gI_sR, gL_sR, gI_sI, gL_sL, gR_sR, zlt_e, zln_e, zli_e, zll_e, zbI_e, zbL_e, zbR_e, zbV_e, zeR_e, zeN_s, zeN_n, Nat.reduceEqDiff, and_self, and_true, true_and, and_false, false_and, ite_true, ite_false, reduceIte, tg_176 hS, RR_rL h, if_pos q, sz_r, if_neg qb]
        rw [if_neg (by decide)]
theorem op_print (h : RR B σ c P S N M K np t n) (a : Int32) : Al B σ c 171 [.ref 6, .int a] 300 [.ref 176, .int a] := by
  have hS := h.1
  have hP := h.2.1.1
  have n8 := (RR_hn h).1.2.1
  rcases rng_no a (N := N) (by omega) with q | ⟨k, hk, rfl⟩
  · refine Al_rd h (-2) ?_ ?_
    · rw [q_X11_print]
      simp -implicitDefEqProofs only [tg_sI, ln_sI, tg_sL, ln_sL, tg_sR, ln_sR, tg_sC, ln_sC, ai_sI, ai_sL, gL_sI, gR_sI, gI_sL, gR_sL, gI_sR, gL_sR, gI_sI, gL_sL, gR_sR, zlt_e, zln_e, zli_e, zll_e, zbI_e, zbL_e, zbR_e, zbV_e, zeR_e, zeN_s, zeN_n, Nat.reduceEqDiff, and_self, and_true, true_and, and_false, false_and, ite_true, ite_false, reduceIte, tg_6 hS, RR_cL h, if_neg q]
    · rw [q_X12_print]
      simp -implicitDefEqProofs only [tg_sI, ln_sI, tg_sL, ln_sL, tg_sR, ln_sR, tg_sC, ln_sC, ai_sI, ai_sL, gL_sI, gR_sI, gI_sL, gR_sL, gI_sR, gL_sR, gI_sI, gL_sL, gR_sR, zlt_e, zln_e, zli_e, zll_e, zbI_e, zbL_e, zbR_e, zbV_e, zeR_e, zeN_s, zeN_n, Nat.reduceEqDiff, and_self, and_true, true_and, and_false, false_and, ite_true, ite_false, reduceIte, tg_176 hS, RR_rL h, if_neg q]
  · have q := rng_ok hk (by omega)
    have k8 : k < 8 := by omega
    obtain ⟨g, -, hg⟩ : HR σ P k := h.2.2.2.2.2.1.2.2.2.2.2.2.2.1 k hk
    have a0 : ai σ 32 48 (P + 9 + 2 * k) 0 = true := ai_nI (k := 0) (.inl (tg_Pruns hS hP k8)) (ln_Pruns hS hP k8) (by omega) (by omega)
    have a2 : ai σ 32 48 (P + 9 + 2 * k) 2 = true := ai_nI (k := 2) (.inl (tg_Pruns hS hP k8)) (ln_Pruns hS hP k8) (by omega) (by omega)
    have g0 := hg 0 (by omega)
    have g2 := hg 2 (by omega)
    have e0 : 3 * nI k = nI (3 * k) := nI_mulL 3 k
    have e2 : nI (3 * k) + 2 = nI (3 * k + 2) := nI_addR 2 (3 * k)
    refine Al_rd h (if nI (g 0) < 6000 then (if nI (g 2) < 6000 then 0 else 1) else -1) ?_ ?_
    · rw [q_X11_print]
      simp -implicitDefEqProofs only [tg_sI, ln_sI, tg_sL, ln_sL, tg_sR, ln_sR, tg_sC, ln_sC, ai_sI, ai_sL, gL_sI, gR_sI, gI_sL, gR_sL, gI_sR, gL_sR, gI_sI, gL_sL, gR_sR, zlt_e, zln_e, zli_e, zll_e, zbI_e, zbL_e, zbR_e, zbV_e, zeR_e, zeN_s, zeN_n, Nat.reduceEqDiff, and_self, and_true, true_and, and_false, false_and, ite_true, ite_false, reduceIte, tg_6 hS, RR_cL h, if_pos q, h.2.1.2.2.2.1, tg_P hS hP, gR_P_0 hS hP]
      rw [if_neg (by decide), if_pos (ai_nI (.inl (tg_P1 hS hP)) (ln_P1 hS hP) k8 (by omega)), ixn (by omega), gR_Plast hS hP k8]
      simp -implicitDefEqProofs only [tg_sI, ln_sI, tg_sL, ln_sL, tg_sR, ln_sR, tg_sC, ln_sC, ai_sI, ai_sL, gL_sI, gR_sI, gI_sL, gR_sL, gI_sR, gL_sR, gI_sI, gL_sL, gR_sR, zlt_e, zln_e, zli_e, zll_e, zbI_e, zbL_e, zbR_e, zbV_e, zeR_e, zeN_s, zeN_n, Nat.reduceEqDiff, and_self, and_true, true_and, and_false, false_and, ite_true, ite_false, reduceIte, tg_Plast hS hP k8, q_X3_lean, gR_Pruns hS hP k8, a0, a2, ix0, ix2, g0.1, g2.1]
      split
      · split <;> rfl
      · rfl
    · rw [q_X12_print]
      simp -implicitDefEqProofs only [tg_sI, ln_sI, tg_sL, ln_sL, tg_sR, ln_sR, tg_sC, ln_sC, ai_sI, ai_sL, gL_sI, gR_sI, gI_sL, gR_sL, gI_sR, gL_sR, gI_sI, gL_sL, gR_sR, zlt_e, zln_e, zli_e, zll_e, zbI_e, zbL_e, zbR_e, zbV_e, zeR_e, zeN_s, zeN_n, Nat.reduceEqDiff, and_self, and_true, true_and, and_false, false_and, ite_true, ite_false, reduceIte, tg_176 hS, RR_rL h, if_pos q, gR_176_74 hS, e0, e2]
      rw [if_neg (by decide), if_pos (ai_nI (.inl (tg_235 hS)) (ln_235 hS) (show 3 * k < 24 by omega) (by omega)), if_pos (ai_nI (.inl (tg_235 hS)) (ln_235 hS) (show 3 * k + 2 < 24 by omega) (by omega)), ixn (show 3 * k < 2 ^ 31 by omega), ixn (show 3 * k + 2 < 2 ^ 31 by omega), g2.2, show gI σ 235 (3 * k) = nI (g 0) from g0.2]
      split
      · split <;> rfl
      · rfl
theorem op_fee (h : RR B σ c P S N M K np t n) (a : Int32) : Al B σ c 169 [.ref 6, .int a] 298 [.ref 176, .int a] := by
  have hR := h
  have hr := fun s => isInL (a := a) (x := 0) (y := 99) (X := 0) (Y := 99) (s := s) (by decide +kernel) (by decide +kernel)
  rcases pk_ix a (n := 100) (by omega) with q | q | ⟨k, hk, rfl⟩
  · have q2 : ¬ (0 ≤ a ∧ a ≤ 99) := fun z => absurd q (Int32.not_lt.mpr z.1)
    refine Al_rd h (-1) ?_ ?_
    · rw [q_X11_fee, if_pos q]
    · rw [q_X12_fee, hr, if_neg q2, zbI_e, if_pos rfl]
  · have q2 : ¬ a ≤ 99 := fun z => by
      have e : (99 : Int32).toInt = 99 := by decide
      rw [Int32.le_iff_toInt_le] at z q
      rw [nI_toInt (by omega)] at q
      omega
    refine Al_rd h (-1) ?_ ?_
    · rw [q_X11_fee, if_neg q2]
      split <;> rfl
    · rw [q_X12_fee, hr, if_neg (fun z => q2 z.2), zbI_e, if_pos rfl]
  · have hS := h.1
    have hP := h.2.1.1
    have hb := HPb hP
    obtain ⟨g1, g2, g3, g4, g5, ⟨h1, h2, h3, h4, h5, h6, h7, h8, h9, h10⟩, g7, g8, g9, g10, g11, g12, g13⟩ := h
    have n1 := h1.1.2.1
    have n2 := h1.2.1.2.1
    have n3 := h1.2.2.2.1
    have n4 := g8.1
    obtain ⟨f, f1, f2, f3⟩ := h3
    have k0 : ¬ nI k < 0 := nI_pos (by omega)
    have k99 : nI k ≤ 99 := nI_le (b := 99) (by omega) (by omega)
    have w : Un (fun r j => (r = P ∧ j = 10) ∨ (r = 223 ∧ j = 5)) σ (sI (sI σ P 10 (nI k)) 223 5 (nI k)) := (Un_sI (by omega)).trans (Un_sI (by omega))
    have hS1 : Sh (sI σ P 10 (nI k)) := hS.sI (by omega)
    have hS2 : Sh (sI (sI σ P 10 (nI k)) 223 5 (nI k)) := hS1.sI (by omega)
    have a5 : ai (sI σ P 10 (nI k)) 32 48 223 5 = true := ai_nI (k := 5) (.inl (tg_223 hS1)) (ln_223 hS1) (by omega) (by omega)
    have a6 : ai (sI σ P 10 (nI k)) 32 32 223 5 = true := ai_nI (k := 5) (.inl (tg_223 hS1)) (ln_223 hS1) (by omega) (by omega)
    refine ⟨nI f, _, _, ?_, hS1, ?_, P, S, N, M, K, np, t, n, RR_mono (c := c) ⟨hS2, Hs_un g2 w ⟨by omega, by omega⟩, Tp_un g3 g1 w ⟨fun j => by omega, fun j => by omega, by omega, by omega⟩, Ow_un g4 g1 w (fun r j a => by omega), Ft_un g5 w ⟨by omega, by omega, by omega, by omega⟩, ⟨HN_un h1 hP w (fun j _ _ => by omega) (fun j _ _ => by omega), HF_un h2 hP w ⟨by omega, by omega⟩ ⟨by omega, by omega⟩, ⟨k, by omega, ?_, ?_⟩, HPl_un h4 hP w (fun j _ => by omega) (fun j _ _ => by omega), (fun k hk => HL_un (h5 k hk) (by omega) hP w (fun j _ => by omega) ⟨by omega, by omega⟩), (fun k hk => HO_un (h6 k hk) (by omega) hP w (fun j => ⟨by omega, by omega⟩) ⟨by omega, by omega, by omega, by omega, fun d _ => by omega⟩), (fun k hk => HQ_un (h7 k hk) (by omega) hP w (fun j => ⟨by omega, by omega⟩) ⟨by omega, fun d _ => by omega⟩), (fun k hk => HR_un (h8 k hk) (by omega) hP w (fun j => by omega) (fun r _ => by omega)), (fun k hk => HU_un (h9 k hk) (by omega) hP w (by omega) (by omega)), HS_un h10 n1 g1 hP w (fun j => by omega) (fun j _ => by omega)⟩, HD_un g7 g1 hP w ⟨by omega, by omega, fun j => by omega⟩ ⟨by omega, by omega, fun j => by omega, fun j => by omega⟩, PN_un g8 w ⟨by omega, by omega⟩, (fun p hp => by
          have hp20 : p < 20 := by omega
          obtain ⟨so, z, p1, p2, p3, p4, p5, p6, p7, p8⟩ := g9 p hp
          exact ⟨so, z, p1, p2, p3, PA_un p4 hp20 w ⟨by omega, by omega, by omega, by omega⟩, PF_un p5 hp20 g1 w ⟨fun d => by omega, fun d _ => by omega⟩, PB_un p6 hp20 w ⟨by omega, by omega, by omega, by omega⟩, PT_un p7 hp20 w ⟨by omega, by omega⟩, PK_un p8 hp20 p3 g1 w ⟨by omega, by omega, by omega, by omega, fun j => by omega, fun j _ _ => by omega⟩⟩), IM_un g10 g1 w ⟨by omega, by omega, fun j => by omega, fun j => by omega⟩, MS_un g11 w ⟨by omega, by omega, by omega, by omega⟩, (fun k hk => RUk_un (g12 k hk) hk g1 w ⟨by omega, by omega, by omega, fun r j a _ _ => by omega, fun j _ _ => by omega⟩), rm_un g13 w (fun j => by omega)⟩ (by omega)⟩
    · rw [q_X11_fee, if_neg k0, if_pos k99]
      simp -implicitDefEqProofs only [tg_sI, ln_sI, tg_sL, ln_sL, tg_sR, ln_sR, tg_sC, ln_sC, ai_sI, ai_sL, gL_sI, gR_sI, gI_sL, gR_sL, gI_sR, gL_sR, gI_sI, gL_sL, gR_sR, zlt_e, zln_e, zli_e, zll_e, zbI_e, zbL_e, zbR_e, zbV_e, zeR_e, zeN_s, zeN_n, Nat.reduceEqDiff, and_self, and_true, true_and, and_false, false_and, ite_true, ite_false, reduceIte, tg_6 hS, g2.2.2.2.1, tg_P hS hP, f2]
    · have f3' : gI (sI σ P 10 (nI k)) 223 5 = nI f := by rw [gI_sI, if_neg (by omega)]; exact f3
      rw [q_X12_fee, hr, if_pos ⟨nI_pos' (by omega), k99⟩]
      simp -implicitDefEqProofs only [zbI_e, zeR_e, zlt_e, tg_176 hS1, gR_176_56 hS1, a5, a6, show ix (5 : Int32) = 5 from rfl, f3', ite_true]
      rw [if_neg (by decide)]
    · rw [gI_sI, if_neg (by omega), gI_sI, if_pos ⟨rfl, rfl⟩]
    · rw [gI_sI, if_pos ⟨rfl, rfl⟩]
end
