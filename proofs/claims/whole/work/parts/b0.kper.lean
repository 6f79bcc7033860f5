/-! person: both answer alike -/
section
variable {σ σ' σ1 σ2 α α' β β' : zS} {X : Nat → Nat → Prop} {u : Option Value} {B P S N M K np c k n m i so mC mR : Nat} {aC aR : List Value} {t : Nat → Nat} {st : lx}
theorem r_asked (hS : Sh σ) (h : gI σ 214 4 = nI M) (hM : M ≤ 4) (a b : Int32) : zM 242 [.ref 176, .int a, .int b] σ = some (some (.int (if (0 ≤ a ∧ a < nI M) ∧ 30 ≤ b ∧ b ≤ 49 then 1 else 0)), σ) := by
  have a4 : ai σ 32 48 214 4 = true := ai_nI (k := 4) (.inl (tg_214 hS)) (ln_214 hS) (by omega) (by omega)
  rw [q_X12_isAsked]
  simp -implicitDefEqProofs only [tg_sI, ln_sI, tg_sL, ln_sL, tg_sR, ln_sR, tg_sC, ln_sC, ai_sI, ai_sL, gL_sI, gR_sI, gI_sL, gR_sL, gI_sR, gL_sR, gI_sI, gL_sL, gR_sR, zlt_e, zln_e, zli_e, zll_e, zbI_e, zbL_e, zbR_e, zbV_e, zeR_e, zeN_s, zeN_n, Nat.reduceEqDiff, and_self, and_true, true_and, and_false, false_and, ite_true, ite_false, reduceIte, tg_176 hS, gR_176_47 hS, a4, show ix (4 : Int32) = 4 from rfl, h, rng_r a (show M < 2 ^ 31 by omega), sz_r]
  by_cases p : 0 ≤ a ∧ a < nI M
  · by_cases q : 30 ≤ b ∧ b ≤ 49
    · rw [if_pos p, if_neg (by decide), if_pos q, if_neg (by decide), if_pos ⟨p, q⟩]
    · rw [if_pos p, if_neg (by decide), if_neg q, if_pos rfl, if_neg (fun z => q z.2)]
  · rw [if_neg p, if_pos rfl, if_neg (fun z => p z.1)]
theorem op_person (h : RR B σ c P S N M K np t n) (a b : Int32) : Al B σ c 136 [.ref 6, .int a, .int b] 243 [.ref 176, .int a, .int b] := by
  have hN := RR_hn h
  have hR := h
  have cs := c_isSort (a := a) h.1 h.2.1.1 h.2.1.2.2.2.1 hN.2.1.1
  have ra := fun (s : zS) (x : Sh s) (y : gI s 214 4 = nI M) => r_asked x y hN.2.1.2.1 a b
  have p10 := (RR_pn h).2.1
  have p70 := (RR_pn h).2.2
  have p20 := (RR_pn h).1
  have no : ¬ ((0 ≤ a ∧ a < nI M) ∧ 30 ≤ b ∧ b ≤ 49) → zM 243 [.ref 176, .int a, .int b] σ = some (some (.int (-1)), σ) := fun q => by
    rw [q_X12_person]
    simp -implicitDefEqProofs only [tg_sI, ln_sI, tg_sL, ln_sL, tg_sR, ln_sR, tg_sC, ln_sC, ai_sI, ai_sL, gL_sI, gR_sI, gI_sL, gR_sL, gI_sR, gL_sR, gI_sI, gL_sL, gR_sR, zlt_e, zln_e, zli_e, zll_e, zbI_e, zbL_e, zbR_e, zbV_e, zeR_e, zeN_s, zeN_n, Nat.reduceEqDiff, and_self, and_true, true_and, and_false, false_and, ite_true, ite_false, reduceIte, tg_176 h.1, ra σ h.1 hN.2.1.2.2, if_neg q]
    split <;> rfl
  rcases rng_no a (N := M) (by have := hN.2.1.2.1; omega) with q | ⟨so, hso, rfl⟩
  · refine Al_rd h (-1) ?_ (no (fun z => q z.1))
    rw [q_X11_person]
    simp -implicitDefEqProofs only [tg_sI, ln_sI, tg_sL, ln_sL, tg_sR, ln_sR, tg_sC, ln_sC, ai_sI, ai_sL, gL_sI, gR_sI, gI_sL, gR_sL, gI_sR, gL_sR, gI_sI, gL_sL, gR_sR, zlt_e, zln_e, zli_e, zll_e, zbI_e, zbL_e, zbR_e, zbV_e, zeR_e, zeN_s, zeN_n, Nat.reduceEqDiff, and_self, and_true, true_and, and_false, false_and, ite_true, ite_false, reduceIte, tg_6 h.1, cs, if_neg q]
  have q := rng_ok hso (by have := hN.2.1.2.1; omega)
  by_cases qb : 30 ≤ b ∧ b ≤ 49
  · by_cases q20 : np = 20
    · subst q20
      refine Al_rd h (-1) ?_ ?_
      · rw [q_X11_person]
        simp -implicitDefEqProofs only [tg_sI, ln_sI, tg_sL, ln_sL, tg_sR, ln_sR, tg_sC, ln_sC, ai_sI, ai_sL, gL_sI, gR_sI, gI_sL, gR_sL, gI_sR, gL_sR, gI_sI, gL_sL, gR_sR, zlt_e, zln_e, zli_e, zll_e, zbI_e, zbL_e, zbR_e, zbV_e, zeR_e, zeN_s, zeN_n, Nat.reduceEqDiff, and_self, and_true, true_and, and_false, false_and, ite_true, ite_false, reduceIte, tg_6 h.1, cs, if_pos q, sz_c, if_pos qb, p10]
        rw [if_neg (by decide), if_neg (by decide), if_neg (by decide)]
      · rw [q_X12_person]
        simp -implicitDefEqProofs only [tg_sI, ln_sI, tg_sL, ln_sL, tg_sR, ln_sR, tg_sC, ln_sC, ai_sI, ai_sL, gL_sI, gR_sI, gI_sL, gR_sL, gI_sR, gL_sR, gI_sI, gL_sL, gR_sR, zlt_e, zln_e, zli_e, zll_e, zbI_e, zbL_e, zbR_e, zbV_e, zeR_e, zeN_s, zeN_n, Nat.reduceEqDiff, and_self, and_true, true_and, and_false, false_and, ite_true, ite_false, reduceIte, tg_176 h.1, p70]
        rw [if_pos (show nI 20 = 20 from rfl)]
    · have hS := h.1
      have hP := h.2.1.1
      have hb := HPb hP
      obtain ⟨g1, g2, g3, g4, g5, ⟨h1, h2, h3, h4, h5, h6, h7, h8, h9, h10⟩, g7, g8, g9, g10, g11, g12, g13⟩ := h
      have n1 := h1.1.2.1
      have n2 := h1.2.1.2.1
      have n3 := h1.2.2.2.1
      have n4 := g8.1
      have hlt : np < 20 := by omega
      have hso4 : so < 4 := by omega
      have qb' := qb
      obtain ⟨z, z1, z2, rfl⟩ := sz_ix qb
      obtain ⟨s1, f1, f2, f3, f4, f5, f6, f7, f8, f9, f10, f11, f12⟩ := c_begin (so := so) (k := np) (A := P + 25 + 2 * so) hS hlt (tg_Pfeet hS hP hso4) (ln_Pfeet hS hP hso4) (by omega) (nI z)
      have hS2 : Sh (sI s1 6 10 (nI (np + 1))) := f2.sI (by omega)
      have c10 : gI s1 6 10 = nI np := by rw [f3.i (by omega) (by omega) (by omega) (by omega)]; exact p10
      obtain ⟨s3, r1, r2, r3, r4, r5, r6, r7, r8, r9, r10, r11, r12⟩ := r_comes (so := so) (k := np) hS2 hlt hso4 (nI z)
      have u1 : Un (fun r j => (r = 6 ∧ j = 10) ∨ (r = 116 + 3 * np ∧ j ≠ 2) ∨ r = 117 + 3 * np ∨ r = 118 + 3 * np) σ (sI s1 6 10 (nI (np + 1))) := (f3.mono (fun r j _ _ q => .inr q)).trans (Un_sI (by omega))
      have b70 : gI (sI s1 6 10 (nI (np + 1))) 176 70 = nI np := by rw [u1.i (by omega) (by omega) (by omega) (by omega)]; exact p70
      have c70 : gI s3 176 70 = nI np := by rw [r3.i (by omega) (by omega) (by omega) (by omega)]; exact b70
      have b214 : gI (sI s1 6 10 (nI (np + 1))) 214 4 = nI M := by rw [u1.i (by omega) (by omega) (by omega) (by omega)]; exact hN.2.1.2.2
      have hS4 : Sh (sI s3 176 70 (nI (np + 1))) := r2.sI (by omega)
      have w : Un (fun r j => ((r = 6 ∧ j = 10) ∨ (r = 116 + 3 * np ∧ j ≠ 2) ∨ r = 117 + 3 * np ∨ r = 118 + 3 * np) ∨ (r = 176 ∧ j = 70) ∨ ((r = 232 ∨ r = 233 ∨ (236 ≤ r ∧ r ≤ 240)) ∧ j = np) ∨ (r = 234 ∧ 5 * np ≤ j ∧ j < 5 * np + 5) ∨ (r = 242 ∧ 160 * np ≤ j ∧ j < 160 * np + 160)) σ (sI s3 176 70 (nI (np + 1))) := (u1.mono (fun r j _ _ q => .inl q)).trans ((r3.mono (fun r j _ _ q => .inr (.inr q))).trans (Un_sI (.inr (.inl ⟨rfl, rfl⟩))))
      have kp : ∀ r j, 116 ≤ r → r < 176 → j < 100 → gI (sI s3 176 70 (nI (np + 1))) r j = gI s1 r j := fun r j a b d => by
        rw [gI_sI, if_neg (by omega), r3.i (by omega) (by omega) d (by omega), gI_sI, if_neg (by omega)]
      have k2 : ∀ r j, 232 ≤ r → r < 243 → gI (sI s3 176 70 (nI (np + 1))) r j = gI s3 r j := fun r j a b => by
        rw [gI_sI, if_neg (by omega)]
      refine ⟨nI np, sI s1 6 10 (nI (np + 1)), sI s3 176 70 (nI (np + 1)), ?_, hS2, ?_, P, S, N, M, K, np + 1, t, n, RR_mono (c := c) ⟨hS4, Hs_un g2 w ⟨by omega, by omega⟩, Tp_un g3 g1 w ⟨fun j => by omega, fun j => by omega, by omega, by omega⟩, Ow_un g4 g1 w (fun r j a => by omega), Ft_un g5 w ⟨by omega, by omega, by omega, by omega⟩, ⟨HN_un h1 hP w (fun j _ _ => by omega) (fun j _ _ => by omega), HF_un h2 hP w ⟨by omega, by omega⟩ ⟨by omega, by omega⟩, HC_un h3 hP w (by omega) (by omega), HPl_un h4 hP w (fun j _ => by omega) (fun j _ _ => by omega), (fun k hk => HL_un (h5 k hk) (by omega) hP w (fun j _ => by omega) ⟨by omega, by omega⟩), (fun k hk => HO_un (h6 k hk) (by omega) hP w (fun j => ⟨by omega, by omega⟩) ⟨by omega, by omega, by omega, by omega, fun d _ => by omega⟩), (fun k hk => HQ_un (h7 k hk) (by omega) hP w (fun j => ⟨by omega, by omega⟩) ⟨by omega, fun d _ => by omega⟩), (fun k hk => HR_un (h8 k hk) (by omega) hP w (fun j => by omega) (fun r _ => by omega)), (fun k hk => HU_un (h9 k hk) (by omega) hP w (by omega) (by omega)), HS_un h10 n1 g1 hP w (fun j => by omega) (fun j _ => by omega)⟩, HD_un g7 g1 hP w ⟨by omega, by omega, fun j => by omega⟩ ⟨by omega, by omega, fun j => by omega, fun j => by omega⟩, ⟨by omega, ?_, ?_⟩, fun p hp' => ?_, IM_un g10 g1 w ⟨by omega, by omega, fun j => by omega, fun j => by omega⟩, MS_un g11 w ⟨by omega, by omega, by omega, by omega⟩, (fun k hk => RUk_un (g12 k hk) hk g1 w ⟨by omega, by omega, by omega, fun r j a _ _ => by omega, fun j _ _ => by omega⟩), ⟨by rw [w.1]; exact g13.1, by unfold zsl; rw [w.1]; exact g13.2.1, fun p hp' => by
        by_cases hp : p = np
        · refine ⟨0, by omega, ?_⟩
          rw [hp, k2 _ _ (by omega) (by omega)]; exact r7
        · rw [w.i (by omega) (by omega) (by omega) (by omega)]; exact g13.2.2 p hp'⟩⟩ (by omega)⟩
      · have e19 : nI np < 20 := nI_lt (b := 20) hlt (by omega)
        rw [q_X11_person]
        simp -implicitDefEqProofs only [tg_sI, ln_sI, tg_sL, ln_sL, tg_sR, ln_sR, tg_sC, ln_sC, ai_sI, ai_sL, gL_sI, gR_sI, gI_sL, gR_sL, gI_sR, gL_sR, gI_sI, gL_sL, gR_sR, zlt_e, zln_e, zli_e, zll_e, zbI_e, zbL_e, zbR_e, zbV_e, zeR_e, zeN_s, zeN_n, Nat.reduceEqDiff, and_self, and_true, true_and, and_false, false_and, ite_true, ite_false, reduceIte, tg_6 hS, cs, if_pos q, sz_c, if_pos qb', p10, if_pos e19, gR_6_9 hS]
        rw [if_neg (by decide), if_neg (by decide), if_pos (ai_nI (.inl (tg_104 hS)) (ln_104 hS) hlt (by omega)), ixn (show np < 2 ^ 31 by omega), gR_people hS hlt]
        simp -implicitDefEqProofs only [tg_sI, ln_sI, tg_sL, ln_sL, tg_sR, ln_sR, tg_sC, ln_sC, ai_sI, ai_sL, gL_sI, gR_sI, gI_sL, gR_sL, gI_sR, gL_sR, gI_sI, gL_sL, gR_sR, zlt_e, zln_e, zli_e, zll_e, zbI_e, zbL_e, zbR_e, zbV_e, zeR_e, zeN_s, zeN_n, Nat.reduceEqDiff, and_self, and_true, true_and, and_false, false_and, ite_true, ite_false, reduceIte, g2.2.2.2.1, tg_P hS hP, gR_P_1 hS hP]
        rw [if_pos (ai_nI (.inl (tg_P2 hS hP)) (ln_P2 hS hP) hso4 (by omega)), ixn (by omega), gR_Psort hS hP hso4]
        simp -implicitDefEqProofs only [tg_sI, ln_sI, tg_sL, ln_sL, tg_sR, ln_sR, tg_sC, ln_sC, ai_sI, ai_sL, gL_sI, gR_sI, gI_sL, gR_sL, gI_sR, gL_sR, gI_sI, gL_sL, gR_sR, zlt_e, zln_e, zli_e, zll_e, zbI_e, zbL_e, zbR_e, zbV_e, zeR_e, zeN_s, zeN_n, Nat.reduceEqDiff, and_self, and_true, true_and, and_false, false_and, ite_true, ite_false, reduceIte, tg_Psort hS hP hso4, gR_Pfeet hS hP hso4, tg_person hS hlt, f1, q_X11_person_27, tg_6 f2, c10, nI_1]
        rw [nI_subR (n := 1) (by omega), show np + 1 - 1 = np by omega]
      · have e20 : ¬ nI np = 20 := fun z => by
          have := congrArg Int32.toInt z
          rw [nI_toInt (by omega)] at this
          have e : (20 : Int32).toInt = 20 := by decide
          omega
        rw [q_X12_person]
        simp -implicitDefEqProofs only [zbI_e, zbV_e, zeR_e, zlt_e, tg_176 hS2, b70, if_neg e20, ra _ hS2 b214, if_pos (show (0 ≤ nI so ∧ nI so < nI M) ∧ 30 ≤ nI z ∧ nI z ≤ 49 from ⟨q, qb'⟩), r1, tg_176 r2, c70, nI_1, tg_176 hS4, ite_true]
        rw [if_neg (by decide), gI_sI, if_pos ⟨rfl, rfl⟩, nI_subR (n := 1) (by omega), show np + 1 - 1 = np by omega]
      · rw [gI_sI, if_neg (by omega), r3.i (by omega) (by omega) (by omega) (by omega), gI_sI, if_pos ⟨rfl, rfl⟩]
      · rw [gI_sI, if_pos ⟨rfl, rfl⟩]
      · by_cases hp : p < np
        · have hp20 : p < 20 := by omega
          obtain ⟨so', z', p1, p2, p3, p4, p5, p6, p7, p8⟩ := g9 p hp
          exact ⟨so', z', p1, p2, p3, PA_un p4 hp20 w ⟨by omega, by omega, by omega, by omega⟩, PF_un p5 hp20 g1 w ⟨fun d => by omega, fun d _ => by omega⟩, PB_un p6 hp20 w ⟨by omega, by omega, by omega, by omega⟩, PT_un p7 hp20 w ⟨by omega, by omega⟩, PK_un p8 hp20 p3 g1 w ⟨by omega, by omega, by omega, by omega, fun j => by omega, fun j _ _ => by omega⟩⟩
        · have ep : p = np := by omega
          subst ep
          obtain ⟨-, -, -, -, ff, ff1, ff2⟩ := h6 so hso
          refine ⟨so, z, hso, z1, z2, ⟨?_, ?_, ?_, ?_⟩, ⟨fun d => 100 * ff d, by simp only; omega, fun d hd => ⟨?_, ?_⟩⟩, .inl ⟨?_, ?_, ?_, ?_⟩, ⟨?_, .inl ?_⟩, ?_, ?_, fun l hl i hi => ?_, fun l hl s hs _ => ?_, ?_⟩
          · rw [kp _ _ (by omega) (by omega) (by omega)]; exact f4
          · rw [k2 _ _ (by omega) (by omega)]; exact r4
          · rw [kp _ _ (by omega) (by omega) (by omega)]; exact f5
          · rw [k2 _ _ (by omega) (by omega)]; exact r5
          · rw [kp _ _ (by omega) (by omega) (by omega), f6 d hd]; exact (ff2 d hd).1
          · rw [k2 _ _ (by omega) (by omega), r6 d hd, u1.i (by omega) (by omega) (by omega) (by omega), (ff2 d hd).2]; exact nI_mulL 100 (ff d)
          · rw [kp _ _ (by omega) (by omega) (by omega)]; exact f9
          · rw [k2 _ _ (by omega) (by omega)]; exact r9
          · rw [kp _ _ (by omega) (by omega) (by omega)]; exact f10
          · rw [k2 _ _ (by omega) (by omega)]; exact r10
          · rw [kp _ _ (by omega) (by omega) (by omega), k2 _ _ (by omega) (by omega), f11, r11]
          · rw [k2 _ _ (by omega) (by omega)]; exact r11
          · rw [kp _ _ (by omega) (by omega) (by omega), k2 _ _ (by omega) (by omega), f7, r7]
          · rw [kp _ _ (by omega) (by omega) (by omega), k2 _ _ (by omega) (by omega), f8, r8]
          · rw [kp _ _ (by omega) (by omega) (by omega), f12 _ (by omega)]
            split
            · rw [k2 _ _ (by omega) (by omega), Nat.add_assoc, r12 _ (by omega)]
            · rfl
          · rw [k2 _ _ (by omega) (by omega), Nat.add_assoc, r12 _ (by omega)]
          · rw [k2 _ _ (by omega) (by omega), k2 _ _ (by omega) (by omega), r7, r8, s32_0 160 (fun k hk => by rw [k2 _ _ (by omega) (by omega)]; exact r12 k hk)]
            rfl
  · refine Al_rd h (-1) ?_ (no (fun z => qb z.2))
    rw [q_X11_person]
    simp -implicitDefEqProofs only [tg_sI, ln_sI, tg_sL, ln_sL, tg_sR, ln_sR, tg_sC, ln_sC, ai_sI, ai_sL, gL_sI, gR_sI, gI_sL, gR_sL, gI_sR, gL_sR, gI_sI, gL_sL, gR_sR, zlt_e, zln_e, zli_e, zll_e, zbI_e, zbL_e, zbR_e, zbV_e, zeR_e, zeN_s, zeN_n, Nat.reduceEqDiff, and_self, and_true, true_and, and_false, false_and, ite_true, ite_false, reduceIte, tg_6 h.1, cs, if_pos q, sz_c, if_neg qb]
    rw [if_neg (by decide)]
end
