/-! the call house: both answer alike, and all stands again -/
section
variable {σ σ' σ1 σ2 α α' β β' : zS} {X : Nat → Nat → Prop} {u : Option Value} {B P S N M K np c k n m i : Nat} {t : Nat → Nat} {st : lx}
theorem FrP_h (hb : 16 ≤ P ∧ P ≤ 60) (hd : P + 44 ≤ S ∨ S + 44 ≤ P) (hs : 16 ≤ S ∧ S ≤ 60) : FrP P (fun r j => Xz r j ∨ (S ≤ r ∧ r < S + 44)) := by
  have w : ∀ {r j}, ¬ Xs r j → (r ≠ 6 ∧ r ≠ 176 ∧ r ≠ 7 ∧ r ≠ 177) → ¬ (S ≤ r ∧ r < S + 44) → ¬ (Xz r j ∨ (S ≤ r ∧ r < S + 44)) := fun a b d q => q.elim (nXz a (by omega) (by omega) (by omega) (by omega)) d
  refine ⟨fun r j a b => w (nX_lo (by omega) (by omega)) (by omega) (by omega), fun r j a b => w (nX_pe a b) (by omega) (by omega), fun r j a b => w (nX_hi a b) (by omega) (by omega), fun j hj q => q.elim (nXz (nX_st (by omega)) (by omega) (by omega) (by omega) (by omega)) (by omega), fun j hj q => q.elim (nXz (nX_rf (by omega)) (by omega) (by omega) (by omega) (by omega)) (by omega), fun r j a b hj => ?_, fun r j a => ?_, fun j hj => w (nX_228 hj) (by omega) (by omega), fun r j a hj => w (nX_229 a hj) (by omega) (by omega), fun j hj => w (nX_225 hj) (by omega) (by omega)⟩
  · have e216 : ∀ j, 24 ≤ j → ¬ Xs 216 j := fun j h q => by unfold Xs XV XU XL XW at q; omega
    rcases (show r = 213 ∨ r = 214 ∨ r = 215 ∨ r = 216 ∨ r = 217 ∨ r = 218 ∨ r = 219 ∨ r = 220 ∨ r = 221 ∨ r = 222 ∨ r = 223 ∨ r = 224 by omega) with rfl | rfl | rfl | rfl | rfl | rfl | rfl | rfl | rfl | rfl | rfl | rfl
    · exact w (nX_213 hj) (by omega) (by omega)
    · exact w (nX_214 hj) (by omega) (by omega)
    · exact w (nX_215 hj) (by omega) (by omega)
    · exact w (e216 _ hj) (by omega) (by omega)
    · exact w (nX_217 hj) (by omega) (by omega)
    · exact w (nX_218 (by omega) hj) (by omega) (by omega)
    · exact w (nX_218 (by omega) hj) (by omega) (by omega)
    · exact w (nX_218 (by omega) hj) (by omega) (by omega)
    · exact w (nX_221 hj) (by omega) (by omega)
    · exact w (nX_222 hj) (by omega) (by omega)
    · exact w (nX_223 hj) (by omega) (by omega)
    · exact w (nX_224 hj) (by omega) (by omega)
  · rcases (show (r = 9 ∨ r = 13) ∨ (r = 110 ∨ r = 111 ∨ r = 252 ∨ r = 227) ∨ (178 ≤ r ∧ r < 213) by omega) with q | q | q
    · exact w (nX_st (by omega)) (by omega) (by omega)
    · exact w (nX_im q) (by omega) (by omega)
    · exact w (nX_wd (by omega) q.2) (by omega) (by omega)
theorem XG_z {r j : Nat} (h : XG r j) : Xz r j := by
  rcases h with (h | h) | h
  · rcases h with h | h
    · exact .inl (XV_s (.inl (.inl h)))
    · exact .inl (.inr (.inr (.inr (.inr (.inr (.inr (.inr (.inl h))))))))
  · exact .inl (XV_s (.inr (.inl h)))
  · obtain ⟨rfl, h⟩ := h
    rcases (show j = 1 ∨ j = 2 ∨ j = 3 ∨ j = 4 ∨ j = 5 ∨ j = 6 ∨ j = 60 by omega) with rfl | rfl | rfl | rfl | rfl | rfl | rfl
    · exact .inr (.inr (.inl ⟨rfl, .inl rfl⟩))
    · exact .inl (XV_s (.inl (.inl ⟨rfl, by omega⟩)))
    · exact .inl (.inr (.inr (.inr (.inr (.inr (.inr (.inr (.inr (.inr ⟨rfl, .inr rfl⟩)))))))))
    · exact .inl (XV_s (.inl (.inl ⟨rfl, by omega⟩)))
    · exact .inl (XV_s (.inl (.inl ⟨rfl, by omega⟩)))
    · exact .inl (XV_s (.inl (.inl ⟨rfl, by omega⟩)))
    · exact .inl (XV_s (.inl (.inr (.inl ⟨rfl, .inl rfl⟩))))
theorem XG_a {r j : Nat} (h : XG r j) : (r = 176 ∧ j < 61 ∧ j ≠ 7 ∧ j ≠ 8) ∨ (213 ≤ r ∧ r < 225) := by
  unfold XG XRs XR XL XW at h; omega
theorem op_house (h : RR B σ c P S N M K np t n) : ∃ v σ1 σ2, zM 117 [.ref 6] σ = some (some (.int v), σ1) ∧ Sh σ1 ∧ zM 214 [.ref 176] σ1 = some (some (.int v), σ2) ∧ RX B σ2 (c + 1) := by
  have hRP := RR_rp h
  obtain ⟨hS, hH, hT, hO, hF, -, -, -, -, hIM, hMS, hU, hM⟩ := h
  have hTT := hT
  obtain ⟨hn, h256, ht7, ht177, h61, h1761⟩ := hT
  obtain ⟨hP, hQ, hPS, g65, g66⟩ := hH
  have hb := HPb hP
  have hs := HPb hQ
  have hd : P + 44 ≤ S ∨ S + 44 ≤ P := by
    unfold HP at hP hQ; omega
  have tk : zM 116 [.ref 6] σ = some (some (.int (nI n)), sI σ 6 1 0) := by
    rw [q_X11_takeTape]
    simp -implicitDefEqProofs only [tg_sI, ln_sI, tg_sL, ln_sL, tg_sR, ln_sR, tg_sC, ln_sC, ai_sI, ai_sL, gL_sI, gR_sI, gI_sL, gR_sL, gI_sR, gL_sR, gI_sI, gL_sL, gR_sR, zlt_e, zln_e, zli_e, zll_e, zbI_e, zbL_e, zbR_e, zbV_e, zeR_e, zeN_s, zeN_n, Nat.reduceEqDiff, and_self, and_true, true_and, and_false, false_and, ite_true, ite_false, reduceIte, tg_6 hS, h61]
  have hSa : Sh (sI σ 6 1 0) := hS.sI (by omega)
  have hOa : Ow (sI σ 6 1 0) := Ow_sI hO
  obtain ⟨α0, a1, a2, a3⟩ := c_open (t := t) (n := n) hSa hOa hn h256 (fun j => ht7 j)
  have hS0 := CS_sh a2
  obtain ⟨α1, b1, b2, b3, b4, b5, b6⟩ := c_clear hS0 hQ
  have hS1 : Sh α1 := zM_sh rfl hS0 b1
  have a2' : CS α1 t n (.inl (ru t n 5 0, 0)) := CS_un a2 hS1 b2 (fun r j q => by omega)
  have g66' : gR α0 6 6 = some S := by
    rw [a3.r (by omega) (by omega) (by omega) (by omega)]; exact g66
  have go := fun (τ : zS) (h1 : Sh τ) (h2 : Ow τ) (h3 : ∀ j, j < 1600 → gI τ 177 j = nI (t j)) (h4 : gI τ 176 1 = nI n) => ho_go hQ a2' b3 b4 b5 b6 h1 h2 h3 h4
  have rd : ∀ (c' : Nat) (α' : zS), zR 7 7 4 [some (.ref 11), some (.ref S), some (.int 0)] [] α1 = zR 7 7 28 [some (.ref 11), some (.ref S), some (.int (nI c'))] [] α' → zM 7 [.ref 11, .ref S] α0 = zR 7 7 28 [some (.ref 11), some (.ref S), some (.int (nI c'))] [] α' := fun c' α' e => by
    rw [q_X1_read, tg_P hS0 hQ, if_pos rfl, b1, zbV_e]; exact e
  have run1 : ∃ v σr, zM 7 [.ref 11, .ref S] α0 = some (some (.int v), σr) ∧ Un (fun r _ => XC S r) α1 σr ∧ Sh σr := by
    obtain ⟨α', β', st', c', -, -, -, k4, k5, -, k7, -, -⟩ := go σ hS hO ht177 h1761
    obtain ⟨d1, d2⟩ := c_hTail (S := S) (c := c') k5
    by_cases hl : lL st' = true
    · exact ⟨_, _, by rw [rd c' α' k4]; exact d2 hl, k7, CS_sh k5⟩
    · exact ⟨_, _, by rw [rd c' α' k4]; exact d1 hl, k7, CS_sh k5⟩
  obtain ⟨v, σr, r1, r2, r3⟩ := run1
  have uR : Un (fun r j => (r = 6 ∧ j = 1) ∨ r = 8 ∨ (S ≤ r ∧ r < S + 44)) σ σr := (Un_sI (by omega)).trans ((a3.mono (fun r j _ _ q => by omega)).trans ((b2.mono (fun r j _ _ q => by omega)).trans (r2.mono (fun r j _ _ q => by unfold XC at q; omega))))
  have hSk : Sh (sI (sI σr 6 7 (gI σr 8 8)) 6 8 (gI σr 8 9)) := (r3.sI (by omega)).sI (by omega)
  have eC : zM 117 [.ref 6] σ = zR 8 117 15 [some (.ref 6), some (.int v), none] [] (sI (sI σr 6 7 (gI σr 8 8)) 6 8 (gI σr 8 9)) := by
    rw [q_X11_house]
    simp -implicitDefEqProofs only [tg_sI, ln_sI, tg_sL, ln_sL, tg_sR, ln_sR, tg_sC, ln_sC, ai_sI, ai_sL, gL_sI, gR_sI, gI_sL, gR_sL, gI_sR, gL_sR, gI_sI, gL_sL, gR_sR, zlt_e, zln_e, zli_e, zll_e, zbI_e, zbL_e, zbR_e, zbV_e, zeR_e, zeN_s, zeN_n, Nat.reduceEqDiff, and_self, and_true, true_and, and_false, false_and, ite_true, ite_false, reduceIte, tg_6 hS, gR_6_2 hS, gR_6_0 hS, tk, tg_8 hS, a1, tg_6 hS0, gR_6_3 hS0, g66', tg_11 hS0, r1, tg_6 r3, c_keepF r3]
  have oR : Ow σr := Ow_un hO hS uR (fun r j q => by omega)
  have tR : ∀ j, j < 1600 → gI σr 177 j = nI (t j) := fun j hj => by
    rw [uR.iA (by omega) (by omega) (by rw [tg_177 hS]; omega) (by omega)]; exact ht177 j hj
  have nR : gI σr 176 1 = nI n := by
    rw [uR.i (by omega) (by omega) (by omega) (by omega)]; exact h1761
  by_cases hv : v = -1
  · subst hv
    obtain ⟨α', β', st', c', k1, k2, k3, k4, k5, k6, k7, k9, k8⟩ := go (sI (sI σr 6 7 (gI σr 8 8)) 6 8 (gI σr 8 9)) hSk (Ow_sI (Ow_sI oR)) (fun j hj => by rw [gI_sI, if_neg (by omega), gI_sI, if_neg (by omega)]; exact tR j hj) (by rw [gI_sI, if_neg (by omega), gI_sI, if_neg (by omega)]; exact nR)
    have e7 := rd c' α' k4
    rw [r1] at e7
    obtain ⟨d1, d2⟩ := c_hTail (S := S) (c := c') k5
    by_cases hl : lL st' = true
    · rw [d2 hl] at e7
      simp only [Option.some.injEq, Prod.mk.injEq, Value.int.injEq] at e7
      exact absurd e7.1.symm (nI_nm1 (by omega))
    · rw [d1 hl] at e7
      simp only [Option.some.injEq, Prod.mk.injEq, true_and] at e7
      have hSB := RS_sh k6
      have w2 : Un (fun r j => Xz r j ∨ (S ≤ r ∧ r < S + 44)) σ (sI (sI β' 176 7 (gI β' 176 5)) 176 8 (gI β' 176 6)) := (uR.mono (fun r j _ _ q => by
        rcases q with ⟨rfl, rfl⟩ | rfl | q
        · exact .inl (.inr (.inl ⟨rfl, .inl rfl⟩))
        · exact .inl (.inl (.inl rfl))
        · exact .inr q)).trans ((Un_sI (.inl (.inr (.inl ⟨rfl, .inr (.inl rfl)⟩)))).trans ((Un_sI (.inl (.inr (.inl ⟨rfl, .inr (.inr rfl)⟩)))).trans ((k2.mono (fun r j _ _ q => .inl (XG_z q))).trans ((Un_sI (.inl (.inr (.inr (.inl ⟨rfl, .inr (.inl rfl)⟩))))).trans (Un_sI (.inl (.inr (.inr (.inl ⟨rfl, .inr (.inr rfl)⟩)))))))))
      have hS2 : Sh (sI (sI β' 176 7 (gI β' 176 5)) 176 8 (gI β' 176 6)) := (hSB.sI (by omega)).sI (by omega)
      refine ⟨-1, _, _, by rw [eC, q_X11_house_15, if_pos rfl], hSk, by rw [k1]; exact r_hDead k6 hl, P, S, N, M, K, np, t, 0, ?_⟩
      have kA := k2.mono (fun r j _ _ q => XG_a q)
      match st', hl, k5, k6 with
      | .inl _, hl, _, _ => exact absurd rfl hl
      | .inr (f, p), _, k5, k6 =>
        have g88 : gI α' 8 8 = nI f := k5.2.2.1
        have g89 : gI α' 8 9 = nI p := k5.2.2.2.1
        have g5 : gI β' 176 5 = nI f := k6.2.2.1
        have g6 : gI β' 176 6 = nI p := k6.2.2.2
        refine RR_mono (RP_rr (RP_fr hRP w2 (FrP_h hb hd hs) hS2) (Tp_0 hTT ?_ ?_ ?_ ?_) ⟨?_, ?_⟩ (rm_un hM w2 (fun j q => q.elim (nXz (nX_hi (by omega) (by omega)) (by omega) (by omega) (by omega) (by omega)) (by omega)))) (by omega)
        · intro j
          rw [gI_sI, if_neg (by omega), gI_sI, if_neg (by omega), kA.iA (by omega) (by omega) (by rw [tg_7 hSk]; omega) (by omega), gI_sI, if_neg (by omega), gI_sI, if_neg (by omega), uR.iA (by omega) (by omega) (by rw [tg_7 hS]; omega) (by omega)]
        · intro j hj
          rw [gI_sI, if_neg (by omega), gI_sI, if_neg (by omega), kA.iA (by omega) (by omega) (by rw [tg_177 hSk]; omega) (by omega), gI_sI, if_neg (by omega), gI_sI, if_neg (by omega), uR.iA (by omega) (by omega) (by rw [tg_177 hS]; omega) (by omega)]
        · rw [gI_sI, if_neg (by omega), gI_sI, if_neg (by omega), kA.i (by omega) (by omega) (by omega) (by omega), gI_sI, if_neg (by omega), gI_sI, if_neg (by omega), r2.i (by omega) (by omega) (by omega) (by unfold XC; omega), b2.i (by omega) (by omega) (by omega) (by omega), a3.i (by omega) (by omega) (by omega) (by omega), gI_sI, if_pos ⟨rfl, rfl⟩]
        · rw [gI_sI, if_neg (by omega), gI_sI, if_neg (by omega)]; exact k3
        · rw [gI_sI, if_neg (by omega), gI_sI, if_neg (by omega), kA.i (by omega) (by omega) (by omega) (by omega), gI_sI, if_neg (by omega), gI_sI, if_pos ⟨rfl, rfl⟩, gI_sI, if_neg (by omega), gI_sI, if_pos ⟨rfl, rfl⟩, e7, g88, g5]
        · rw [gI_sI, if_neg (by omega), gI_sI, if_neg (by omega), kA.i (by omega) (by omega) (by omega) (by omega), gI_sI, if_pos ⟨rfl, rfl⟩, gI_sI, if_pos ⟨rfl, rfl⟩, e7, g89, g6]
  · have k65 : gR (sI (sI σr 6 7 (gI σr 8 8)) 6 8 (gI σr 8 9)) 6 5 = some P := by
      rw [gR_sI, gR_sI, uR.r (by omega) (by omega) (by omega) (by omega)]; exact g65
    have k66 : gR (sI (sI σr 6 7 (gI σr 8 8)) 6 8 (gI σr 8 9)) 6 6 = some S := by
      rw [gR_sI, gR_sI, uR.r (by omega) (by omega) (by omega) (by omega)]; exact g66
    obtain ⟨τ, hτ⟩ : ∃ τ, τ = sI (sI (sR (sR (sI (sI σr 6 7 (gI σr 8 8)) 6 8 (gI σr 8 9)) 6 5 (some S)) 6 6 (some P)) 6 10 0) 6 11 0 := ⟨_, rfl⟩
    have hSτ : Sh τ := by
      rw [hτ]
      exact (((hSk.sR (by decide +kernel)).sR (by decide +kernel)).sI (by omega)).sI (by omega)
    have uT : Un (fun r j => r = 6 ∧ (5 ≤ j ∧ j < 12)) σr τ := by
      rw [hτ]
      exact (Un_sI (by omega)).trans ((Un_sI (by omega)).trans ((Un_sR (by omega)).trans ((Un_sR (by omega)).trans ((Un_sI (by omega)).trans (Un_sI (by omega))))))
    have eC2 : zM 117 [.ref 6] σ = some (some (.int v), τ) := by
      rw [eC, q_X11_house_15, if_neg hv, hτ]
      simp -implicitDefEqProofs only [tg_sI, ln_sI, tg_sL, ln_sL, tg_sR, ln_sR, tg_sC, ln_sC, ai_sI, ai_sL, gL_sI, gR_sI, gI_sL, gR_sL, gI_sR, gL_sR, gI_sI, gL_sL, gR_sR, zlt_e, zln_e, zli_e, zll_e, zbI_e, zbL_e, zbR_e, zbV_e, zeR_e, zeN_s, zeN_n, Nat.reduceEqDiff, and_self, and_true, true_and, and_false, false_and, ite_true, ite_false, reduceIte, tg_6 r3, tg_6 hSk, k65, k66]
    obtain ⟨α', β', st', c', k1, k2, k3, k4, k5, k6, k7, k9, k8⟩ := go τ hSτ (Ow_un oR r3 uT (fun r j q => by omega)) (fun j hj => by rw [uT.iA (by omega) (by omega) (by rw [tg_177 r3]; omega) (by omega)]; exact tR j hj) (by rw [uT.i (by omega) (by omega) (by omega) (by omega)]; exact nR)
    have e7 := rd c' α' k4
    rw [r1] at e7
    obtain ⟨d1, d2⟩ := c_hTail (S := S) (c := c') k5
    by_cases hl : lL st' = true
    · rw [d2 hl] at e7
      simp only [Option.some.injEq, Prod.mk.injEq, Value.int.injEq] at e7
      obtain ⟨e8, e7⟩ := e7
      obtain ⟨hE, ⟨N', M', K', hJ⟩, h58⟩ := k8 hl
      obtain ⟨β2, m1, m2, m3, m4, m5, m6, m7, m8, m9, m10, m11, m12, m13⟩ := r_hLive k6 hl hE h58 hJ.1.1.2.2 hJ.1.1.2.1
      have w12 : Un (fun r j => (r = 176 ∧ j < 85) ∨ (213 ≤ r ∧ r < 225) ∨ r = 235 ∨ r = 241) τ β2 := (k2.mono (fun r j _ _ q => by have := XG_a q; omega)).trans (m3.mono (fun r j _ _ q => by unfold XL Xst at q; omega))
      have w02 : Un (fun r j => ((r = 6 ∧ j < 12) ∨ r = 8 ∨ (S ≤ r ∧ r < S + 44)) ∨ (r = 176 ∧ j < 85) ∨ (213 ≤ r ∧ r < 225) ∨ r = 235 ∨ r = 241) σ β2 := (uR.mono (fun r j _ _ q => by omega)).trans ((uT.mono (fun r j _ _ q => by omega)).trans (w12.mono (fun r j _ _ q => .inr q)))
      have wA : Un (fun r j => (r = 6 ∧ j < 12) ∨ (r = 176 ∧ j < 85) ∨ (213 ≤ r ∧ r < 225) ∨ r = 235 ∨ r = 241) σr β2 := (uT.mono (fun r j _ _ q => by omega)).trans (w12.mono (fun r j _ _ q => .inr q))
      rw [e7] at wA r3
      have t6 := tg_P6 r3 hQ
      have t7 := tg_P7 r3 hQ
      obtain ⟨s, e, rfl⟩ := lx_live hl
      have g88 : gI α' 8 8 = 0 := k5.2.2.2.1
      have g89 : gI α' 8 9 = -1 := k5.2.2.2.2
      refine ⟨v, τ, β2, eC2, hSτ, by rw [k1, e8]; exact m1, S, P, N', M', K', 0, t, 0, m2, ⟨hQ, hP, by omega, ?_, ?_⟩, Tp_0 hTT ?_ ?_ ?_ ?_, Ow_un hO hS w02 (fun r j q => by omega), ⟨?_, ?_⟩, HH_new hQ hJ (fun r j a b d => wA.i (by omega) (by omega) d (by omega)) (fun j => wA.iA (by omega) (by omega) (by rw [t6]; omega) (by omega)) m6 m7 m8 m9, HD_new hJ.2.2.2.2.2.2.2 (fun j => wA.iA (by omega) (by omega) (by rw [t7]; omega) (by omega)) (fun j hj => wA.i (by omega) (by omega) hj (by omega)) m11 m13, ⟨by omega, ?_, m10⟩, fun p hp => by omega, IM_un hIM hS w02 ⟨by omega, by omega, fun j => by omega, fun j => by omega⟩, ⟨?_, ?_⟩, fun k hk => RUk_un (hU k hk) hk hS w02 ⟨by omega, by omega, by omega, fun r j a _ _ => by omega, fun j _ _ => by omega⟩, rm_mono (rm_un hM w02 (fun j => by omega)) (by omega)⟩
      · rw [w12.r (by omega) (by omega) (by omega) (by omega), hτ]
        simp [gR_sI, gR_sR]
      · rw [w12.r (by omega) (by omega) (by omega) (by omega), hτ]
        simp [gR_sI, gR_sR]
      · intro j
        rw [w02.iA (by omega) (by omega) (by rw [tg_7 hS]; omega) (by omega)]
      · intro j hj
        rw [w02.iA (by omega) (by omega) (by rw [tg_177 hS]; omega) (by omega)]
      · rw [w12.i (by omega) (by omega) (by omega) (by omega), uT.i (by omega) (by omega) (by omega) (by omega), r2.i (by omega) (by omega) (by omega) (by unfold XC; omega), b2.i (by omega) (by omega) (by omega) (by omega), a3.i (by omega) (by omega) (by omega) (by omega), gI_sI, if_pos ⟨rfl, rfl⟩]
      · rw [m3.i (by omega) (by omega) (by omega) (by unfold XL Xst; omega)]; exact k3
      · rw [m4, w12.i (by omega) (by omega) (by omega) (by omega), hτ]
        simp only [gI_sI, gI_sR]
        simp [e7, g88]
      · rw [m5, w12.i (by omega) (by omega) (by omega) (by omega), hτ]
        simp only [gI_sI, gI_sR]
        simp [e7, g89]
      · rw [w12.i (by omega) (by omega) (by omega) (by omega), hτ]
        simp only [gI_sI, gI_sR]
        simp
        rfl
      · rw [m12, w12.i (by omega) (by omega) (by omega) (by omega), hτ]
        simp only [gI_sI, gI_sR]
        simp
      · obtain ⟨-, s', x1, x2, x3⟩ := hMS
        refine ⟨s', x1, ?_, ?_⟩
        · rw [w02.l (by omega) (by omega) (by omega) (by omega)]; exact x2
        · rw [w02.l (by omega) (by omega) (by omega) (by omega)]; exact x3
    · rw [d1 hl] at e7
      simp only [Option.some.injEq, Prod.mk.injEq, Value.int.injEq] at e7
      exact absurd e7.1 hv
end
