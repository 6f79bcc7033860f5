/-! what stands while a text is read; how both begin to read -/
def RP (σ : zS) (c P S N M K np : Nat) : Prop := Sh σ ∧ Hs σ P S ∧ Ow σ ∧ HH σ P N M K ∧ HD σ P N c ∧ PN σ np ∧ (∀ p, p < np → Pe σ N M p) ∧ IM σ ∧ MS σ ∧ ∀ k, k < 3 → RUk σ k
def Xz (r j : Nat) : Prop := Xs r j ∨ (r = 6 ∧ (j = 1 ∨ j = 7 ∨ j = 8)) ∨ (r = 176 ∧ (j = 1 ∨ j = 7 ∨ j = 8)) ∨ r = 7 ∨ r = 177
section
variable {σ σ' : zS} {X : Nat → Nat → Prop} {B P S N M K np c p k so z n : Nat} {t : Nat → Nat}
theorem RR_rp (h : RR B σ c P S N M K np t n) : RP σ c P S N M K np := by
  obtain ⟨h1, h2, h3, h4, h5, h6, h7, h8, h9, h10, h11, h12, h13⟩ := h
  exact ⟨h1, h2, h4, h6, h7, h8, h9, h10, h11, h12⟩
theorem RP_rr (h : RP σ c P S N M K np) (h2 : Tp σ t n) (h3 : Ft σ) (h4 : rm B σ c) : RR B σ c P S N M K np t n := by
  obtain ⟨a1, a2, a4, a6, a7, a8, a9, a10, a11, a12⟩ := h
  exact ⟨a1, a2, h2, a4, h3, a6, a7, a8, a9, a10, a11, a12, h4⟩
/-- a cell of which Xz has no more than Xs -/
theorem nXz {r j : Nat} (h : ¬ Xs r j) (h6 : ¬ (r = 6 ∧ (j = 1 ∨ j = 7 ∨ j = 8))) (h176 : ¬ (r = 176 ∧ (j = 1 ∨ j = 7 ∨ j = 8))) (h7 : r ≠ 7) (h177 : r ≠ 177) : ¬ Xz r j := by
  intro q
  rcases q with q | q | q | q | q
  · exact h q
  · exact h6 q
  · exact h176 q
  · exact h7 q
  · exact h177 q
theorem rm_z (h : rm B σ c) (u : Un Xz σ σ') : rm B σ' c := rm_un h u (fun j => nXz (nX_hi (by omega) (by omega)) (by omega) (by omega) (by omega) (by omega))
theorem HH_zs (h : HH σ P N M K) (hP : HP P) (hS : Sh σ) (u : Un Xz σ σ') : HH σ' P N M K := by
  have hb := HPb hP
  obtain ⟨h1, h2, h3, h4, h5, h6, h7, h8, h9, h10⟩ := h
  have n1 := h1.1.2.1
  have n2 := h1.2.1.2.1
  have n3 := h1.2.2.2.1
  have w : ∀ {r j}, ¬ Xs r j → (r ≠ 6 ∧ r ≠ 176 ∧ r ≠ 7 ∧ r ≠ 177) → ¬ Xz r j := fun a b => nXz a (by omega) (by omega) (by omega) (by omega)
  have lo : ∀ r j, 16 ≤ r → r < 105 → ¬ Xz r j := fun r j a b => w (nX_lo a b) (by omega)
  refine ⟨HN_un h1 hP u (fun j _ _ => lo _ j (by omega) (by omega)) (fun j _ _ => w (nX_214 (by omega)) (by omega)), HF_un h2 hP u ⟨lo _ _ (by omega) (by omega), lo _ _ (by omega) (by omega)⟩ ⟨w (nX_223 (by omega)) (by omega), w (nX_223 (by omega)) (by omega)⟩, HC_un h3 hP u (lo _ _ (by omega) (by omega)) (w (nX_223 (by omega)) (by omega)), HPl_un h4 hP u (fun j _ => lo _ _ (by omega) (by omega)) (fun j _ _ => w (nX_222 (by omega)) (by omega)), fun k hk => HL_un (h5 k hk) (by omega) hP u (fun j _ => lo _ _ (by omega) (by omega)) ⟨w (nX_213 (by omega)) (by omega), w (nX_215 (by omega)) (by omega)⟩, fun k hk => HO_un (h6 k hk) (by omega) hP u (fun j => ⟨lo _ _ (by omega) (by omega), lo _ _ (by omega) (by omega)⟩) ⟨w (nX_213 (by omega)) (by omega), w (nX_218 (by omega) (by omega)) (by omega), w (nX_218 (by omega) (by omega)) (by omega), w (nX_218 (by omega) (by omega)) (by omega), fun d _ => w (nX_217 (by omega)) (by omega)⟩, fun k hk => HQ_un (h7 k hk) (by omega) hP u (fun j => ⟨lo _ _ (by omega) (by omega), lo _ _ (by omega) (by omega)⟩) ⟨w (nX_213 (by omega)) (by omega), fun d _ => w (nX_221 (by omega)) (by omega)⟩, fun k hk => HR_un (h8 k hk) (by omega) hP u (fun j => lo _ _ (by omega) (by omega)) (fun r _ => w (nX_hi (by omega) (by omega)) (by omega)), fun k hk => HU_un (h9 k hk) (by omega) hP u (lo _ _ (by omega) (by omega)) (w (nX_hi (by omega) (by omega)) (by omega)), HS_un h10 n1 hS hP u (fun j => lo _ _ (by omega) (by omega)) (fun j _ => w (nX_224 (by omega)) (by omega))⟩
theorem Pe_zs (h : Pe σ N M p) (hp : p < 20) (hS : Sh σ) (u : Un Xz σ σ') : Pe σ' N M p := by
  obtain ⟨so, z, h1, h2, h3, h4, h5, h6, h7, h8⟩ := h
  have w : ∀ {r j}, ¬ Xs r j → (r ≠ 6 ∧ r ≠ 176 ∧ r ≠ 7 ∧ r ≠ 177) → ¬ Xz r j := fun a b => nXz a (by omega) (by omega) (by omega) (by omega)
  have lo : ∀ r j, 116 ≤ r → r < 176 → ¬ Xz r j := fun r j a b => w (nX_pe a b) (by omega)
  have hi : ∀ r j, 232 ≤ r → r < 245 → ¬ Xz r j := fun r j a b => w (nX_hi a b) (by omega)
  exact ⟨so, z, h1, h2, h3, PA_un h4 hp u ⟨lo _ _ (by omega) (by omega), lo _ _ (by omega) (by omega), hi _ _ (by omega) (by omega), hi _ _ (by omega) (by omega)⟩, PF_un h5 hp hS u ⟨fun d => lo _ _ (by omega) (by omega), fun d _ => hi _ _ (by omega) (by omega)⟩, PB_un h6 hp u ⟨lo _ _ (by omega) (by omega), lo _ _ (by omega) (by omega), hi _ _ (by omega) (by omega), hi _ _ (by omega) (by omega)⟩, PT_un h7 hp u ⟨lo _ _ (by omega) (by omega), hi _ _ (by omega) (by omega)⟩, PK_un h8 hp h3 hS u ⟨lo _ _ (by omega) (by omega), lo _ _ (by omega) (by omega), hi _ _ (by omega) (by omega), hi _ _ (by omega) (by omega), fun j => lo _ _ (by omega) (by omega), fun j _ _ => hi _ _ (by omega) (by omega)⟩⟩
theorem RU_zs (h : RUk σ k) (hk : k < 3) (hS : Sh σ) (u : Un Xz σ σ') : RUk σ' k := RUk_un h hk hS u ⟨nXz (nX_st (by omega)) (by omega) (by omega) (by omega) (by omega), nXz (nX_im (by omega)) (by omega) (by omega) (by omega) (by omega), nXz (nX_228 (by omega)) (by omega) (by omega) (by omega) (by omega), fun r j a _ _ => nXz (nX_229 a (by omega)) (by omega) (by omega) (by omega) (by omega), fun j _ _ => nXz (nX_225 (by omega)) (by omega) (by omega) (by omega) (by omega)⟩
theorem RP_zs (h : RP σ c P S N M K np) (u : Un Xz σ σ') (hS' : Sh σ') : RP σ' c P S N M K np := by
  obtain ⟨h1, h2, h4, h6, h7, h8, h9, h10, h11, h12⟩ := h
  have hP := h2.1
  have hb := HPb hP
  have w : ∀ {r j}, ¬ Xs r j → (r ≠ 6 ∧ r ≠ 176 ∧ r ≠ 7 ∧ r ≠ 177) → ¬ Xz r j := fun a b => nXz a (by omega) (by omega) (by omega) (by omega)
  have s6 : ∀ j, j ≠ 1 ∧ j ≠ 7 ∧ j ≠ 8 → ¬ Xz 6 j := fun j hj => nXz (nX_st (by omega)) (by omega) (by omega) (by omega) (by omega)
  have s176 : ∀ j, (70 ≤ j ∧ j < 88) ∨ 88 < j → ¬ Xz 176 j := fun j hj => nXz (nX_rf (by omega)) (by omega) (by omega) (by omega) (by omega)
  exact ⟨hS', Hs_un h2 u ⟨s6 _ (by omega), s6 _ (by omega)⟩, Ow_un h4 h1 u (fun r j a => by
    rcases a with rfl | a
    · exact w (nX_st (by omega)) (by omega)
    · exact w (nX_wd (by omega) (by omega)) (by omega)), HH_zs h6 hP h1 u, HD_un h7 h1 hP u ⟨w (nX_lo (by omega) (by omega)) (by omega), w (nX_lo (by omega) (by omega)) (by omega), fun j => w (nX_lo (by omega) (by omega)) (by omega)⟩ ⟨s176 _ (by omega), s176 _ (by omega), fun j => w (nX_hi (by omega) (by omega)) (by omega), fun j => w (nX_hi (by omega) (by omega)) (by omega)⟩, PN_un h8 u ⟨s6 _ (by omega), s176 _ (by omega)⟩, fun p hp => Pe_zs (h9 p hp) (by have := h8.1; omega) h1 u, IM_un h10 h1 u ⟨w (nX_im (by omega)) (by omega), s176 _ (by omega), fun j => w (nX_im (by omega)) (by omega), fun j => w (nX_im (by omega)) (by omega)⟩, MS_un h11 u ⟨s6 _ (by omega), s176 _ (by omega), s6 _ (by omega), s176 _ (by omega)⟩, fun k hk => RU_zs (h12 k hk) hk h1 u⟩
theorem Sh.sR {r j : Nat} {v : Option Nat} (h : Sh σ) (hq : (zF0.all (fun e => !(Nat.beq e.1 r && Nat.beq e.2.1 j)) && zE0.all (fun e => !(Nat.beq e.1 r && Nat.beq e.2.1 j))) = true) : Sh (sR σ r j v) := by
  obtain ⟨h1, h2, h3, h4⟩ := h
  rw [Bool.and_eq_true] at hq
  have key : ∀ e : Nat × Nat × Nat, (!(Nat.beq e.1 r && Nat.beq e.2.1 j)) = true → gR (Jvm.Pilot.@@N@@.sR σ r j v) e.1 e.2.1 = gR σ e.1 e.2.1 := by
    intro e he
    rw [gR_sR, if_neg]
    rintro ⟨a, b⟩
    rw [a, b] at he
    simp at he
  exact ⟨h1, fun e he => by rw [key e (List.all_eq_true.mp hq.1 e he)]; exact h2 e he, fun e he => by rw [key e (List.all_eq_true.mp hq.2 e he)]; exact h3 e he, h4⟩
/-- the class opens its tape -/
theorem c_open (hS : Sh σ) (hO : Ow σ) (hn : n ≤ 1600) (h256 : ∀ j, t j < 256) (ht : ∀ j, gI σ 7 j = sb (t j)) : ∃ σ', zM 96 [.ref 8, .ref 7, .int (nI n)] σ = some (none, σ') ∧ CS σ' t n (.inl (ru t n 5 0, 0)) ∧ Un (fun r _ => r = 8) σ σ' := by
  have hS1 : Sh (sR σ 8 1 (some 7)) := hS.sR (by decide +kernel)
  have hmin : ∀ s, zM 326 [.int (nI n), .int (nI 1600)] s = some (some (.int (nI n)), s) := fun s => by
    rw [q_J9_min_7cf53, if_neg (nI_nlt hn (by omega))]
  have hT : TC (sI (sI (sI (sI (sI (sR σ 8 1 (some 7)) 8 2 (nI n)) 8 3 0) 8 4 3) 8 8 0) 8 9 (-1)) t n := by
    refine ⟨((((hS1.sI (by omega)).sI (by omega)).sI (by omega)).sI (by omega)).sI (by omega), hn, h256, fun j => ?_, ?_, ?_, fun i hi => ?_⟩
    · simp only [gI_sI, gI_sR]
      simp
      exact ht j
    · simp only [gR_sI, gR_sR]
      simp
    · simp only [gI_sI]
      simp
    · simp only [gI_sI, gI_sR]
      simp
      exact hO.1 i hi
  obtain ⟨σ', a1, a2, a3⟩ := s_adv (x := 0) hT (by omega) (by simp only [gI_sI]; simp; rfl)
  have hk := zM_ke a1
  have h8 := tg_8 hT.1
  refine ⟨σ', ?_, ⟨a2, ⟨ru_le (by omega), by omega, fun q k => ru_end (t := t) (n := n) (k := 5) 0 ⟨q, k⟩⟩, ?_, ?_, ?_⟩, ?_⟩
  · rw [q_X10_open]
    simp -implicitDefEqProofs only [tg_sI, ln_sI, tg_sL, ln_sL, tg_sR, ln_sR, tg_sC, ln_sC, ai_sI, ai_sL, gL_sI, gR_sI, gI_sL, gR_sL, gI_sR, gL_sR, gI_sI, gL_sL, gR_sR, zlt_e, zln_e, zli_e, zll_e, zbI_e, zbL_e, zbR_e, zbV_e, zeR_e, zeN_s, zeN_n, Nat.reduceEqDiff, and_self, and_true, true_and, and_false, false_and, ite_true, ite_false, reduceIte, tg_8 hS, tg_7 hS, ln_7 hS]
    rw [if_pos (by decide), show Int32.ofNat 1600 = nI 1600 from rfl, hmin]
    simp -implicitDefEqProofs only [tg_sI, ln_sI, tg_sL, ln_sL, tg_sR, ln_sR, tg_sC, ln_sC, ai_sI, ai_sL, gL_sI, gR_sI, gI_sL, gR_sL, gI_sR, gL_sR, gI_sI, gL_sL, gR_sR, zlt_e, zln_e, zli_e, zll_e, zbI_e, zbL_e, zbR_e, zbV_e, zeR_e, zeN_s, zeN_n, Nat.reduceEqDiff, and_self, and_true, true_and, and_false, false_and, ite_true, ite_false, reduceIte, tg_8 hS, q_X10_open_21, a1]
  · have e1 : ((gI (sI (sI (sI (sI (sI (sR σ 8 1 (some 7)) 8 2 (nI n)) 8 3 0) 8 4 3) 8 8 0) 8 9 (-1)) 8 4 = 1 ∨ gI (sI (sI (sI (sI (sI (sR σ 8 1 (some 7)) 8 2 (nI n)) 8 3 0) 8 4 3) 8 8 0) 8 9 (-1)) 8 4 = 2) ∧ ru t n 5 0 = 0) = (0 = ru t n 5 0 + 1) := by
      refine propext ⟨fun q => ?_, fun q => by omega⟩
      have h3 : gI (sI (sI (sI (sI (sI (sR σ 8 1 (some 7)) 8 2 (nI n)) 8 3 0) 8 4 3) 8 8 0) 8 9 (-1)) 8 4 = 3 := by simp only [gI_sI]; simp
      rw [h3] at q
      rcases q.1 with z | z <;> exact absurd z (by decide)
    rw [e1] at a3
    exact a3
  · rw [hk.gI h8 (by decide) rfl]
    simp only [gI_sI]
    simp
  · rw [hk.gI h8 (by decide) rfl]
    simp only [gI_sI]
    simp
  · have w : Un (fun r _ => r = 8) σ (sI (sI (sI (sI (sI (sR σ 8 1 (some 7)) 8 2 (nI n)) 8 3 0) 8 4 3) 8 8 0) 8 9 (-1)) := (Un_sR (by omega)).trans ((Un_sI (by omega)).trans ((Un_sI (by omega)).trans ((Un_sI (by omega)).trans ((Un_sI (by omega)).trans (Un_sI (by omega))))))
    exact w.trans (Un_tok hT.1 a1 rfl (by decide +kernel))
/-- the reference begins to read -/
theorem r_begins (hS : Sh σ) (hO : Ow σ) (hn : n ≤ 1600) (h256 : ∀ j, t j < 256) (ht : ∀ j, j < 1600 → gI σ 177 j = nI (t j)) (h1 : gI σ 176 1 = nI n) : ∃ σ', zM 203 [.ref 176] σ = some (none, σ') ∧ RS σ' t n (.inl (ru t n 5 0, 0)) ∧ Un (fun r j => r = 176 ∧ ((1 ≤ j ∧ j ≤ 6) ∨ j = 58 ∨ j = 60)) σ σ' ∧ gI σ' 176 1 = 0 ∧ gI σ' 176 58 = 0 ∧ gI σ' 176 60 = 0 := by
  have w : Un (fun r j => r = 176 ∧ ((1 ≤ j ∧ j ≤ 6) ∨ j = 58 ∨ j = 60)) σ (sI (sI (sI (sI (sI (sI (sI (sI σ 176 3 (nI n)) 176 1 0) 176 2 0) 176 4 (-1)) 176 5 0) 176 6 (-1)) 176 58 0) 176 60 0) := (Un_sI (by omega)).trans ((Un_sI (by omega)).trans ((Un_sI (by omega)).trans ((Un_sI (by omega)).trans ((Un_sI (by omega)).trans ((Un_sI (by omega)).trans ((Un_sI (by omega)).trans (Un_sI (by omega))))))))
  refine ⟨_, ?_, ⟨⟨(((((((hS.sI (by omega)).sI (by omega)).sI (by omega)).sI (by omega)).sI (by omega)).sI (by omega)).sI (by omega)).sI (by omega), hn, h256, fun j hj => ?_, ?_, fun w' hw i hi => ?_⟩, ⟨ru_le (by omega), by omega, fun q k => ru_end (t := t) (n := n) (k := 5) 0 ⟨q, k⟩⟩, ⟨0, by omega, rfl, ?_⟩, ?_, ?_, ?_⟩, w, ?_, ?_, ?_⟩
  · rw [q_X12_begins]
    simp -implicitDefEqProofs only [tg_sI, ln_sI, tg_sL, ln_sL, tg_sR, ln_sR, tg_sC, ln_sC, ai_sI, ai_sL, gL_sI, gR_sI, gI_sL, gR_sL, gI_sR, gL_sR, gI_sI, gL_sL, gR_sR, zlt_e, zln_e, zli_e, zll_e, zbI_e, zbL_e, zbR_e, zbV_e, zeR_e, zeN_s, zeN_n, Nat.reduceEqDiff, and_self, and_true, true_and, and_false, false_and, ite_true, ite_false, reduceIte, tg_176 hS, h1, q_X12_begins_25]
  · rw [w.iA (by omega) (by omega) (by rw [tg_177 hS]; omega) (by omega)]; exact ht j hj
  · simp only [gI_sI]; simp
  · rw [w.iA (by omega) (by omega) (by rw [tg_word hS hw]; omega) (by omega)]; exact hO.2 w' hw i hi
  · simp only [gI_sI]; simp; rfl
  · simp only [gI_sI]; simp; rfl
  · simp only [gI_sI]; simp
  · simp only [gI_sI]; simp
  · simp only [gI_sI]; simp
  · simp only [gI_sI]; simp
  · simp only [gI_sI]; simp
/-- the class keeps a fault -/
theorem c_keepF (hS : Sh σ) : zM 119 [.ref 6] σ = some (none, sI (sI σ 6 7 (gI σ 8 8)) 6 8 (gI σ 8 9)) := by
  rw [q_X11_keepFault]
  simp -implicitDefEqProofs only [tg_sI, ln_sI, tg_sL, ln_sL, tg_sR, ln_sR, tg_sC, ln_sC, ai_sI, ai_sL, gL_sI, gR_sI, gI_sL, gR_sL, gI_sR, gL_sR, gI_sI, gL_sL, gR_sR, zlt_e, zln_e, zli_e, zll_e, zbI_e, zbL_e, zbR_e, zbV_e, zeR_e, zeN_s, zeN_n, Nat.reduceEqDiff, and_self, and_true, true_and, and_false, false_and, ite_true, ite_false, reduceIte, tg_6 hS, gR_6_2 hS, tg_8 hS, q_X10_faultFound, q_X10_faultPlace]
end
