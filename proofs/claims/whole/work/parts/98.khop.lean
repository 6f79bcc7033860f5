/-! the call house: both ends -/
def XG (r j : Nat) : Prop := XRs r j ∨ (r = 176 ∧ ((1 ≤ j ∧ j ≤ 6) ∨ j = 60))
section
variable {σ σ' σ1 σ2 α α' β β' : zS} {X : Nat → Nat → Prop} {u : Option Value} {B P S N M K np c k n m i : Nat} {t : Nat → Nat} {st : lx}
theorem r_hopen (hS : Sh β) (hO : Ow β) (hn : n ≤ 1600) (h256 : ∀ j, t j < 256) (ht : ∀ j, j < 1600 → gI β 177 j = nI (t j)) (h1 : gI β 176 1 = nI n) : ∃ β', zM 214 [.ref 176] β = zR 8 214 31 [some (.ref 176), some (.int 5)] [] β' ∧ RS β' t n (.inl (ru t n 5 0, 0)) ∧ Un (fun r j => (r = 176 ∧ ((1 ≤ j ∧ j ≤ 6) ∨ j = 58 ∨ j = 60)) ∨ (r = 214 ∧ j < 3) ∨ (r = 223 ∧ j < 3) ∨ (r = 222 ∧ j < 5)) β β' ∧ gI β' 176 1 = 0 ∧ gI β' 176 58 = 0 ∧ (∀ j, j < 3 → gI β' 214 j = 0) ∧ (∀ j, j < 3 → gI β' 223 j = 0) ∧ ∀ j, j < 5 → gI β' 222 j = 0 := by
  obtain ⟨b0, a1, a2, a3, a4, a5, -⟩ := r_begins hS hO hn h256 ht h1
  have hS0 := RS_sh a2
  obtain ⟨b1, e1, k1, k2, k3, k4⟩ := lp_run (F := fun i (σ : zS) => zR 8 214 4 [some (.ref 176), some (.int (nI i))] [] σ) (fun i σ' => Sh σ' ∧ Un (fun r j => (r = 214 ∧ j < 3) ∨ (r = 223 ∧ j < 3)) b0 σ' ∧ (∀ j, j < i → gI σ' 214 j = 0) ∧ ∀ j, j < i → gI σ' 223 j = 0) 3 (by
    intro i g hi ⟨a, b, d, e⟩
    refine ⟨sI (sI g 214 i 0) 223 i 0, ?_, (a.sI (by omega)).sI (by omega), b.trans ((Un_sI (by omega)).trans (Un_sI (by omega))), fun j hj => ?_, fun j hj => ?_⟩
    · rw [q_X12_house_4, if_neg (show ¬ (3 : Int32) ≤ nI i from nI_ge (b := 3) hi (by omega))]
      simp -implicitDefEqProofs only [tg_sI, ln_sI, tg_sL, ln_sL, tg_sR, ln_sR, tg_sC, ln_sC, ai_sI, ai_sL, gL_sI, gR_sI, gI_sL, gR_sL, gI_sR, gL_sR, gI_sI, gL_sL, gR_sR, zlt_e, zln_e, zli_e, zll_e, zbI_e, zbL_e, zbR_e, zbV_e, zeR_e, zeN_s, zeN_n, Nat.reduceEqDiff, and_self, and_true, true_and, and_false, false_and, ite_true, ite_false, reduceIte, tg_176 a, gR_176_47 a, gR_176_56 a]
      rw [if_pos (ai_nI (.inl (tg_214 a)) (ln_214 a) (show i < 6 by omega) (by omega)), if_pos (ai_nI (.inl (tg_223 a)) (ln_223 a) (show i < 6 by omega) (by omega)), ixn (by omega), nI_1]
    · rw [gI_sI, if_neg (by omega), gI_sI]
      split
      · rfl
      · exact d j (by omega)
    · rw [gI_sI]
      split
      · rfl
      · rw [gI_sI, if_neg (by omega)]; exact e j (by omega)) b0 ⟨hS0, Un.refl _ _, fun j hj => by omega, fun j hj => by omega⟩
  obtain ⟨b2, e2, l1, l2, l3⟩ := lp_run (F := fun i (σ : zS) => zR 8 214 21 [some (.ref 176), some (.int (nI i))] [] σ) (fun i σ' => Sh σ' ∧ Un (fun r j => r = 222 ∧ j < 5) b1 σ' ∧ ∀ j, j < i → gI σ' 222 j = 0) 5 (by
    intro i g hi ⟨a, b, d⟩
    refine ⟨sI g 222 i 0, ?_, a.sI (by omega), b.trans (Un_sI (by omega)), fun j hj => ?_⟩
    · rw [q_X12_house_21, if_neg (show ¬ (5 : Int32) ≤ nI i from nI_ge (b := 5) hi (by omega))]
      simp -implicitDefEqProofs only [tg_sI, ln_sI, tg_sL, ln_sL, tg_sR, ln_sR, tg_sC, ln_sC, ai_sI, ai_sL, gL_sI, gR_sI, gI_sL, gR_sL, gI_sR, gL_sR, gI_sI, gL_sL, gR_sR, zlt_e, zln_e, zli_e, zll_e, zbI_e, zbL_e, zbR_e, zbV_e, zeR_e, zeN_s, zeN_n, Nat.reduceEqDiff, and_self, and_true, true_and, and_false, false_and, ite_true, ite_false, reduceIte, tg_176 a, gR_176_55 a]
      rw [if_pos (ai_nI (.inl (tg_222 a)) (ln_222 a) (show i < 10 by omega) (by omega)), ixn (by omega), nI_1]
    · rw [gI_sI]
      split
      · rfl
      · exact d j (by omega)) b1 ⟨k1, Un.refl _ _, fun j hj => by omega⟩
  have e1 : zR 8 214 4 [some (.ref 176), some (.int 0)] [] b0 = zR 8 214 4 [some (.ref 176), some (.int 3)] [] b1 := e1
  have e2 : zR 8 214 21 [some (.ref 176), some (.int 0)] [] b1 = zR 8 214 21 [some (.ref 176), some (.int 5)] [] b2 := e2
  have w : Un (fun r j => (r = 214 ∧ j < 3) ∨ (r = 223 ∧ j < 3) ∨ (r = 222 ∧ j < 5)) b0 b2 := (k2.mono (fun r j _ _ q => by omega)).trans (l2.mono (fun r j _ _ q => by omega))
  refine ⟨b2, ?_, RS_un a2 l1 w (fun r j q => by omega), (a3.mono (fun r j _ _ q => .inl q)).trans (w.mono (fun r j _ _ q => .inr q)), ?_, ?_, fun j hj => ?_, fun j hj => ?_, l3⟩
  · rw [q_X12_house]
    simp -implicitDefEqProofs only [tg_sI, ln_sI, tg_sL, ln_sL, tg_sR, ln_sR, tg_sC, ln_sC, ai_sI, ai_sL, gL_sI, gR_sI, gI_sL, gR_sL, gI_sR, gL_sR, gI_sI, gL_sL, gR_sR, zlt_e, zln_e, zli_e, zll_e, zbI_e, zbL_e, zbR_e, zbV_e, zeR_e, zeN_s, zeN_n, Nat.reduceEqDiff, and_self, and_true, true_and, and_false, false_and, ite_true, ite_false, reduceIte, tg_176 hS, a1]
    rw [e1, q_X12_house_4, if_pos (by decide), e2, q_X12_house_21, if_pos (by decide)]
  · rw [w.i (by omega) (by omega) (by omega) (by omega)]; exact a4
  · rw [w.i (by omega) (by omega) (by omega) (by omega)]; exact a5
  · rw [l2.i (by omega) (by omega) (by omega) (by omega)]; exact k3 j hj
  · rw [l2.i (by omega) (by omega) (by omega) (by omega)]; exact k4 j hj
theorem ho_go (hP : HP S) (hC : CS α t n (.inl (ru t n 5 0, 0))) (hz : JZ α S) (h6 : ∀ j, j < 160 → gI α (S + 6) j = 0) (h4 : ∀ d, d < 5 → gI α (S + 4) d = 0) (h5 : ∀ j, 5 ≤ j → j < 11 → gI α S j = 0) (hS : Sh β) (hO : Ow β) (ht : ∀ j, j < 1600 → gI β 177 j = nI (t j)) (h1 : gI β 176 1 = nI n) : ∃ α' β' st' c', zM 214 [.ref 176] β = zR 8 214 31 [some (.ref 176), some (.int 5)] [] β' ∧ Un XG β β' ∧ gI β' 176 1 = 0 ∧ zR 7 7 4 [some (.ref 11), some (.ref S), some (.int 0)] [] α = zR 7 7 28 [some (.ref 11), some (.ref S), some (.int (nI c'))] [] α' ∧ CS α' t n st' ∧ RS β' t n st' ∧ Un (fun r _ => XC S r) α α' ∧ c' ≤ 100 ∧ (lL st' = true → lE n st' = true ∧ (∃ N M K, JH α' β' S N M K) ∧ gI β' 176 58 = nI c') := by
  obtain ⟨b, a1, a2, a3, a4, a5, z1, z2, z3⟩ := r_hopen hS hO hC.1.2.1 hC.1.2.2.1 ht h1
  have j0 : JH α b S 0 0 0 := ⟨⟨⟨h5 5 (by omega) (by omega), by omega, z1 0 (by omega)⟩, ⟨h5 6 (by omega) (by omega), by omega, z1 1 (by omega)⟩, ⟨h5 7 (by omega) (by omega), by omega, z1 2 (by omega)⟩⟩, ⟨⟨0, by omega, h5 8 (by omega) (by omega), z2 0 (by omega)⟩, ⟨0, by omega, h5 9 (by omega) (by omega), z2 1 (by omega)⟩, ⟨0, by omega, h5 10 (by omega) (by omega), z2 2 (by omega)⟩⟩, ⟨fun _ => 0, fun d hd => ⟨Nat.zero_le 100, h4 d hd, z3 d hd⟩⟩, fun k hk => by omega, fun k hk => by omega, fun k hk => by omega, ⟨fun j hj => by omega, fun j _ hj => h6 j hj⟩, hz⟩
  obtain ⟨α', β', st', c', k1, k2, k3, k4, k5, k6, k7, k8⟩ := j_loop (t := t) (n := n) hP 5 100 0 α b (.inl (ru t n 5 0, 0)) rfl hC a2 (fun _ => ⟨0, 0, 0, j0⟩) (fun _ => a5)
  refine ⟨α', β', st', c', by rw [a1]; exact k2, (a3.mono (fun r j _ _ q => ?_)).trans (k6.mono (fun r j _ _ q => .inl q)), ?_, k1, k3, k4, k5, k7, k8⟩
  · rcases q with ⟨rfl, q | rfl | rfl⟩ | ⟨rfl, q⟩ | ⟨rfl, q⟩ | ⟨rfl, q⟩
    · exact .inr ⟨rfl, .inl q⟩
    · exact .inl (.inr ⟨rfl, rfl⟩)
    · exact .inr ⟨rfl, .inr rfl⟩
    · exact .inl (.inl (.inr (.inr (.inl ⟨rfl, q⟩))))
    · exact .inl (.inl (.inr (.inr (.inr (.inr (.inr (.inr (.inr (.inr (.inr (.inl ⟨rfl, q⟩)))))))))))
    · exact .inl (.inl (.inr (.inr (.inr (.inr (.inr (.inr (.inr (.inr (.inl ⟨rfl, q⟩))))))))))
  · rw [k6.i (by omega) (by omega) (by omega) (by unfold XRs XR XL XW; omega)]; exact a4
theorem c_hTail (hC : CS α t n st) : (¬ lL st = true → zR 7 7 28 [some (.ref 11), some (.ref S), some (.int (nI c))] [] α = some (some (.int (-1)), α)) ∧ (lL st = true → zR 7 7 28 [some (.ref 11), some (.ref S), some (.int (nI c))] [] α = some (some (.int (nI c)), α)) := by
  have hS := CS_sh hC
  rw [q_X1_read_28]
  simp -implicitDefEqProofs only [tg_sI, ln_sI, tg_sL, ln_sL, tg_sR, ln_sR, tg_sC, ln_sC, ai_sI, ai_sL, gL_sI, gR_sI, gI_sL, gR_sL, gI_sR, gL_sR, gI_sI, gL_sL, gR_sR, zlt_e, zln_e, zli_e, zll_e, zbI_e, zbL_e, zbR_e, zbV_e, zeR_e, zeN_s, zeN_n, Nat.reduceEqDiff, and_self, and_true, true_and, and_false, false_and, ite_true, ite_false, reduceIte, tg_11 hS, gR_11_0 hS, tg_8 hS, q_X10_faultFound]
  constructor
  · intro hd
    match st, hC, hd with
    | .inl _, _, hd => exact absurd rfl hd
    | .inr (f, p), hC, _ =>
      have h8 : gI α 8 8 = nI f := hC.2.2.1
      have hf : 0 < f ∧ f < 6 ∧ p < 2000 := hC.2.1
      rw [h8, if_neg (nI_ne0 hf.1 (by omega))]
  · intro hl
    obtain ⟨s, e, rfl⟩ := lx_live hl
    have h8 : gI α 8 8 = 0 := hC.2.2.2.1
    rw [h8, if_pos rfl, q_X1_read_32]
def Xst (r j : Nat) : Prop := (213 ≤ r ∧ r < 225 ∧ hf r ≤ j) ∨ r = 235 ∨ r = 241 ∨ (r = 176 ∧ (j = 70 ∨ j = 82 ∨ j = 83 ∨ j = 84))
theorem hf_pos : ∀ r, 213 ≤ r → r < 225 → 0 < hf r := by
  have : ∀ d, d < 12 → 0 < hf (213 + d) := by decide
  intro r a b
  have e := this (r - 213) (by omega)
  rw [show 213 + (r - 213) = r by omega] at e
  exact e
theorem r_hDead (hR : RS β t n st) (hd : ¬ lL st = true) : zR 8 214 31 [some (.ref 176), some (.int 5)] [] β = some (some (.int (-1)), sI (sI β 176 7 (gI β 176 5)) 176 8 (gI β 176 6)) := by
  have hS := RS_sh hR
  rw [q_X12_house_31]
  simp -implicitDefEqProofs only [tg_sI, ln_sI, tg_sL, ln_sL, tg_sR, ln_sR, tg_sC, ln_sC, ai_sI, ai_sL, gL_sI, gR_sI, gI_sL, gR_sL, gI_sR, gL_sR, gI_sI, gL_sL, gR_sR, zlt_e, zln_e, zli_e, zll_e, zbI_e, zbL_e, zbR_e, zbV_e, zeR_e, zeN_s, zeN_n, Nat.reduceEqDiff, and_self, and_true, true_and, and_false, false_and, ite_true, ite_false, reduceIte, tg_176 hS]
  rw [if_neg (dead_5 hR hd), if_neg (dead_5 hR hd)]
theorem r_hLive (hR : RS β t n st) (hv : lL st = true) (hE : lE n st = true) (h58 : gI β 176 58 = nI c) (hN : gI β 214 0 = nI N) (h8 : N ≤ 8) : ∃ β', zR 8 214 31 [some (.ref 176), some (.int 5)] [] β = some (some (.int (nI c)), β') ∧ Sh β' ∧ Un (fun r j => XL r j ∨ (r = 176 ∧ (j = 7 ∨ j = 8)) ∨ Xst r j) β β' ∧ gI β' 176 7 = 0 ∧ gI β' 176 8 = -1 ∧ (∀ r, 214 ≤ r → r < 225 → ∀ j, j < hf r → gI β' r (hf r + j) = gI β r j) ∧ (∀ j, j < 24 → gL β' 213 (24 + j) = gL β 213 j) ∧ (∀ k, k < N → gI β' 241 k = -1) ∧ (∀ k, k < N → ∀ i, i < 3 → gI β' 235 (3 * k + i) = 100 * gI β 216 (3 * k + i)) ∧ gI β' 176 70 = 0 ∧ gI β' 176 82 = 0 ∧ gI β' 176 83 = 0 ∧ gI β' 176 84 = 0 := by
  have hS := RS_sh hR
  obtain ⟨s, e, rfl⟩ := lx_live hv
  have hns : ¬ s < n := by
    have : decide (n ≤ s) = true := hE
    have := of_decide_eq_true this
    omega
  have w8 : Un (fun r j => XL r j ∨ (r = 176 ∧ (j = 7 ∨ j = 8))) β (sI (sI (sI β 176 2 (nI s)) 176 7 0) 176 8 (-1)) := (Un_sI (.inl ⟨rfl, .inl rfl⟩)).trans ((Un_sI (.inr ⟨rfl, .inl rfl⟩)).trans (Un_sI (.inr ⟨rfl, .inr rfl⟩)))
  have hS8 : Sh (sI (sI (sI β 176 2 (nI s)) 176 7 0) 176 8 (-1)) := ((hS.sI (by omega)).sI (by omega)).sI (by omega)
  obtain ⟨β', m1, m2, m3, m4, m5, m6, m7, m8, m9, m10, m11⟩ := r_stands hS8 (by rw [w8.i (by omega) (by omega) (by omega) (by unfold XL; omega)]; exact hN) h8
  have h6 : gI β 176 6 = -1 := hR.2.2.2.2.2
  have k58 : gI β' 176 58 = nI c := by
    rw [m3.i (by omega) (by omega) (by omega) (by omega), w8.i (by omega) (by omega) (by omega) (by unfold XL; omega)]; exact h58
  refine ⟨β', ?_, m2, (w8.mono (fun r j _ _ q => by
    rcases q with q | q
    · exact .inl q
    · exact .inr (.inl q))).trans (m3.mono (fun r j _ _ q => .inr (.inr q))), ?_, ?_, fun r a b j hj => ?_, fun j hj => ?_, m6, fun k hk i hi => ?_, m8, m9, m10, m11⟩
  · rw [q_X12_house_31]
    simp -implicitDefEqProofs only [tg_sI, ln_sI, tg_sL, ln_sL, tg_sR, ln_sR, tg_sC, ln_sC, ai_sI, ai_sL, gL_sI, gR_sI, gI_sL, gR_sL, gI_sR, gL_sR, gI_sI, gL_sL, gR_sR, zlt_e, zln_e, zli_e, zll_e, zbI_e, zbL_e, zbR_e, zbV_e, zeR_e, zeN_s, zeN_n, Nat.reduceEqDiff, and_self, and_true, true_and, and_false, false_and, ite_true, ite_false, reduceIte, tg_176 hS, live_5 hR rfl, r_look hR]
    rw [if_neg hns]
    simp -implicitDefEqProofs only [tg_sI, ln_sI, tg_sL, ln_sL, tg_sR, ln_sR, tg_sC, ln_sC, ai_sI, ai_sL, gL_sI, gR_sI, gI_sL, gR_sL, gI_sR, gL_sR, gI_sI, gL_sL, gR_sR, zlt_e, zln_e, zli_e, zll_e, zbI_e, zbL_e, zbR_e, zbV_e, zeR_e, zeN_s, zeN_n, Nat.reduceEqDiff, and_self, and_true, true_and, and_false, false_and, ite_true, ite_false, reduceIte, tg_176 hS, live_5 hR rfl, h6, m1]
    rw [q_X12_house_56, tg_176 m2, if_pos rfl, k58]
  · rw [m3.i (by omega) (by omega) (by omega) (by omega), gI_sI, if_neg (by omega), gI_sI, if_pos ⟨rfl, rfl⟩]
  · rw [m3.i (by omega) (by omega) (by omega) (by omega), gI_sI, if_pos ⟨rfl, rfl⟩]
  · rw [m4 r a b j hj, w8.iA (by omega) (by omega) (tg_hf hS (by omega) (by omega)) (by unfold XL; omega)]
  · rw [m5 j hj, w8.l (by omega) (by omega) (by omega) (by unfold XL; omega)]
  · rw [m7 k hk i hi, w8.i (by omega) (by omega) (by omega) (by unfold XL; omega)]
end
