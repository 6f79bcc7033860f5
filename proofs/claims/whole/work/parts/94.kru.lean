/-! the call rule -/
section
variable {σ σ' α α' β β' : zS} {X : Nat → Nat → Prop} {B P S N M K np c p k so z n : Nat} {t : Nat → Nat} {st : lx}
/-- a new row of m ints, the first m of A's -/
def cpN (σ : zS) (A m : Nat) : zS := sC (sN σ 32 m) A 0 σ.1.length 0 m
theorem cpN_1 (A m : Nat) : (cpN σ A m).1 = σ.1 ++ [(32, m)] := rfl
theorem cpN_I {A m r j : Nat} (hr : r ≠ σ.1.length) (hA : A ≠ σ.1.length) : gI (cpN σ A m) r j = gI σ r j := by
  show (if r = σ.1.length ∧ _ then _ else (if r = σ.1.length then 0 else σ.2.1 r j)) = _
  rw [if_neg (fun q => hr q.1), if_neg hr]
  rfl
theorem cpN_new {A m j : Nat} (hA : A ≠ σ.1.length) (hj : j < m) : gI (cpN σ A m) σ.1.length j = gI σ A j := by
  show (if σ.1.length = σ.1.length ∧ 0 ≤ j ∧ j < 0 + m then (if A = σ.1.length then 0 else σ.2.1 A (0 + (j - 0))) else _) = _
  rw [if_pos ⟨rfl, by omega, by omega⟩, if_neg hA, show 0 + (j - 0) = j by omega]
  rfl
theorem cpN_L {A m r j : Nat} (hr : r ≠ σ.1.length) : gL (cpN σ A m) r j = gL σ r j := by
  show (if r = σ.1.length then 0 else σ.2.2.1 r j) = _
  rw [if_neg hr]
  rfl
theorem cpN_R {A m r j : Nat} (hr : r ≠ σ.1.length) : gR (cpN σ A m) r j = gR σ r j := by
  show (if r = σ.1.length then none else σ.2.2.2 r j) = _
  rw [if_neg hr]
  rfl
theorem Sh_len (h : Sh σ) : 253 ≤ σ.1.length := by
  obtain ⟨⟨L, K, hK⟩, -⟩ := h
  rw [hK]
  have e : zK0.length = 247 := by decide +kernel
  simp only [List.length_append, e]
  have : (zpre L).length = 6 := rfl
  omega
theorem Sh_cpN (h : Sh σ) {A m : Nat} (hA : A < 253) : Sh (cpN σ A m) := by
  have hl := Sh_len h
  obtain ⟨⟨L, KK, hK⟩, h2, h3, h4⟩ := h
  have hF : ∀ e ∈ zF0, e.1 < 253 := by decide +kernel
  have hE : ∀ e ∈ zE0, e.1 < 253 := by decide +kernel
  refine ⟨⟨L, KK ++ [(32, m)], by rw [cpN_1, hK, List.append_assoc, List.append_assoc]⟩, fun e he => ?_, fun e he => ?_, fun j hj => ?_⟩
  · rw [cpN_R (by have := hF e he; omega)]; exact h2 e he
  · rw [cpN_R (by have := hE e he; omega)]; exact h3 e he
  · rw [cpN_I (by omega) (by omega)]; exact h4 j hj
/-- Arrays.copyOf of the draft -/
theorem c_copy (hS : Sh σ) {m : Nat} (hm : m < 1600) : zM 336 [.ref 14, .int (nI m)] σ = some (some (.ref σ.1.length), cpN σ 14 m) := by
  have hl := Sh_len hS
  have ht : tg (sN σ 32 m) 14 = 32 := by
    have : tg (sN σ 32 m) 14 = tg σ 14 := tg_pre (List.prefix_append _ _) (by omega)
    rw [this, tg_14 hS]
  have hn14 : ln (sN σ 32 m) 14 = 1600 := by
    have : ln (sN σ 32 m) 14 = ln σ 14 := ln_pre (List.prefix_append _ _) (by omega)
    rw [this, ln_14 hS]
  have hkd : kd (sN σ 32 m) σ.1.length = some (32, m) := by
    unfold kd
    show (σ.1 ++ [(32, m)])[σ.1.length]? = _
    rw [List.getElem?_append_right (Nat.le_refl _)]
    simp
  have htn : tg (sN σ 32 m) σ.1.length = 32 := by unfold tg; rw [hkd]
  have hln : ln (sN σ 32 m) σ.1.length = m := by unfold ln; rw [hkd]
  have hmin : zM 326 [.int (nI 1600), .int (nI m)] (sN σ 32 m) = some (some (.int (nI m)), sN σ 32 m) := by
    rw [q_J9_min_7cf53, if_pos (nI_lt hm (by omega))]
  have hcp : zcp (sN σ 32 m) 14 0 σ.1.length 0 (nI m) = true := by
    unfold zcp
    have h0 : ix (0 : Int32) = 0 := rfl
    rw [ht, htn, hn14, hln, ixn (show m < 2 ^ 31 by omega), nI_toInt (by omega), h0]
    simp
    omega
  rw [q_J7_copyOf_59c91, tg_14 hS, if_pos (by decide), ln_14 hS, show Int32.ofNat 1600 = nI 1600 from rfl, if_neg (fun z => by have := (nI_eq (show m < 2 ^ 31 by omega) (by omega)).mp z; omega), if_neg (nI_pos (by omega)), if_neg (show ¬ (10000 : Int32) ≤ nI m from nI_ge (b := 10000) (by omega) (by omega))]
  simp -implicitDefEqProofs only [zln_e, zlt_e, ixn (show m < 2 ^ 31 by omega), ht, hn14, show Int32.ofNat 1600 = nI 1600 from rfl]
  rw [if_pos (by decide), hmin]
  simp -implicitDefEqProofs only [tg_sI, ln_sI, tg_sL, ln_sL, tg_sR, ln_sR, tg_sC, ln_sC, ai_sI, ai_sL, gL_sI, gR_sI, gI_sL, gR_sL, gI_sR, gL_sR, gI_sI, gL_sL, gR_sR, zlt_e, zln_e, zli_e, zll_e, zbI_e, zbL_e, zbR_e, zbV_e, zeR_e, zeN_s, zeN_n, Nat.reduceEqDiff, and_self, and_true, true_and, and_false, false_and, ite_true, ite_false, reduceIte, ixn (show m < 2 ^ 31 by omega)]
  rw [show sz σ = σ.1.length from rfl, if_pos hcp]
  rfl
/-- the end of the class's reading of a rule -/
theorem c_rTail {cc : Nat} {u3 : Option Value} (hk : k < 3) (hC : CS α t n st) : (¬ lL st = true → zR 85 52 45 [some (.ref 12), some (.int (nI k)), some (.int (nI cc)), u3] [] α = some (some (.int (-1)), α)) ∧ (lL st = true → ∀ L, DR α L → L.length < 1600 → zR 85 52 45 [some (.ref 12), some (.int (nI k)), some (.int (nI cc)), u3] [] α = some (some (.int (nI cc)), sR (cpN α 14 L.length) 13 k (some α.1.length))) := by
  have hS := CS_sh hC
  rw [q_X6_read_45]
  simp -implicitDefEqProofs only [tg_sI, ln_sI, tg_sL, ln_sL, tg_sR, ln_sR, tg_sC, ln_sC, ai_sI, ai_sL, gL_sI, gR_sI, gI_sL, gR_sL, gI_sR, gL_sR, gI_sI, gL_sL, gR_sR, zlt_e, zln_e, zli_e, zll_e, zbI_e, zbL_e, zbR_e, zbV_e, zeR_e, zeN_s, zeN_n, Nat.reduceEqDiff, and_self, and_true, true_and, and_false, false_and, ite_true, ite_false, reduceIte, tg_12 hS, gR_12_0 hS, tg_8 hS, q_X10_faultFound]
  constructor
  · intro hd
    match st, hC, hd with
    | .inl _, _, hd => exact absurd rfl hd
    | .inr (f, p), hC, _ =>
      have h8 : gI α 8 8 = nI f := hC.2.2.1
      have hf : 0 < f ∧ f < 6 ∧ p < 2000 := hC.2.1
      rw [h8, if_neg (nI_ne0 hf.1 (by omega))]
  · intro hl L hD hL
    obtain ⟨s, e, rfl⟩ := lx_live hl
    have h8 : gI α 8 8 = 0 := hC.2.2.2.1
    have hlen := Sh_len hS
    have hS2 := Sh_cpN hS (A := 14) (m := L.length) (by omega)
    have htr : tg (cpN α 14 L.length) α.1.length = 32 := by
      unfold tg kd
      rw [cpN_1, List.getElem?_append_right (Nat.le_refl _)]
      simp
    rw [h8, if_pos rfl, if_neg (nI_pos (by omega)), if_pos (show nI k < 3 from nI_lt (b := 3) hk (by omega))]
    simp -implicitDefEqProofs only [tg_sI, ln_sI, tg_sL, ln_sL, tg_sR, ln_sR, tg_sC, ln_sC, ai_sI, ai_sL, gL_sI, gR_sI, gI_sL, gR_sL, gI_sR, gL_sR, gI_sI, gL_sL, gR_sR, zlt_e, zln_e, zli_e, zll_e, zbI_e, zbL_e, zbR_e, zbV_e, zeR_e, zeN_s, zeN_n, Nat.reduceEqDiff, and_self, and_true, true_and, and_false, false_and, ite_true, ite_false, reduceIte, gR_12_1 hS, gR_12_2 hS, hD.1, c_copy hS hL]
    rw [if_pos (ai_nI (.inl (tg_13 hS2)) (ln_13 hS2) hk (by omega)), htr, if_pos rfl, ixn (by omega)]
end
