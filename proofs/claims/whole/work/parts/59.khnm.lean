/-! a new name, both at once -/
section
variable {t : Nat → Nat} {n : Nat} {α α' β γ : zS} {st : lx} {S N M K : Nat}
theorem nn_dead {kd c l4 : Nat} (hR : RS γ t n st) (hd : ¬ lL st = true) (hk : kd < 3) (hm : gI γ 214 kd = nI c) (y : Int64) : zR 5 205 5 [some (.ref 176), some (.int (nI kd)), some (.long y), none, some (.int (nI l4))] [] γ = some (some (.int (nI c)), γ) := by
  have hS := RS_sh hR
  have hb : ¬ gI γ 176 5 = 0 := by rw [bad_of hR]; exact hd
  rw [q_X12_newName_5]
  simp -implicitDefEqProofs only [tg_sI, ln_sI, tg_sL, ln_sL, tg_sR, ln_sR, tg_sC, ln_sC, ai_sI, ai_sL, gL_sI, gR_sI, gI_sL, gR_sL, gI_sR, gL_sR, gI_sI, gL_sL, gR_sR, zlt_e, zln_e, zli_e, zll_e, zbI_e, zbL_e, zbR_e, zbV_e, zeR_e, zeN_s, zeN_n, Nat.reduceEqDiff, and_self, and_true, true_and, and_false, false_and, ite_true, ite_false, reduceIte, tg_176 hS, gR_176_47 hS]
  by_cases h : (3 : Int32) ≤ nI l4
  · rw [if_pos h, if_pos (ai_nI (.inl (tg_214 hS)) (ln_214 hS) (by omega) (by omega)), if_neg hb, ixn (by omega), hm]
  · rw [if_neg h, if_neg hb, if_pos (ai_nI (.inl (tg_214 hS)) (ln_214 hS) (by omega) (by omega)), if_neg hb, ixn (by omega), hm]
theorem nn_store {kd c : Nat} (hR : RS γ t n st) (hd : lL st = true) (hk : kd < 3) (hc : c < 8) (hm : gI γ 214 kd = nI c) (y : Int64) : zR 5 205 5 [some (.ref 176), some (.int (nI kd)), some (.long y), none, some (.int (nI 3))] [] γ = some (some (.int (nI c)), sI (sL γ 213 (8 * kd + c) y) 214 kd (nI (c + 1))) := by
  have hS := RS_sh hR
  have hb : gI γ 176 5 = 0 := by rw [bad_of hR]; exact hd
  rw [q_X12_newName_5]
  simp -implicitDefEqProofs only [tg_sI, ln_sI, tg_sL, ln_sL, tg_sR, ln_sR, tg_sC, ln_sC, ai_sI, ai_sL, gL_sI, gR_sI, gI_sL, gR_sL, gI_sR, gL_sR, gI_sI, gL_sL, gR_sR, zlt_e, zln_e, zli_e, zll_e, zbI_e, zbL_e, zbR_e, zbV_e, zeR_e, zeN_s, zeN_n, Nat.reduceEqDiff, and_self, and_true, true_and, and_false, false_and, ite_true, ite_false, reduceIte, tg_176 hS, gR_176_47 hS, gR_176_46 hS]
  rw [if_pos (show (3 : Int32) ≤ nI 3 by decide), if_pos (ai_nI (.inl (tg_214 hS)) (ln_214 hS) (by omega) (by omega)), if_pos hb, ixn (by omega), hm, show (8 : Int32) = nI 8 from rfl, pk_mul, nI_add, if_pos (ai_nI (.inl (tg_213 hS)) (ln_213 hS) (by omega) (by omega)), if_pos (ai_nI (.inl (tg_214 hS)) (ln_214 hS) (by omega) (by omega)), if_pos (ai_nI (.inl (tg_214 hS)) (ln_214 hS) (by omega) (by omega)), ixn (by omega), nI_1]
/-- one kind of names looked through -/
theorem nn_step {kd l4 C : Nat} (hR : RS γ t n st) (hd : lL st = true) (hl : l4 < 3) (hC : C ≤ 8) (hm : gI γ 214 l4 = nI C) (y : Int64) {s : Nat} (h45 : gI γ 176 45 = nI s) (hs : s < 2000) : zR 5 205 5 [some (.ref 176), some (.int (nI kd)), some (.long y), none, some (.int (nI l4))] [] γ = if (fnd (fun k => decide (gL γ 213 (8 * l4 + k) = y)) C 0).isSome = true then zbV (zM 191 [.ref 176, .int 3, .int (nI s)] γ) (fun σ7 => zR 5 205 5 [some (.ref 176), some (.int (nI kd)), some (.long y), none, some (.int (nI (l4 + 1)))] [] σ7) else zR 5 205 5 [some (.ref 176), some (.int (nI kd)), some (.long y), none, some (.int (nI (l4 + 1)))] [] γ := by
  have hS := RS_sh hR
  have hb : gI γ 176 5 = 0 := by rw [bad_of hR]; exact hd
  have hm1 := oI_m1 (o := fnd (fun k => decide (gL γ 213 (8 * l4 + k) = y)) C 0) (fun k hk => by have := fnd_lt _ _ _ hk; omega)
  rw [q_X12_newName_5]
  simp -implicitDefEqProofs only [tg_sI, ln_sI, tg_sL, ln_sL, tg_sR, ln_sR, tg_sC, ln_sC, ai_sI, ai_sL, gL_sI, gR_sI, gI_sL, gR_sL, gI_sR, gL_sR, gI_sI, gL_sL, gR_sR, zlt_e, zln_e, zli_e, zll_e, zbI_e, zbL_e, zbR_e, zbV_e, zeR_e, zeN_s, zeN_n, Nat.reduceEqDiff, and_self, and_true, true_and, and_false, false_and, ite_true, ite_false, reduceIte, tg_176 hS, gR_176_47 hS, gR_176_46 hS, r_nameOf hS y hl hC hm, h45]
  rw [if_neg (show ¬ (3 : Int32) ≤ nI l4 from nI_ge (b := 3) (by omega) (by omega)), if_pos hb]
  simp only [hm1, nI_1]
  cases fnd (fun k => decide (gL γ 213 (8 * l4 + k) = y)) C 0 <;> rfl
/-- whether a name is known to the reference -/
def knR (γ : zS) (y : Int64) (N M K : Nat) : Bool := (fnd (fun k => decide (gL γ 213 (8 * 0 + k) = y)) N 0).isSome || (fnd (fun k => decide (gL γ 213 (8 * 1 + k) = y)) M 0).isSome || (fnd (fun k => decide (gL γ 213 (8 * 2 + k) = y)) K 0).isSome
theorem nn_all {kd c : Nat} (hR : RS γ t n st) (hd : lL st = true) (hk : kd < 3) (hN : N ≤ 8) (hM : M ≤ 4) (hK : K ≤ 6) (m0 : gI γ 214 0 = nI N) (m1 : gI γ 214 1 = nI M) (m2 : gI γ 214 2 = nI K) (hc : c < 8) (hm : gI γ 214 kd = nI c) (y : Int64) {s : Nat} (h45 : gI γ 176 45 = nI s) (hs : s < 2000) : (knR γ y N M K = false → zR 5 205 5 [some (.ref 176), some (.int (nI kd)), some (.long y), none, some (.int (nI 0))] [] γ = some (some (.int (nI c)), sI (sL γ 213 (8 * kd + c) y) 214 kd (nI (c + 1)))) ∧ (knR γ y N M K = true → ∃ γ', zR 5 205 5 [some (.ref 176), some (.int (nI kd)), some (.long y), none, some (.int (nI 0))] [] γ = some (some (.int (nI c)), γ') ∧ RS γ' t n (lf st 3 s) ∧ Un XL γ γ') := by
  have hS := RS_sh hR
  obtain ⟨γ', f1, f2⟩ := r_fail hR (f := 3) (p := s) (by decide) (by decide) hs
  have f1 : zM 191 [.ref 176, .int 3, .int (nI s)] γ = some (none, γ') := f1
  have uf := Un_ref hS f1 rfl (by decide +kernel)
  have hdead : ¬ lL (lf st 3 s) = true := by
    match st, hd with
    | .inl _, _ => intro q; cases q
  have hm' : gI γ' 214 kd = nI c := by rw [uf.i (by omega) (by omega) (by omega) (by unfold XL; omega)]; exact hm
  have D : ∀ l4, zbV (zM 191 [.ref 176, .int 3, .int (nI s)] γ) (fun σ7 => zR 5 205 5 [some (.ref 176), some (.int (nI kd)), some (.long y), none, some (.int (nI l4))] [] σ7) = some (some (.int (nI c)), γ') := fun l4 => by
    rw [f1, zbV_e, nn_dead f2 hdead hk hm']
  rw [nn_step hR hd (by decide) (by omega) m0 y h45 hs, D]
  unfold knR
  by_cases a0 : (fnd (fun k => decide (gL γ 213 (8 * 0 + k) = y)) N 0).isSome = true
  · rw [if_pos a0, a0]
    exact ⟨fun q => by simp at q, fun _ => ⟨γ', rfl, f2, uf⟩⟩
  · rw [if_neg a0, nn_step hR hd (by decide) (by omega) m1 y h45 hs, D]
    have a0 : (fnd (fun k => decide (gL γ 213 (8 * 0 + k) = y)) N 0).isSome = false := by simpa using a0
    by_cases a1 : (fnd (fun k => decide (gL γ 213 (8 * 1 + k) = y)) M 0).isSome = true
    · rw [if_pos a1, a0, a1]
      exact ⟨fun q => by simp at q, fun _ => ⟨γ', rfl, f2, uf⟩⟩
    · rw [if_neg a1, nn_step hR hd (by decide) (by omega) m2 y h45 hs, D]
      have a1 : (fnd (fun k => decide (gL γ 213 (8 * 1 + k) = y)) M 0).isSome = false := by simpa using a1
      by_cases a2 : (fnd (fun k => decide (gL γ 213 (8 * 2 + k) = y)) K 0).isSome = true
      · rw [if_pos a2, a0, a1, a2]
        exact ⟨fun q => by simp at q, fun _ => ⟨γ', rfl, f2, uf⟩⟩
      · rw [if_neg a2]
        have a2 : (fnd (fun k => decide (gL γ 213 (8 * 2 + k) = y)) K 0).isSome = false := by simpa using a2
        rw [a0, a1, a2]
        exact ⟨fun _ => nn_store hR hd hk hc hm y, fun q => by simp at q⟩
theorem lM_live {st : lx} (h : lL (lM t n st) = true) : ∃ s e, st = .inl (s, e) ∧ lM t n st = la t n (.inl (s, e)) ∧ s < n ∧ kO (t s) = 1 ∧ tkE t n s ≤ s + 6 := by
  match st, h with
  | .inl (s, e), hl =>
    refine ⟨s, e, rfl, ?_⟩
    unfold lM at hl ⊢
    simp only at hl ⊢
    split at hl
    · rename_i q0
      split at hl
      · rename_i q1; rw [if_pos q0, if_pos q1]; exact ⟨rfl, (naT_t q0).1, (naT_t q0).2.1, q1⟩
      · cases hl
    · cases hl
  | .inr q, hl => cases hl
theorem NM_at {s : Nat} (hs : s < n) (hk : kO (t s) = 1) (h6 : tkE t n s ≤ s + 6) : NM (nI (wv t s (tkE t n s))) (lN (nmp t s (tkE t n s - s))) := by
  have e3 : tkE t n s = ru t n 1 s := by unfold tkE; rw [if_neg (by omega), hk]
  exact NM_text (tkE_gt hs (by omega)) h6 (by rw [e3]; exact ru_in s)
end
