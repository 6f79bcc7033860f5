/-! chances and hundreds, both at once -/
section
variable {t : Nat → Nat} {n : Nat} {α β : zS} {st : lx}
theorem CS_sh (h : CS α t n st) : Sh α := h.1.1
theorem RS_sh (h : RS β t n st) : Sh β := h.1.1
/-- a number, both -/
theorem j_num (hC : CS α t n st) (hR : RS β t n st) {lo hi : Nat} (hhi : hi < 10000) (hlo : lo ≤ hi) : ∃ α' β' v w, zM 110 [.ref 8, .int (nI lo), .int (nI hi)] α = some (some (.int (nI v)), α') ∧ zM 200 [.ref 176, .int (nI lo), .int (nI hi)] β = some (some (.int w), β') ∧ CS α' t n (lU t n lo hi st) ∧ RS β' t n (lU t n lo hi st) ∧ Un (fun r _ => r = 8) α α' ∧ Un XL β β' ∧ lo ≤ v ∧ v ≤ hi ∧ (lL (lU t n lo hi st) = true → w = nI v ∧ v = lUv t n st) := by
  obtain ⟨α', h1, h2⟩ := c_takeNumber hC hhi hlo
  obtain ⟨w, β', g1, g2, g3⟩ := r_number hR hhi hlo
  have hb : lL (lU t n lo hi st) = true → lo ≤ lUv t n st ∧ lUv t n st ≤ hi := by
    intro hl
    match st, hl with
    | .inl (s, e), hl =>
      unfold lU at hl
      simp only at hl
      split at hl
      · split at hl
        · split at hl
          · rename_i q; exact q
          · cases hl
        · cases hl
      · cases hl
    | .inr q, hl => cases hl
  refine ⟨α', β', _, w, h1, g1, h2, g2, Un_tok (CS_sh hC) h1 rfl (by decide +kernel), Un_ref (RS_sh hR) g1 rfl (by decide +kernel), ?_, ?_, ?_⟩
  · split
    · rename_i q; exact (hb q).1
    · omega
  · split
    · rename_i q; exact (hb q).2
    · exact hlo
  · intro q
    rw [if_pos q]
    exact ⟨(g3 q).1, rfl⟩
theorem lU_live {lo hi : Nat} {st : lx} (h : lL (lU t n lo hi st) = true) : lL st = true := by
  match st, h with
  | .inl _, _ => rfl
  | .inr _, h => exact h
theorem lU_hi {lo hi : Nat} {st : lx} (hl : lL (lU t n lo hi st) = true) : lo ≤ lUv t n st ∧ lUv t n st ≤ hi := by
  match st, hl with
  | .inl (s, e), hl =>
    unfold lU at hl
    simp only at hl
    split at hl
    · split at hl
      · split at hl
        · rename_i q; exact q
        · cases hl
      · cases hl
    · cases hl
  | .inr q, hl => cases hl
/-- numbers of 0 .. 100, i of them -/
def hun (t : Nat → Nat) (n : Nat) : Nat → lx → lx
  | 0, st => st
  | i + 1, st => lU t n 0 100 (hun t n i st)
/-- chances, i of them: what they lack of 100, and the state -/
def chn (t : Nat → Nat) (n : Nat) : Nat → lx → Nat × lx
  | 0, st => (100, st)
  | i + 1, st => ((chn t n i st).1 - (if lL (lU t n 0 (chn t n i st).1 (chn t n i st).2) = true then lUv t n (chn t n i st).2 else 0), lU t n 0 (chn t n i st).1 (chn t n i st).2)
/-- the chance i of N: the middle one takes what lacks -/
def chf (t : Nat → Nat) (n N i : Nat) (st : lx) : Nat := lUv t n (chn t n i st).2 + if i = N / 2 then (chn t n N st).1 else 0
theorem chn_le (st : lx) : ∀ i, (chn t n i st).1 ≤ 100
  | 0 => Nat.le_refl _
  | i + 1 => by
    have := chn_le st i
    simp only [chn]
    omega
theorem chn_live {st : lx} {i : Nat} (h : lL (chn t n (i + 1) st).2 = true) : lL (chn t n i st).2 = true := lU_live h
theorem hun_live {st : lx} {i : Nat} (h : lL (hun t n (i + 1) st) = true) : lL (hun t n i st) = true := lU_live h
theorem c_hund {A : Nat} (N : Nat) (hN : N ≤ 5) (hA : 16 ≤ A) (hA2 : A < 176) (htA : ∀ σ, Sh σ → tg σ A = 32) (hlA : ∀ σ, Sh σ → ln σ A = N) (st : lx) : ∀ d i, d + i = N → ∀ α, CS α t n (hun t n i st) → (lL (hun t n i st) = true → ∀ j, j < i → gI α A j = nI (lUv t n (hun t n j st))) → ∃ α', zR 4 14 2 [some (.ref 11), some (.ref A), some (.int (nI i))] [] α = some (none, α') ∧ CS α' t n (hun t n N st) ∧ Un (fun r _ => r = 8 ∨ r = A) α α' ∧ (lL (hun t n N st) = true → ∀ j, j < N → gI α' A j = nI (lUv t n (hun t n j st))) := by
  intro d
  induction d with
  | zero =>
    intro i hi α hC hv
    have hS := CS_sh hC
    have : i = N := by omega
    subst this
    refine ⟨α, ?_, hC, Un.refl _ _, hv⟩
    rw [q_X1_takeHundreds_2, htA _ hS, hlA _ hS, ofN, if_pos (by decide), if_pos (nI_le (by omega) (by omega))]
  | succ d ih =>
    intro i hi α hC hv
    have hS := CS_sh hC
    obtain ⟨α1, h1, h2⟩ := c_takeNumber hC (lo := 0) (hi := 100) (by decide) (by decide)
    have h1 : zM 110 [.ref 8, .int 0, .int 100] α = _ := h1
    have hS1 := CS_sh h2
    have u1 := Un_tok hS h1 rfl (by decide +kernel)
    rw [q_X1_takeHundreds_2]
    simp -implicitDefEqProofs only [tg_sI, ln_sI, tg_sL, ln_sL, tg_sR, ln_sR, tg_sC, ln_sC, ai_sI, ai_sL, gL_sI, gR_sI, gI_sL, gR_sL, gI_sR, gL_sR, gI_sI, gL_sL, gR_sR, zlt_e, zln_e, zli_e, zll_e, zbI_e, zbL_e, zbR_e, zbV_e, zeR_e, zeN_s, zeN_n, Nat.reduceEqDiff, and_self, and_true, true_and, and_false, false_and, ite_true, ite_false, reduceIte, htA _ hS, hlA _ hS, ofN, tg_11 hS, gR_11_0 hS, tg_8 hS, h1]
    rw [if_pos (by decide), if_neg (nI_ge (by omega) (by omega)), if_pos (ai_nI (.inl (htA _ hS1)) (hlA _ hS1) (by omega) (by omega)), nI_1, ixn (by omega)]
    obtain ⟨α', g1, g2, g3, g4⟩ := ih (i + 1) (by omega) _ (CS_sI (r := A) (j := i) (v := nI (if lL (lU t n 0 100 (hun t n i st)) = true then lUv t n (hun t n i st) else 0)) h2 (by omega) (by omega) (by omega) (by omega)) (by
      intro hl j hj
      rw [gI_sI]
      by_cases q : j = i
      · rw [if_pos ⟨rfl, q⟩, if_pos (show lL (lU t n 0 100 (hun t n i st)) = true from hl), q]
      · rw [if_neg (by omega), u1.i (by omega) (by omega) (by omega) (by omega)]
        exact hv (hun_live hl) j (by omega))
    refine ⟨α', g1, g2, ?_, g4⟩
    exact (u1.t2 (Un_sI (X := fun r _ => r = A) (r := A) (j := i) (v := nI (if lL (lU t n 0 100 (hun t n i st)) = true then lUv t n (hun t n i st) else 0)) rfl) (fun r j _ _ q => .inl q) (fun r j _ _ q => .inr q)).trans g3
theorem c_chan {A : Nat} (N : Nat) (hN : N ≤ 5) (hN3 : 3 ≤ N) (hA : 16 ≤ A) (hA2 : A < 176) (htA : ∀ σ, Sh σ → tg σ A = 32) (hlA : ∀ σ, Sh σ → ln σ A = N) (st : lx) : ∀ d i, d + i = N → ∀ α u, CS α t n (chn t n i st).2 → (lL (chn t n i st).2 = true → ∀ j, j < i → gI α A j = nI (100 * lUv t n (chn t n j st).2)) → ∃ α', zR 4 15 4 [some (.ref 11), some (.ref A), some (.int (nI (chn t n i st).1)), some (.int (nI i)), u] [] α = some (none, α') ∧ CS α' t n (chn t n N st).2 ∧ Un (fun r _ => r = 8 ∨ r = A) α α' ∧ (lL (chn t n N st).2 = true → ∀ j, j < N → gI α' A j = nI (100 * chf t n N j st)) := by
  intro d
  induction d with
  | zero =>
    intro i hi α u hC hv
    have hS := CS_sh hC
    have : i = N := by omega
    subst this
    have e2 : nI i / 2 = nI (i / 2) := pk_div (d := 2) (by omega) (by omega) (by omega)
    rw [q_X1_takeChances_4]
    simp -implicitDefEqProofs only [tg_sI, ln_sI, tg_sL, ln_sL, tg_sR, ln_sR, tg_sC, ln_sC, ai_sI, ai_sL, gL_sI, gR_sI, gI_sL, gR_sL, gI_sR, gL_sR, gI_sI, gL_sL, gR_sR, zlt_e, zln_e, zli_e, zll_e, zbI_e, zbL_e, zbR_e, zbV_e, zeR_e, zeN_s, zeN_n, Nat.reduceEqDiff, and_self, and_true, true_and, and_false, false_and, ite_true, ite_false, reduceIte, htA _ hS, hlA _ hS, ofN, e2]
    rw [if_pos (show 32 ≤ 32 by decide), if_pos (nI_le (by omega) (by omega)), if_pos (ai_nI (.inl (htA _ hS)) (hlA _ hS) (by omega) (by omega)), if_pos (ai_nI (.inl (htA _ hS)) (hlA _ hS) (by omega) (by omega)), ixn (by omega)]
    refine ⟨_, rfl, CS_sI hC (by omega) (by omega) (by omega) (by omega), Un_sI (.inr rfl), ?_⟩
    intro hl j hj
    have hv := hv hl
    rw [gI_sI]
    unfold chf
    by_cases q : j = i / 2
    · rw [if_pos ⟨rfl, q⟩, if_pos q, hv _ (by omega), ← q, show (100 : Int32) = nI 100 from rfl, pk_mul, nI_add]
      congr 1
      omega
    · rw [if_neg (by omega), if_neg q, hv j hj, Nat.add_zero]
  | succ d ih =>
    intro i hi α u hC hv
    have hS := CS_sh hC
    have hle := chn_le (t := t) (n := n) st i
    obtain ⟨α1, h1, h2⟩ := c_takeNumber hC (lo := 0) (hi := (chn t n i st).1) (by omega) (by omega)
    have h1 : zM 110 [.ref 8, .int 0, .int (nI (chn t n i st).1)] α = _ := h1
    have hS1 := CS_sh h2
    have u1 := Un_tok hS h1 rfl (by decide +kernel)
    rw [q_X1_takeChances_4]
    simp -implicitDefEqProofs only [tg_sI, ln_sI, tg_sL, ln_sL, tg_sR, ln_sR, tg_sC, ln_sC, ai_sI, ai_sL, gL_sI, gR_sI, gI_sL, gR_sL, gI_sR, gL_sR, gI_sI, gL_sL, gR_sR, zlt_e, zln_e, zli_e, zll_e, zbI_e, zbL_e, zbR_e, zbV_e, zeR_e, zeN_s, zeN_n, Nat.reduceEqDiff, and_self, and_true, true_and, and_false, false_and, ite_true, ite_false, reduceIte, htA _ hS, hlA _ hS, ofN, tg_11 hS, gR_11_0 hS, tg_8 hS, h1]
    have hsub : (if lL (lU t n 0 (chn t n i st).1 (chn t n i st).2) = true then lUv t n (chn t n i st).2 else 0) ≤ (chn t n i st).1 := by
      split
      · rename_i q; exact (lU_hi q).2
      · omega
    rw [if_pos (show 32 ≤ 32 by decide), if_neg (nI_ge (by omega) (by omega)), if_pos (ai_nI (.inl (htA _ hS1)) (hlA _ hS1) (by omega) (by omega)), nI_1, ixn (by omega), pk_sub hsub, show (100 : Int32) = nI 100 from rfl, pk_mul]
    obtain ⟨α', g1, g2, g3, g4⟩ := ih (i + 1) (by omega) _ (some (.int (nI (if lL (lU t n 0 (chn t n i st).1 (chn t n i st).2) = true then lUv t n (chn t n i st).2 else 0)))) (CS_sI (r := A) (j := i) (v := nI (100 * if lL (lU t n 0 (chn t n i st).1 (chn t n i st).2) = true then lUv t n (chn t n i st).2 else 0)) h2 (by omega) (by omega) (by omega) (by omega)) (by
      intro hl j hj
      rw [gI_sI]
      by_cases q : j = i
      · rw [if_pos ⟨rfl, q⟩, if_pos (show lL (lU t n 0 (chn t n i st).1 (chn t n i st).2) = true from hl), q]
      · rw [if_neg (by omega), u1.i (by omega) (by omega) (by omega) (by omega)]
        exact hv (chn_live hl) j (by omega))
    refine ⟨α', g1, g2, ?_, g4⟩
    exact (u1.t2 (Un_sI (X := fun r _ => r = A) (r := A) (j := i) (v := nI (100 * if lL (lU t n 0 (chn t n i st).1 (chn t n i st).2) = true then lUv t n (chn t n i st).2 else 0)) rfl) (fun r j _ _ q => .inl q) (fun r j _ _ q => .inr q)).trans g3
theorem chn_sum (st : lx) : ∀ i, lL (chn t n i st).2 = true → (chn t n i st).1 ≤ 100
  | i, _ => chn_le st i
theorem r_hund_k (st : lx) : ∀ d i, d + i = 5 → ∀ β, RS β t n (hun t n i st) → (lL (hun t n i st) = true → ∀ j, j < i → gI β 222 j = nI (lUv t n (hun t n j st))) → ∃ β', zR 3 211 2 [some (.ref 176), some (.int (nI i))] [] β = some (none, β') ∧ RS β' t n (hun t n 5 st) ∧ Un (fun r j => XL r j ∨ (r = 222 ∧ j < 5)) β β' ∧ (lL (hun t n 5 st) = true → ∀ j, j < 5 → gI β' 222 j = nI (lUv t n (hun t n j st))) := by
  intro d
  induction d with
  | zero =>
    intro i hi β hR hv
    have : i = 5 := by omega
    subst this
    refine ⟨β, ?_, hR, Un.refl _ _, hv⟩
    rw [q_X12_keepsTold_2, if_pos (by decide)]
  | succ d ih =>
    intro i hi β hR hv
    have hS := RS_sh hR
    obtain ⟨w, β1, h1, h2, h3⟩ := r_number hR (lo := 0) (hi := 100) (by decide) (by decide)
    have h1 : zM 200 [.ref 176, .int 0, .int 100] β = _ := h1
    have hS1 := RS_sh h2
    have u1 := Un_ref hS h1 rfl (by decide +kernel)
    rw [q_X12_keepsTold_2]
    simp -implicitDefEqProofs only [tg_sI, ln_sI, tg_sL, ln_sL, tg_sR, ln_sR, tg_sC, ln_sC, ai_sI, ai_sL, gL_sI, gR_sI, gI_sL, gR_sL, gI_sR, gL_sR, gI_sI, gL_sL, gR_sR, zlt_e, zln_e, zli_e, zll_e, zbI_e, zbL_e, zbR_e, zbV_e, zeR_e, zeN_s, zeN_n, Nat.reduceEqDiff, and_self, and_true, true_and, and_false, false_and, ite_true, ite_false, reduceIte, tg_176 hS, gR_176_55 hS, h1]
    rw [if_neg (show ¬ (5 : Int32) ≤ nI i from nI_ge (b := 5) (by omega) (by omega)), if_pos (ai_nI (.inl (tg_222 hS1)) (ln_222 hS1) (by omega) (by omega)), nI_1, ixn (by omega)]
    obtain ⟨β', g1, g2, g3, g4⟩ := ih (i + 1) (by omega) _ (RS_sI (r := 222) (j := i) (v := w) h2 (by omega)) (by
      intro hl j hj
      rw [gI_sI]
      by_cases q : j = i
      · rw [if_pos (by omega), (h3 hl).1, q]
      · rw [if_neg (by omega), u1.iA (by omega) (by omega) (by rw [tg_222 hS]; decide) (by unfold XL; omega)]
        exact hv (hun_live hl) j (by omega))
    refine ⟨β', g1, g2, ?_, g4⟩
    exact (u1.t2 (Un_sI (X := fun r j => r = 222 ∧ j < 5) (r := 222) (j := i) (v := w) ⟨rfl, by omega⟩) (fun r j _ _ q => .inl q) (fun r j _ _ q => .inr q)).trans g3
theorem r_hund_a {k : Nat} (hk : k < 6) (b : Int32) (st : lx) : ∀ d i, d + i = 5 → ∀ β, RS β t n (hun t n i st) → (lL (hun t n i st) = true → ∀ j, j < i → gI β 221 (5 * k + j) = nI (lUv t n (hun t n j st))) → ∃ β', zR 6 210 16 [some (.ref 176), some (.int b), some (.int (nI k)), some (.int (nI i))] [] β = some (none, β') ∧ RS β' t n (hun t n 5 st) ∧ Un (fun r j => XL r j ∨ (r = 221 ∧ 5 * k ≤ j ∧ j < 5 * k + 5)) β β' ∧ (lL (hun t n 5 st) = true → ∀ j, j < 5 → gI β' 221 (5 * k + j) = nI (lUv t n (hun t n j st))) := by
  intro d
  induction d with
  | zero =>
    intro i hi β hR hv
    have : i = 5 := by omega
    subst this
    refine ⟨β, ?_, hR, Un.refl _ _, hv⟩
    rw [q_X12_askTold_16, if_pos (by decide)]
  | succ d ih =>
    intro i hi β hR hv
    have hS := RS_sh hR
    obtain ⟨w, β1, h1, h2, h3⟩ := r_number hR (lo := 0) (hi := 100) (by decide) (by decide)
    have h1 : zM 200 [.ref 176, .int 0, .int 100] β = _ := h1
    have hS1 := RS_sh h2
    have u1 := Un_ref hS h1 rfl (by decide +kernel)
    rw [q_X12_askTold_16]
    simp -implicitDefEqProofs only [tg_sI, ln_sI, tg_sL, ln_sL, tg_sR, ln_sR, tg_sC, ln_sC, ai_sI, ai_sL, gL_sI, gR_sI, gI_sL, gR_sL, gI_sR, gL_sR, gI_sI, gL_sL, gR_sR, zlt_e, zln_e, zli_e, zll_e, zbI_e, zbL_e, zbR_e, zbV_e, zeR_e, zeN_s, zeN_n, Nat.reduceEqDiff, and_self, and_true, true_and, and_false, false_and, ite_true, ite_false, reduceIte, tg_176 hS, gR_176_54 hS, h1]
    rw [if_neg (show ¬ (5 : Int32) ≤ nI i from nI_ge (b := 5) (by omega) (by omega)), show (5 : Int32) = nI 5 from rfl, pk_mul, nI_add, if_pos (ai_nI (.inl (tg_221 hS1)) (ln_221 hS1) (by omega) (by omega)), nI_1, ixn (by omega)]
    obtain ⟨β', g1, g2, g3, g4⟩ := ih (i + 1) (by omega) _ (RS_sI (r := 221) (j := 5 * k + i) (v := w) h2 (by omega)) (by
      intro hl j hj
      rw [gI_sI]
      by_cases q : j = i
      · rw [if_pos (by omega), (h3 hl).1, q]
      · rw [if_neg (by omega), u1.iA (by omega) (by omega) (by rw [tg_221 hS]; decide) (by unfold XL; omega)]
        exact hv (hun_live hl) j (by omega))
    refine ⟨β', g1, g2, ?_, g4⟩
    exact (u1.t2 (Un_sI (X := fun r j => r = 221 ∧ 5 * k ≤ j ∧ j < 5 * k + 5) (r := 221) (j := 5 * k + i) (v := w) ⟨rfl, by omega, by omega⟩) (fun r j _ _ q => .inl q) (fun r j _ _ q => .inr q)).trans g3
theorem lU_100 {hi : Nat} (h : hi ≤ 100) (st : lx) : lU t n 0 hi st = if lL (lU t n 0 100 st) = true ∧ ¬ lUv t n st ≤ hi then lf st 2 (lp st) else lU t n 0 100 st := by
  match st with
  | .inr q => rfl
  | .inl (s, e) =>
    have e1 : ∀ hi, lU t n 0 hi (.inl (s, e)) = if nuT t n s e = true then (if tkE t n s ≤ s + 4 then (if 0 ≤ nv t s (tkE t n s) ∧ nv t s (tkE t n s) ≤ hi then la t n (.inl (s, e)) else .inr (2, s)) else .inr (1, s + 4)) else .inr (1, s) := fun _ => rfl
    have e2 : lUv t n (.inl (s, e)) = nv t s (tkE t n s) := rfl
    have e3 : lf (.inl (s, e)) 2 (lp (.inl (s, e))) = .inr (2, s) := rfl
    rw [e1 hi, e1 100, e2, e3]
    by_cases h1 : nuT t n s e = true
    · rw [if_pos h1, if_pos h1]
      by_cases h2 : tkE t n s ≤ s + 4
      · rw [if_pos h2, if_pos h2]
        by_cases h3 : nv t s (tkE t n s) ≤ hi
        · rw [if_pos (show 0 ≤ nv t s (tkE t n s) ∧ nv t s (tkE t n s) ≤ hi from ⟨by omega, h3⟩), if_neg (fun q => q.2 h3), if_pos (show 0 ≤ nv t s (tkE t n s) ∧ nv t s (tkE t n s) ≤ 100 from ⟨by omega, by omega⟩)]
        · rw [if_neg (show ¬ (0 ≤ nv t s (tkE t n s) ∧ nv t s (tkE t n s) ≤ hi) by omega)]
          by_cases h4 : nv t s (tkE t n s) ≤ 100
          · rw [if_pos (show 0 ≤ nv t s (tkE t n s) ∧ nv t s (tkE t n s) ≤ 100 from ⟨by omega, h4⟩), if_pos ⟨rfl, h3⟩]
          · rw [if_neg (show ¬ (0 ≤ nv t s (tkE t n s) ∧ nv t s (tkE t n s) ≤ 100) by omega)]
            exact (if_neg (fun q => by cases q.1)).symm
      · rw [if_neg h2, if_neg h2]
        exact (if_neg (fun q => by cases q.1)).symm
    · rw [if_neg h1, if_neg h1]
      exact (if_neg (fun q => by cases q.1)).symm
theorem bad_of {β : zS} {st : lx} (h : RS β t n st) : (gI β 176 5 = 0) = (lL st = true) := by
  match st, h with
  | .inl (s, e), h => exact propext ⟨fun _ => rfl, fun _ => bad_live h⟩
  | .inr (f, p), h => exact propext ⟨fun q => absurd q (RS_d h), fun q => by cases q⟩
theorem lU_la {lo hi : Nat} {st : lx} (h : lL (lU t n lo hi st) = true) : ∃ s e, st = .inl (s, e) ∧ lU t n lo hi st = la t n (.inl (s, e)) ∧ s < n := by
  match st, h with
  | .inl (s, e), hl =>
    refine ⟨s, e, rfl, ?_⟩
    unfold lU at hl ⊢
    simp only at hl ⊢
    split at hl
    · rename_i q0
      split at hl
      · split at hl
        · rename_i q1 q; rw [if_pos q0, if_pos q1, if_pos q]; exact ⟨rfl, (nuT_t q0).1⟩
        · cases hl
      · cases hl
    · cases hl
  | .inr q, hl => cases hl
theorem r_chan {T M F : Nat} (N : Nat) (hN : N ≤ 5) (hN3 : 3 ≤ N) (hT : 213 ≤ T) (hT2 : T < 253) (htT : ∀ σ, Sh σ → tg σ T = 32) (hlT : ∀ σ, Sh σ → ln σ T = M) (hFM : F + N ≤ M) (hM : M < 2000) (st : lx) : ∀ d i, d + i = N → ∀ β u a, RS β t n (chn t n i st).2 → (lL (chn t n i st).2 = true → a = nI (100 - (chn t n i st).1) ∧ ∀ j, j < i → gI β T (F + j) = nI (lUv t n (chn t n j st).2)) → ∃ β', zR 3 207 4 [some (.ref 176), some (.ref T), some (.int (nI F)), some (.int (nI N)), some (.int (nI (N / 2))), some (.int a), some (.int (nI i)), u] [] β = some (none, β') ∧ RS β' t n (chn t n N st).2 ∧ Un (fun r j => XL r j ∨ (r = T ∧ F ≤ j ∧ j < F + N)) β β' ∧ (lL (chn t n N st).2 = true → ∀ j, j < N → gI β' T (F + j) = nI (chf t n N j st)) := by
  intro d
  induction d with
  | zero =>
    intro i hi β u a hR hv
    have hS := RS_sh hR
    have : i = N := by omega
    subst this
    rw [q_X12_chances_4]
    simp -implicitDefEqProofs only [tg_sI, ln_sI, tg_sL, ln_sL, tg_sR, ln_sR, tg_sC, ln_sC, ai_sI, ai_sL, gL_sI, gR_sI, gI_sL, gR_sL, gI_sR, gL_sR, gI_sI, gL_sL, gR_sR, zlt_e, zln_e, zli_e, zll_e, zbI_e, zbL_e, zbR_e, zbV_e, zeR_e, zeN_s, zeN_n, Nat.reduceEqDiff, and_self, and_true, true_and, and_false, false_and, ite_true, ite_false, reduceIte, tg_176 hS, nI_add]
    rw [if_pos (nI_le (Nat.le_refl _) (by omega))]
    by_cases hl : lL (chn t n i st).2 = true
    · obtain ⟨ha, hv⟩ := hv hl
      have hb : gI β 176 5 = 0 := by
        generalize (chn t n i st).2 = z at hR hl
        match z, hR, hl with
        | .inl (s, e), hR, _ => exact bad_live hR
      rw [hb, if_pos rfl, if_pos (ai_nI (.inl (htT _ hS)) (hlT _ hS) (by omega) (by omega)), if_pos (ai_nI (.inl (htT _ hS)) (hlT _ hS) (by omega) (by omega)), ixn (by omega)]
      refine ⟨_, rfl, RS_sI hR hT, Un_sI (.inr ⟨rfl, by omega, by omega⟩), fun _ j hj => ?_⟩
      have hle := chn_le (t := t) (n := n) st i
      rw [gI_sI]
      unfold chf
      by_cases q : j = i / 2
      · rw [if_pos (by omega), if_pos q, hv _ (by omega), ha, ← q, show (100 : Int32) = nI 100 from rfl, pk_sub (by omega), nI_add]
        congr 2
        omega
      · rw [if_neg (by omega), if_neg q, hv j hj, Nat.add_zero]
    · have hb : ¬ gI β 176 5 = 0 := by
        generalize (chn t n i st).2 = z at hR hl
        match z, hR, hl with
        | .inr (f, p), hR, _ => exact RS_d hR
        | .inl _, _, hl => exact absurd rfl hl
      rw [if_neg hb]
      exact ⟨_, rfl, hR, Un.refl _ _, fun z => absurd z hl⟩
  | succ d ih =>
    intro i hi β u a hR hv
    have hS := RS_sh hR
    have hle := chn_le (t := t) (n := n) st i
    obtain ⟨w, β1, h1, h2, h3⟩ := r_number hR (lo := 0) (hi := 100) (by decide) (by decide)
    have h1 : zM 200 [.ref 176, .int 0, .int 100] β = _ := h1
    have hS1 := RS_sh h2
    have u1 := Un_ref hS h1 rfl (by decide +kernel)
    rw [q_X12_chances_4]
    simp -implicitDefEqProofs only [tg_sI, ln_sI, tg_sL, ln_sL, tg_sR, ln_sR, tg_sC, ln_sC, ai_sI, ai_sL, gL_sI, gR_sI, gI_sL, gR_sL, gI_sR, gL_sR, gI_sI, gL_sL, gR_sR, zlt_e, zln_e, zli_e, zll_e, zbI_e, zbL_e, zbR_e, zbV_e, zeR_e, zeN_s, zeN_n, Nat.reduceEqDiff, and_self, and_true, true_and, and_false, false_and, ite_true, ite_false, reduceIte, tg_176 hS, tg_176 hS1, nI_add, h1]
    rw [if_neg (nI_ge (by omega) (by omega))]
    have aiT : ∀ γ, Sh γ → ai γ 32 32 T (nI (F + i)) = true := fun γ hγ => ai_nI (.inl (htT _ hγ)) (hlT _ hγ) (by omega) (by omega)
    rw [if_pos (aiT _ hS1), ixn (by omega)]
    have hXe : (chn t n (i + 1) st).2 = lU t n 0 (chn t n i st).1 (chn t n i st).2 := rfl
    have fin : ∀ γ, RS γ t n (chn t n (i + 1) st).2 → Un XL β γ → (lL (chn t n (i + 1) st).2 = true → a + w = nI (100 - (chn t n (i + 1) st).1) ∧ w = nI (lUv t n (chn t n i st).2)) → ∃ β', zR 3 207 33 [some (.ref 176), some (.ref T), some (.int (nI F)), some (.int (nI N)), some (.int (nI (N / 2))), some (.int (a + w)), some (.int (nI i)), some (.int w)] [] (sI γ T (F + i) w) = some (none, β') ∧ RS β' t n (chn t n N st).2 ∧ Un (fun r j => XL r j ∨ (r = T ∧ F ≤ j ∧ j < F + N)) β β' ∧ (lL (chn t n N st).2 = true → ∀ j, j < N → gI β' T (F + j) = nI (chf t n N j st)) := by
      intro γ hγ uγ hw
      rw [q_X12_chances_33, nI_1]
      obtain ⟨β', g1, g2, g3, g4⟩ := ih (i + 1) (by omega) _ (some (.int w)) (a + w) (RS_sI (r := T) (j := F + i) (v := w) hγ hT) (by
        intro hl
        refine ⟨(hw hl).1, fun j hj => ?_⟩
        rw [gI_sI]
        by_cases q : j = i
        · rw [if_pos (by omega), (hw hl).2, q]
        · rw [if_neg (by omega), uγ.iA (by omega) (by omega) (by rw [htT _ hS]; decide) (by unfold XL; omega)]
          exact (hv (chn_live hl)).2 j (by omega))
      refine ⟨β', g1, g2, ?_, g4⟩
      exact (uγ.t2 (Un_sI (X := fun r j => r = T ∧ F ≤ j ∧ j < F + N) (r := T) (j := F + i) (v := w) ⟨rfl, by omega, by omega⟩) (fun r j _ _ q => .inl q) (fun r j _ _ q => .inr q)).trans g3
    simp only [bad_of h2]
    have h100 := lU_100 (t := t) (n := n) hle (chn t n i st).2
    by_cases hl : lL (lU t n 0 100 (chn t n i st).2) = true
    · obtain ⟨hw1, h9⟩ := h3 hl
      obtain ⟨ha, -⟩ := hv (lU_live hl)
      have hv100 := (lU_hi hl).2
      have hsum : a + w = nI (100 - (chn t n i st).1 + lUv t n (chn t n i st).2) := by rw [ha, hw1, nI_add]
      rw [if_pos hl]
      by_cases hq : lUv t n (chn t n i st).2 ≤ (chn t n i st).1
      · rw [if_neg (fun q => q.2 hq)] at h100
        rw [if_pos (show a + w ≤ 100 by rw [hsum]; exact nI_le (b := 100) (by omega) (by omega))]
        refine fin β1 (by rw [hXe, h100]; exact h2) u1 (fun _ => ⟨?_, hw1⟩)
        rw [hsum]
        congr 1
        show _ = 100 - ((chn t n i st).1 - if lL (lU t n 0 (chn t n i st).1 (chn t n i st).2) = true then lUv t n (chn t n i st).2 else 0)
        rw [h100, if_pos hl]
        omega
      · rw [if_pos ⟨hl, hq⟩] at h100
        rw [if_neg (show ¬ a + w ≤ 100 by rw [hsum]; exact nI_ge (a := 100) (by omega) (by omega)), h9]
        obtain ⟨s, e, hse, hla, hsn⟩ := lU_la hl
        have hlp : lp (chn t n i st).2 = s := by rw [hse]; rfl
        have hn := hR.1.2.1
        obtain ⟨β2, f1, f2⟩ := r_fail h2 (f := 2) (p := s) (by decide) (by decide) (by omega)
        have f1 : zM 191 [.ref 176, .int 2, .int (nI s)] β1 = some (none, β2) := f1
        have hS2 := RS_sh f2
        rw [hlp, f1, zbV_e, if_pos (aiT _ hS2)]
        refine fin β2 ?_ (u1.trans (Un_ref hS1 f1 rfl (by decide +kernel))) ?_
        · rw [hXe, h100, hlp, hse]
          rw [hla] at f2
          exact f2
        · rw [hXe, h100, hse]
          intro q
          cases q
    · rw [if_neg (fun q => hl q.1)] at h100
      rw [if_neg hl]
      refine fin β1 (by rw [hXe, h100]; exact h2) u1 ?_
      rw [hXe, h100]
      intro q
      exact absurd q hl
end
