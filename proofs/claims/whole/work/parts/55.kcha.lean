/-! chances and hundreds, both at once -/
section
variable {t : Nat → Nat} {n : Nat} {α β : zS} {st : lx}
theorem CS_sh (h : CS α t n st) : Sh α := h.1.1
theorem RS_sh (h : RS β t n st) : Sh β := h.1.1
/-- a number, both -/
theorem j_num (hC : CS α t n st) (hR : RS β t n st) {lo hi : Nat} (hhi : hi < 10000) (hlo : lo ≤ hi) : ∃ α' β' v w, zM 110 [.ref 8, .int (nI lo), .int (nI hi)] α = some (some (.int (nI v)), α') ∧ zM 200 [.ref 176, .int (nI lo), .int (nI hi)] β = some (some (.int w), β') ∧ CS α' t n (lU t n lo hi st) ∧ RS β' t n (lU t n lo hi st) ∧ Un (fun r _ => r = 8) α α' ∧ Un (fun r _ => r = 176) β β' ∧ lo ≤ v ∧ v ≤ hi ∧ (lL (lU t n lo hi st) = true → w = nI v ∧ v = lUv t n st) := by
  obtain ⟨α', h1, h2⟩ := c_takeNumber hC hhi hlo
  obtain ⟨w, β', g1, g2, g3⟩ := r_number hR hhi hlo
  have hb : lL (lU t n lo hi st) = true → lo ≤ lUv t n st ∧ lUv t n st ≤ hi := by
    intro hl
    match st, hl with
    | .inl (s, e), hl =>
      unfold lU at hl
      simp only at hl
      split at hl
      · split at hl
        · split at hl
          · rename_i q; exact q
          · cases hl
        · cases hl
      · cases hl
    | .inr q, hl => cases hl
  refine ⟨α', β', _, w, h1, g1, h2, g2, Un_tok (CS_sh hC) h1 rfl (by decide +kernel), Un_ref (RS_sh hR) g1 rfl (by decide +kernel), ?_, ?_, ?_⟩
  · split
    · rename_i q; exact (hb q).1
    · omega
  · split
    · rename_i q; exact (hb q).2
    · exact hlo
  · intro q
    rw [if_pos q]
    exact ⟨(g3 q).1, rfl⟩
/-- hundreds: A the class's row, T the reference's, from F on, through a loop of its own -/
theorem lU_dead {lo hi f p : Nat} : lU t n lo hi (.inr (f, p)) = .inr (f, p) := rfl
theorem c_hund {A : Nat} (N : Nat) (hN : N ≤ 5) (hA : 16 ≤ A) (hA2 : A < 176) (htA : ∀ σ, Sh σ → tg σ A = 32) (hlA : ∀ σ, Sh σ → ln σ A = N) : ∀ d i, d + i = N → ∀ α st, CS α t n st → ∃ α' st', zR 4 14 2 [some (.ref 11), some (.ref A), some (.int (nI i))] [] α = some (none, α') ∧ CS α' t n st' ∧ Un (fun r _ => r = 8 ∨ r = A) α α' := by
  intro d
  induction d with
  | zero =>
    intro i hi α st hC
    have hS := CS_sh hC
    refine ⟨α, st, ?_, hC, Un.refl _ _⟩
    rw [q_X1_takeHundreds_2, htA _ hS, hlA _ hS, ofN, if_pos (by decide), if_pos (nI_le (by omega) (by omega))]
  | succ d ih =>
    intro i hi α st hC
    have hS := CS_sh hC
    obtain ⟨α1, h1, h2⟩ := c_takeNumber hC (lo := 0) (hi := 100) (by decide) (by decide)
    have h1 : zM 110 [.ref 8, .int 0, .int 100] α = _ := h1
    have hS1 := CS_sh h2
    rw [q_X1_takeHundreds_2]
    simp -implicitDefEqProofs only [tg_sI, ln_sI, tg_sL, ln_sL, tg_sR, ln_sR, tg_sC, ln_sC, ai_sI, ai_sL, gL_sI, gR_sI, gI_sL, gR_sL, gI_sR, gL_sR, gI_sI, gL_sL, gR_sR, zlt_e, zln_e, zli_e, zll_e, zbI_e, zbL_e, zbR_e, zbV_e, zeR_e, zeN_s, zeN_n, Nat.reduceEqDiff, and_self, and_true, true_and, and_false, false_and, ite_true, ite_false, reduceIte, htA _ hS, hlA _ hS, ofN, tg_11 hS, gR_11_0 hS, tg_8 hS, h1]
    rw [if_pos (by decide), if_neg (nI_ge (by omega) (by omega)), if_pos (ai_nI (.inl (htA _ hS1)) (hlA _ hS1) (by omega) (by omega)), nI_1]
    obtain ⟨α', st', g1, g2, g3⟩ := ih (i + 1) (by omega) _ _ (CS_sI (r := A) (j := ix (nI i)) (v := nI (if lL (lU t n 0 100 st) = true then lUv t n st else 0)) h2 (by omega) (by omega) (by omega) (by omega))
    refine ⟨α', st', g1, g2, ?_⟩
    have u1 := Un_tok hS h1 rfl (by decide +kernel)
    exact (u1.t2 (Un_sI (X := fun r _ => r = A) (r := A) (j := ix (nI i)) (v := nI (if lL (lU t n 0 100 st) = true then lUv t n st else 0)) rfl) (fun r j _ _ q => .inl q) (fun r j _ _ q => .inr q)).trans g3
end
