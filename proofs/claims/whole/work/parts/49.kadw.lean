/-! the class's step from token to token, whole -/
section
variable {σ : zS} {t : Nat → Nat} {n : Nat}
theorem ofN (k : Nat) : Int32.ofNat k = nI k := rfl
theorem sI_idv {r j : Nat} {v : Int32} (h : gI σ r j = v) : sI σ r j v = σ := by rw [← h, sI_id]
theorem TC_ke {E : List Nat} {σ' : zS} (h : TC σ t n) (k : Ke E σ σ') (hS : Sh σ') (h1 : E.elem 10033 = false) (h2 : E.elem 10032 = false) (h3 : E.elem 1101 = false) (h4 : E.elem 1102 = false) : TC σ' t n := by
  obtain ⟨a, b, c, d, e, f, g⟩ := h
  refine ⟨hS, b, c, fun j => ?_, ?_, ?_, fun i hi => ?_⟩
  · rw [k.gI (tg_7 a) (by decide) (by exact h1)]; exact d j
  · rw [k.gR (tg_8 a) (by decide) (by exact h3)]; exact e
  · rw [k.gI (tg_8 a) (by decide) (by exact h4)]; exact f
  · rw [k.gI (tg_9 a) (by decide) (by exact h2)]; exact g i hi
theorem dg_le {s m : Nat} (hl : ∀ j, s ≤ j → j < m → kO (t j) = 1) (i : Nat) : dg t s m i ≤ 26 := by
  unfold dg
  split
  · have := kO1 (hl (s + i) (by omega) (by assumption)); omega
  · omega
theorem wv_lt {s m : Nat} (hl : ∀ j, s ≤ j → j < m → kO (t j) = 1) : wv t s m < 387420489 := by
  have h := dg_le hl
  have h0 := h 0
  have h1 := h 1
  have h2 := h 2
  have h3 := h 3
  have h4 := h 4
  have h5 := h 5
  have e : wv t s m = dg t s m 0 * 14348907 + dg t s m 1 * 531441 + dg t s m 2 * 19683 + dg t s m 3 * 729 + dg t s m 4 * 27 + dg t s m 5 * 1 := by
    unfold wv pw pw pw pw pw pw pw plc
    simp only [List.getD_cons_zero, List.getD_cons_succ, Nat.zero_add]
  rw [e]
  omega
theorem s_rw {s m : Nat} (hT : TC σ t n) (hs : gI σ 8 5 = nI s) (hm : gI σ 8 3 = nI m) (hmn : m ≤ n) (hsm : s ≤ m) (hl : ∀ j, s ≤ j → j < m → kO (t j) = 1) (ho : gI σ 8 7 = -1) : zM 99 [.ref 8] σ = some (none, sI (sI σ 8 6 (nI (wv t s m))) 8 7 (if m ≤ s + 6 then owI (wv t s m) else -1)) := by
  have hS := hT.1
  have hn := hT.2.1
  rw [q_X10_readWord]
  simp -implicitDefEqProofs only [tg_sI, ln_sI, tg_sL, ln_sL, tg_sR, ln_sR, tg_sC, ln_sC, ai_sI, ai_sL, gL_sI, gR_sI, gI_sL, gR_sL, gI_sR, gL_sR, gI_sI, gL_sL, gR_sR, zlt_e, zln_e, zli_e, zll_e, zbI_e, zbL_e, zbR_e, zbV_e, zeR_e, zeN_s, zeN_n, Nat.reduceEqDiff, and_self, and_true, true_and, and_false, false_and, ite_true, ite_false, reduceIte, tg_8 hS]
  have h := rw_loop hT hs hm hmn (by omega) hl 6 0 rfl
  rw [show sI σ 8 6 (0 : Int32) = sI σ 8 6 (nI (pw t s m 0)) from rfl]
  rw [show (some (Value.int 0) : Option Value) = some (.int (nI 0)) from rfl, h]
  have hT2 : TC (sI σ 8 6 (nI (wv t s m))) t n := TC_tok hT (by decide)
  by_cases h6 : m ≤ s + 6
  · rw [if_pos h6]
    obtain ⟨σ', h1, h2⟩ := rw_own (v := wv t s m) hT2 (by rw [gI_sI]; exact hs) (by rw [gI_sI]; exact hm) (by rw [gI_sI]; rfl) (by have := wv_lt hl; omega) hmn hsm h6 (by rw [gI_sI]; exact ho) 35 0 rfl (by intro j hj; omega)
    rw [show (some (Value.int 0) : Option Value) = some (.int (nI 0)) from rfl, h1, h2]
  · rw [if_neg h6, q_X10_readWord_39, if_neg (by decide)]
    simp -implicitDefEqProofs only [tg_sI, ln_sI, tg_sL, ln_sL, tg_sR, ln_sR, tg_sC, ln_sC, ai_sI, ai_sL, gL_sI, gR_sI, gI_sL, gR_sL, gI_sR, gL_sR, gI_sI, gL_sL, gR_sR, zlt_e, zln_e, zli_e, zll_e, zbI_e, zbL_e, zbR_e, zbV_e, zeR_e, zeN_s, zeN_n, Nat.reduceEqDiff, and_self, and_true, true_and, and_false, false_and, ite_true, ite_false, reduceIte, tg_8 hS, hs, hm]
    rw [pk_sub hsm, if_pos (show (6 : Int32) < nI (m - s) from nI_lt (a := 6) (by omega) (by omega)), sI_idv (show gI (sI σ 8 6 (nI (wv t s m))) 8 7 = -1 by rw [gI_sI]; exact ho)]
theorem s_rn {s m : Nat} (hT : TC σ t n) (hs : gI σ 8 5 = nI s) (hm : gI σ 8 3 = nI m) (hmn : m ≤ n) (hsm : s ≤ m) (hl : ∀ j, s ≤ j → j < m → kO (t j) = 2) : zM 100 [.ref 8] σ = some (none, sI σ 8 6 (nI (nv t s m))) := by
  have hS := hT.1
  rw [q_X10_readNumber]
  simp -implicitDefEqProofs only [tg_sI, ln_sI, tg_sL, ln_sL, tg_sR, ln_sR, tg_sC, ln_sC, ai_sI, ai_sL, gL_sI, gR_sI, gI_sL, gR_sL, gI_sR, gL_sR, gI_sI, gL_sL, gR_sR, zlt_e, zln_e, zli_e, zll_e, zbI_e, zbL_e, zbR_e, zbV_e, zeR_e, zeN_s, zeN_n, Nat.reduceEqDiff, and_self, and_true, true_and, and_false, false_and, ite_true, ite_false, reduceIte, tg_8 hS, hs]
  exact rn_loop hT hs hm hmn hsm hl (min 4 (m - s)) 0 rfl
theorem sb_and : ∀ c, c < 256 → sb c &&& 255 = nI c := by decide +kernel
theorem kO_cases (c : Nat) : kO c = 1 ∨ kO c = 2 ∨ kO c = 3 ∨ kO c = 5 := by
  unfold kO
  repeat' split
  all_goals simp
/-- from the place where the token's kind is known: g where it may be glued, b the end of the one ahead -/
theorem adv_59 {s x : Nat} {g : Int32} (hT : TC σ t n) (hs : gI σ 8 5 = nI s) (h3 : gI σ 8 3 = nI s) (h7 : gI σ 8 7 = -1) (h4 : gI σ 8 4 = nI (kO (t s))) (hsn : s < n) (h5 : kO (t s) ≠ 5) (hx : x ≤ n) : ∃ σ', zR 2 97 59 [some (.ref 8), some (.int g), some (.int (nI x))] [] σ = some (none, σ') ∧ TD σ' t n s (¬ g = 0 ∧ s = x) := by
  have hS := hT.1
  have hn := hT.2.1
  have hc := hT.2.2.1
  have htx := hT.2.2.2.1
  have h81 := hT.2.2.2.2.1
  rw [q_X10_advance_59]
  simp -implicitDefEqProofs only [tg_sI, ln_sI, tg_sL, ln_sL, tg_sR, ln_sR, tg_sC, ln_sC, ai_sI, ai_sL, gL_sI, gR_sI, gI_sL, gR_sL, gI_sR, gL_sR, gI_sI, gL_sL, gR_sR, zlt_e, zln_e, zli_e, zll_e, zbI_e, zbL_e, zbR_e, zbV_e, zeR_e, zeN_s, zeN_n, Nat.reduceEqDiff, and_self, and_true, true_and, and_false, false_and, ite_true, ite_false, reduceIte, tg_8 hS, h3, h4, h81, hs, nI_1]
  by_cases hk : kO (t s) = 3
  · rw [hk, if_pos (show nI 3 = 3 from rfl), if_pos (ai_nI (.inl (tg_7 hS)) (ln_7 hS) (by omega) (by omega)), ixn (by omega), htx, sb_and _ (hc _)]
    refine ⟨_, rfl, hs, ?_, ?_, ?_, ?_⟩
    · intro q; omega
    · intro _ _; exact ⟨by rw [gI_sI, if_neg (by decide), gI_sI, if_neg (by decide), h4, hk]; rfl, rfl, rfl⟩
    · intro _ q; omega
    · intro _ q; omega
  · have hk12 : kO (t s) = 1 ∨ kO (t s) = 2 := by
      rcases kO_cases (t s) with q | q | q | q
      · exact .inl q
      · exact .inr q
      · exact absurd q hk
      · exact absurd q h5
    rw [if_neg (by rcases hk12 with q | q <;> rw [q] <;> decide)]
    have hr : ru t n (kO (t s)) (s + 1) = ru t n (kO (t s)) s := (ru_step ⟨hsn, rfl⟩).symm
    have hle : ru t n (kO (t s)) s ≤ n := ru_le (by omega)
    have hge : s ≤ ru t n (kO (t s)) s := ru_ge s
    have hin : ∀ j, s ≤ j → j < ru t n (kO (t s)) s → kO (t j) = kO (t s) := ru_in s
    rw [adv_79 hT g (nI x) hk12 h4 (s + 1) (by omega), hr]
    have hT2 : TC (sI σ 8 3 (nI (ru t n (kO (t s)) s))) t n := TC_tok hT (by decide)
    rcases hk12 with q | q
    · rw [q] at hle hge hin h4 hT2 ⊢
      rw [if_pos rfl, s_rw hT2 (by rw [gI_sI]; exact hs) (by rw [gI_sI]; rfl) hle hge hin (by rw [gI_sI]; exact h7), zbV_e]
      by_cases hg : g = 0
      · rw [if_pos hg]
        refine ⟨_, rfl, hs, ?_, ?_, ?_, ?_⟩
        · intro q; omega
        · intro _ q2; omega
        · intro _ _; exact ⟨fun q => absurd hg q.1, fun _ => h4, rfl, rfl, rfl⟩
        · intro _ q2; omega
      · rw [if_neg hg, q_X10_advance_111]
        simp -implicitDefEqProofs only [tg_sI, ln_sI, tg_sL, ln_sL, tg_sR, ln_sR, tg_sC, ln_sC, ai_sI, ai_sL, gL_sI, gR_sI, gI_sL, gR_sL, gI_sR, gL_sR, gI_sI, gL_sL, gR_sR, zlt_e, zln_e, zli_e, zll_e, zbI_e, zbL_e, zbR_e, zbV_e, zeR_e, zeN_s, zeN_n, Nat.reduceEqDiff, and_self, and_true, true_and, and_false, false_and, ite_true, ite_false, reduceIte, tg_8 hS, hs]
        by_cases hsx : s = x
        · rw [if_pos (by rw [hsx])]
          refine ⟨_, rfl, hs, ?_, ?_, ?_, ?_⟩
          · intro q; omega
          · intro _ q2; omega
          · intro _ _; exact ⟨fun _ => rfl, fun q => absurd ⟨hg, hsx⟩ q, rfl, rfl, rfl⟩
          · intro _ q2; omega
        · rw [if_neg (fun q => hsx ((nI_eq (by omega) (by omega)).mp q))]
          refine ⟨_, rfl, hs, ?_, ?_, ?_, ?_⟩
          · intro q; omega
          · intro _ q2; omega
          · intro _ _; exact ⟨fun q => absurd q.2 hsx, fun _ => h4, rfl, rfl, rfl⟩
          · intro _ q2; omega
    · rw [q] at hle hge hin h4 hT2 ⊢
      rw [if_neg (by decide), s_rn hT2 (by rw [gI_sI]; exact hs) (by rw [gI_sI]; rfl) hle hge hin, zbV_e]
      by_cases hg : g = 0
      · rw [if_pos hg]
        refine ⟨_, rfl, hs, ?_, ?_, ?_, ?_⟩
        · intro q; omega
        · intro _ q2; omega
        · intro _ q2; omega
        · intro _ _; exact ⟨fun q => absurd hg q.1, fun _ => h4, rfl, rfl⟩
      · rw [if_neg hg, q_X10_advance_111]
        simp -implicitDefEqProofs only [tg_sI, ln_sI, tg_sL, ln_sL, tg_sR, ln_sR, tg_sC, ln_sC, ai_sI, ai_sL, gL_sI, gR_sI, gI_sL, gR_sL, gI_sR, gL_sR, gI_sI, gL_sL, gR_sR, zlt_e, zln_e, zli_e, zll_e, zbI_e, zbL_e, zbR_e, zbV_e, zeR_e, zeN_s, zeN_n, Nat.reduceEqDiff, and_self, and_true, true_and, and_false, false_and, ite_true, ite_false, reduceIte, tg_8 hS, hs]
        by_cases hsx : s = x
        · rw [if_pos (by rw [hsx])]
          refine ⟨_, rfl, hs, ?_, ?_, ?_, ?_⟩
          · intro q; omega
          · intro _ q2; omega
          · intro _ q2; omega
          · intro _ _; exact ⟨fun _ => rfl, fun q => absurd ⟨hg, hsx⟩ q, rfl, rfl⟩
        · rw [if_neg (fun q => hsx ((nI_eq (by omega) (by omega)).mp q))]
          refine ⟨_, rfl, hs, ?_, ?_, ?_, ?_⟩
          · intro q; omega
          · intro _ q2; omega
          · intro _ q2; omega
          · intro _ _; exact ⟨fun q => absurd q.2 hsx, fun _ => h4, rfl, rfl⟩
theorem adv_15b {x : Nat} {g : Int32} (hT : TC σ t n) (hx : x ≤ n) (h3 : gI σ 8 3 = nI x) : ∃ σ', zR 2 97 15 [some (.ref 8), some (.int g), some (.int (nI x))] [] σ = some (none, σ') ∧ TD σ' t n (ru t n 5 x) (¬ g = 0 ∧ ru t n 5 x = x) := by
  have hS := hT.1
  have hn := hT.2.1
  have hc := hT.2.2.1
  have htx := hT.2.2.2.1
  have h81 := hT.2.2.2.2.1
  have h := adv_15 hT g (nI x) x hx
  rw [sI_idv h3] at h
  rw [h]
  have hle : ru t n 5 x ≤ n := ru_le hx
  have he := ru_end (t := t) (n := n) (k := 5) x
  by_cases hsn : ru t n 5 x < n
  · rw [if_pos hsn]
    rw [q_X10_advance_51]
    simp -implicitDefEqProofs only [tg_sI, ln_sI, tg_sL, ln_sL, tg_sR, ln_sR, tg_sC, ln_sC, ai_sI, ai_sL, gL_sI, gR_sI, gI_sL, gR_sL, gI_sR, gL_sR, gI_sI, gL_sL, gR_sR, zlt_e, zln_e, zli_e, zll_e, zbI_e, zbL_e, zbR_e, zbV_e, zeR_e, zeN_s, zeN_n, Nat.reduceEqDiff, and_self, and_true, true_and, and_false, false_and, ite_true, ite_false, reduceIte, tg_8 hS, h81]
    rw [if_pos (ai_nI (.inl (tg_7 hS)) (ln_7 hS) (by omega) (by omega)), ixn (by omega), htx, s_kindOf (hc _)]
    simp -implicitDefEqProofs only [tg_sI, ln_sI, tg_sL, ln_sL, tg_sR, ln_sR, tg_sC, ln_sC, ai_sI, ai_sL, gL_sI, gR_sI, gI_sL, gR_sL, gI_sR, gL_sR, gI_sI, gL_sL, gR_sR, zlt_e, zln_e, zli_e, zll_e, zbI_e, zbL_e, zbR_e, zbV_e, zeR_e, zeN_s, zeN_n, Nat.reduceEqDiff, and_self, and_true, true_and, and_false, false_and, ite_true, ite_false, reduceIte, tg_8 hS, h81]
    exact adv_59 (TC_tok (TC_tok (TC_tok (TC_tok hT (by decide)) (by decide)) (by decide)) (by decide)) rfl rfl rfl rfl hsn (fun q => he ⟨hsn, q⟩) hx
  · rw [if_neg hsn, q_X10_advance_47]
    simp -implicitDefEqProofs only [tg_sI, ln_sI, tg_sL, ln_sL, tg_sR, ln_sR, tg_sC, ln_sC, ai_sI, ai_sL, gL_sI, gR_sI, gI_sL, gR_sL, gI_sR, gL_sR, gI_sI, gL_sL, gR_sR, zlt_e, zln_e, zli_e, zll_e, zbI_e, zbL_e, zbR_e, zbV_e, zeR_e, zeN_s, zeN_n, Nat.reduceEqDiff, and_self, and_true, true_and, and_false, false_and, ite_true, ite_false, reduceIte, tg_8 hS]
    refine ⟨_, rfl, rfl, ?_, ?_, ?_, ?_⟩
    · intro _; exact ⟨rfl, rfl⟩
    · intro q; exact absurd q hsn
    · intro q; exact absurd q hsn
    · intro q; exact absurd q hsn
theorem s_adv {x : Nat} (hT : TC σ t n) (hx : x ≤ n) (h3 : gI σ 8 3 = nI x) : ∃ σ', zM 97 [.ref 8] σ = some (none, σ') ∧ TC σ' t n ∧ TD σ' t n (ru t n 5 x) ((gI σ 8 4 = 1 ∨ gI σ 8 4 = 2) ∧ ru t n 5 x = x) := by
  have hS := hT.1
  have key : ∃ σ', zM 97 [.ref 8] σ = some (none, σ') ∧ TD σ' t n (ru t n 5 x) ((gI σ 8 4 = 1 ∨ gI σ 8 4 = 2) ∧ ru t n 5 x = x) := by
    rw [q_X10_advance]
    simp -implicitDefEqProofs only [tg_sI, ln_sI, tg_sL, ln_sL, tg_sR, ln_sR, tg_sC, ln_sC, ai_sI, ai_sL, gL_sI, gR_sI, gI_sL, gR_sL, gI_sR, gL_sR, gI_sI, gL_sL, gR_sR, zlt_e, zln_e, zli_e, zll_e, zbI_e, zbL_e, zbR_e, zbV_e, zeR_e, zeN_s, zeN_n, Nat.reduceEqDiff, and_self, and_true, true_and, and_false, false_and, ite_true, ite_false, reduceIte, tg_8 hS, h3]
    by_cases h1 : gI σ 8 4 = 1
    · rw [if_pos h1]
      have := adv_15b (g := 1) hT hx h3
      simpa only [h1, true_or, true_and, show ¬ ((1 : Int32) = 0) by decide, not_false_eq_true] using this
    · rw [if_neg h1]
      by_cases h2 : gI σ 8 4 = 2
      · rw [if_pos h2]
        have := adv_15b (g := 1) hT hx h3
        simpa only [h2, or_true, true_and, show ¬ ((1 : Int32) = 0) by decide, not_false_eq_true] using this
      · rw [if_neg h2]
        have := adv_15b (g := 0) hT hx h3
        simpa only [h1, h2, or_self, false_and, not_true_eq_false] using this
  obtain ⟨σ', h1, h2⟩ := key
  exact ⟨σ', h1, TC_ke hT (zM_ke h1) (zM_sh rfl hS h1) rfl rfl rfl rfl, h2⟩
end
