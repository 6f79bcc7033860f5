/-! parts of a sum, both at once -/
section
variable {t : Nat → Nat} {n : Nat} {α α' α1 β β' β1 γ : zS} {st st1 : lx} {L W p : List Nat} {c O b f : Nat} {was : Int32} {u1 u2 u3 u4 : Option Value}
theorem ka_fact {s e w : Nat} (h : RS β t n (.inl (s, e))) (hQ : SQ β W O L b) (hs : sm W L) (hw : lw t n (.inl (s, e)) = w) (h1 : ls t n (.inl (s, e)) ≠ 40) (h25 : 25 ≤ w ∧ w ≤ 32) : ∃ β', KA was u2 u3 u4 β = KB was none β' ∧ SV t n β β' (la t n (.inl (s, e))) W O (L ++ [fcW w]) b := by
  have hs1 := hs.1
  obtain ⟨β1, u2', a1, a2, a3⟩ := sy_head (u2 := u2) (u3 := u3) (u4 := u4) h h1 (by omega) (by omega)
  obtain ⟨β2, b1, b2, b3⟩ := (sy_word (u2 := u2') (u3 := u3) (u4 := u4) 0 a2 hw).1 h25
  have v1 : SV t n β β2 (la t n (.inl (s, e))) W O L b := ⟨b2, (a3.trans b3).mono (fun r j _ _ q => .inl q), SQ_rd (SQ_rd hQ (RS_sh h) a3) (RS_sh a2) b3⟩
  obtain ⟨β3, c1, c2⟩ := v_code v1 (by omega) (fcW w) (fcW_lt h25)
  refine ⟨β3, ?_, c2⟩
  unfold KA
  rw [a1, b1, c1]
  simp -implicitDefEqProofs only [tg_sI, ln_sI, tg_sL, ln_sL, tg_sR, ln_sR, tg_sC, ln_sC, ai_sI, ai_sL, gL_sI, gR_sI, gI_sL, gR_sL, gI_sR, gL_sR, gI_sI, gL_sL, gR_sR, zlt_e, zln_e, zli_e, zll_e, zbI_e, zbL_e, zbR_e, zbV_e, zeR_e, zeN_s, zeN_n, Nat.reduceEqDiff, and_self, and_true, true_and, and_false, false_and, ite_true, ite_false, reduceIte]
  exact KC_B (RS_sh c2.1) (live_5 c2.1 rfl)
theorem ka_num {s e : Nat} (h : RS β t n (.inl (s, e))) (hQ : SQ β W O L b) (hs : sm W L) (h1 : ls t n (.inl (s, e)) ≠ 40) (h2 : lw t n (.inl (s, e)) < 25 ∨ 34 < lw t n (.inl (s, e))) : (lL (lU t n 0 9999 (.inl (s, e))) = true → ∃ β', KA was u2 u3 u4 β = KB was none β' ∧ SV t n β β' (lU t n 0 9999 (.inl (s, e))) W O (L ++ [1000 + lUv t n (.inl (s, e))]) b) ∧ (¬ lL (lU t n 0 9999 (.inl (s, e))) = true → ∃ β', KA was u2 u3 u4 β = some (none, β') ∧ SD t n β β' (lU t n 0 9999 (.inl (s, e)))) := by
  have hs1 := hs.1
  obtain ⟨β1, u2', a1, a2, a3⟩ := sy_head (u2 := u2) (u3 := u3) (u4 := u4) h h1 (by omega) (by omega)
  obtain ⟨β2, b1, b2, b3⟩ := (sy_word (u2 := u2') (u3 := u3) (u4 := u4) 0 a2 rfl).2 (by omega)
  obtain ⟨v, β3, c1, c2, c3⟩ := r_number b2 (lo := 0) (hi := 9999) (by decide) (by decide)
  have c1 : zM 200 [.ref 176, .int 0, .int 9999] β2 = some (some (.int v), β3) := c1
  have hS3 := RS_sh c2
  have v1 : SV t n β β2 (.inl (s, e)) W O L b := ⟨b2, (a3.trans b3).mono (fun r j _ _ q => .inl q), SQ_rd (SQ_rd hQ (RS_sh h) a3) (RS_sh a2) b3⟩
  have v2 := SV_rd v1 rfl (by decide +kernel) c1 c2
  constructor
  · intro hl
    obtain ⟨hv, -⟩ := c3 hl
    obtain ⟨β4, d1, d2⟩ := v_code v2 (by omega) (1000 + lUv t n (.inl (s, e))) (by have := (lU_hi hl).2; omega)
    refine ⟨β4, ?_, d2⟩
    unfold KA
    rw [a1, b1, c1]
    simp -implicitDefEqProofs only [tg_sI, ln_sI, tg_sL, ln_sL, tg_sR, ln_sR, tg_sC, ln_sC, ai_sI, ai_sL, gL_sI, gR_sI, gI_sL, gR_sL, gI_sR, gL_sR, gI_sI, gL_sL, gR_sR, zlt_e, zln_e, zli_e, zll_e, zbI_e, zbL_e, zbR_e, zbV_e, zeR_e, zeN_s, zeN_n, Nat.reduceEqDiff, and_self, and_true, true_and, and_false, false_and, ite_true, ite_false, reduceIte, tg_176 hS3, hv]
    rw [show (1000 : Int32) + nI (lUv t n (.inl (s, e))) = nI (1000 + lUv t n (.inl (s, e))) from nI_add 1000 _, d1]
    exact KC_B (RS_sh d2.1) (live_5 d2.1 hl)
  · intro hl
    obtain ⟨β4, d1, d2, d3, d4⟩ := v_codeD c2 (k := (flt L).length) (by have := flt_le L; omega) v2.2.2.2.2.2.1 (1000 + v)
    refine ⟨sI β4 176 69 was, ?_, SD_was ⟨d2, v2.2.1.trans d3, (flt L).length + 1, by have := flt_le L; omega, d4⟩⟩
    unfold KA
    rw [a1, b1, c1]
    simp -implicitDefEqProofs only [tg_sI, ln_sI, tg_sL, ln_sL, tg_sR, ln_sR, tg_sC, ln_sC, ai_sI, ai_sL, gL_sI, gR_sI, gI_sL, gR_sL, gI_sR, gL_sR, gI_sI, gL_sL, gR_sR, zlt_e, zln_e, zli_e, zll_e, zbI_e, zbL_e, zbR_e, zbV_e, zeR_e, zeN_s, zeN_n, Nat.reduceEqDiff, and_self, and_true, true_and, and_false, false_and, ite_true, ite_false, reduceIte, tg_176 hS3, d1]
    exact KC_d (RS_sh d2) (dead_5 d2 hl)
theorem lp_lU {s e lo hi : Nat} (h : lL (lU t n lo hi (.inl (s, e))) = true) : s < lp (lU t n lo hi (.inl (s, e))) := by
  obtain ⟨s', e', hse, hla, hsn⟩ := lU_la h
  cases hse
  rw [hla]
  have hk : kO (t s) ≠ 5 := by
    by_cases q : nuT t n s e = true
    · have := nuT_t q
      omega
    · unfold lU at h
      dsimp only at h
      rw [if_neg q] at h
      cases h
  exact la_pos hsn hk
theorem lU_no {s e : Nat} (h : lN_ t n (.inl (s, e)) = false) (lo hi : Nat) : lU t n lo hi (.inl (s, e)) = .inr (1, s) := by
  have h : nuT t n s e = false := h
  unfold lU
  dsimp only
  rw [if_neg (by rw [h]; decide)]
theorem own_no5 {s e : Nat} (h : lw t n (.inl (s, e)) < 35) : s < n ∧ kO (t s) ≠ 5 := by
  have := owT_lt (t := t) (n := n) (s := s) (e := e) h
  omega
theorem own_not {s e : Nat} (h : lw t n (.inl (s, e)) < 35) : ls t n (.inl (s, e)) = 256 ∧ lN_ t n (.inl (s, e)) = false := by
  have := owT_lt (t := t) (n := n) (s := s) (e := e) h
  refine ⟨sgT_no (by omega), ?_⟩
  show nuT t n s e = false
  unfold nuT
  simp [this.2.1]
theorem num_not {s e : Nat} (h : lN_ t n (.inl (s, e)) = true) : ls t n (.inl (s, e)) = 256 ∧ lw t n (.inl (s, e)) = 35 := by
  have h : nuT t n s e = true := h
  have := nuT_t h
  refine ⟨sgT_no (by omega), ?_⟩
  show owT t n s e = 35
  unfold owT owC
  simp [this.2.1]
theorem sgn_not {s e c : Nat} (hc : c < 256) (h : ls t n (.inl (s, e)) = c) : lN_ t n (.inl (s, e)) = false ∧ lw t n (.inl (s, e)) = 35 := by
  obtain ⟨h1, h2, h3⟩ := ls_of hc h
  refine ⟨?_, ?_⟩
  · show nuT t n s e = false
    unfold nuT
    simp [h2]
  · show owT t n s e = 35
    unfold owT owC
    simp [h2]
/-- from the class's part to its bracket -/
theorem c_toBracket {s e O : Nat} (hO : O ≤ 6) (hC : CS α t n (.inl (s, e))) (hn : lN_ t n (.inl (s, e)) = false) (hw : lw t n (.inl (s, e)) < 25 ∨ 34 < lw t n (.inl (s, e))) : zM 63 [.ref 12, .int (nI O)] α = zbV (zM 64 [.ref 12, .int (nI O), .int 0] α) (fun σ => some (none, σ)) := by
  have hS := CS_sh hC
  have ho := c_own hC
  have hN := c_atNumber hC
  rw [hn] at hN
  have h35 := lw_le (t := t) (n := n) (.inl (s, e))
  generalize lw t n (.inl (s, e)) = w at *
  have hv : ∀ w, w < 36 → (25 ≤ w ∧ w ≤ 34) ∨ (owJ w < 25 ∧ ¬ owJ w = 33 ∧ ¬ owJ w = 34) := by decide +kernel
  obtain ⟨v1, v2, v3⟩ := (hv w (by omega)).resolve_left (by omega)
  rw [q_X6_readPart]
  simp -implicitDefEqProofs only [tg_sI, ln_sI, tg_sL, ln_sL, tg_sR, ln_sR, tg_sC, ln_sC, ai_sI, ai_sL, gL_sI, gR_sI, gI_sL, gR_sL, gI_sR, gL_sR, gI_sI, gL_sL, gR_sR, zlt_e, zln_e, zli_e, zll_e, zbI_e, zbL_e, zbR_e, zbV_e, zeR_e, zeN_s, zeN_n, Nat.reduceEqDiff, and_self, and_true, true_and, and_false, false_and, ite_true, ite_false, reduceIte, tg_12 hS, gR_12_0 hS, rk63 (show O < 2 ^ 31 by omega), rk64 (show O < 2 ^ 31 by omega), rk104, rk102, rk97, rk110, rk53, bif_lt (show 1 < 6 + 10 * (7 - O) by omega), bif_lt (show 2 < 6 + 10 * (7 - O) by omega), bif_lt (show 3 < 6 + 10 * (7 - O) by omega), bif_lt (show 5 + 10 * (7 - O) < 6 + 10 * (7 - O) by omega), tg_8 hS, ho, hN]
  rw [if_pos (show ((if false = true then 1 else 0 : Int32) = 0) by decide), if_pos v1, if_neg v2, if_neg v3]
  simp only [q_X6_readPart_59]
theorem c_brNo {s e O : Nat} (x : Int32) (hO : O ≤ 6) (hC : CS α t n st) (hn : ls t n st ≠ 40) : zM 64 [.ref 12, .int (nI O), .int x] α = zbV (zM 107 [.ref 8, .int 1] α) (fun σ => some (none, σ)) := by
  have hS := CS_sh hC
  have hN : zM 103 [.ref 8, .int 40] α = _ := c_atSign hC (c := 40) (by decide)
  rw [if_neg hn] at hN
  rw [q_X6_readBracket]
  simp -implicitDefEqProofs only [tg_sI, ln_sI, tg_sL, ln_sL, tg_sR, ln_sR, tg_sC, ln_sC, ai_sI, ai_sL, gL_sI, gR_sI, gI_sL, gR_sL, gI_sR, gL_sR, gI_sI, gL_sL, gR_sR, zlt_e, zln_e, zli_e, zll_e, zbI_e, zbL_e, zbR_e, zbV_e, zeR_e, zeN_s, zeN_n, Nat.reduceEqDiff, and_self, and_true, true_and, and_false, false_and, ite_true, ite_false, reduceIte, tg_12 hS, gR_12_0 hS, rk64 (show O < 2 ^ 31 by omega), rk103, rk107, bif_lt (show 1 < 5 + 10 * (7 - O) by omega), bif_lt (show 2 < 5 + 10 * (7 - O) by omega), tg_8 hS, hN]
  try rw [if_pos rfl]
  simp only [q_X6_readBracket_34]
/-- the class's bracket, once it is there and may be opened -/
theorem c_brIn {O : Nat} (x : Int32) (hO : O < 6) (hC : CS α t n st) (hn : ls t n st = 40) (ha : zM 59 [.ref 12, .int (nI O)] α = some (some (.int 1), α1)) (hS1 : Sh α1) : zM 64 [.ref 12, .int (nI O), .int x] α = zbV (zM 61 [.ref 12, .int (nI (O + 1))] α1) (fun σ6 => if x = 0 then (if tg σ6 12 = 7 then zeR none (gR σ6 12 0) (fun q7 => if tg σ6 q7 = 11 then zbV (zM 109 [.ref q7, .int 41] σ6) (fun σ8 => some (none, σ8)) else none) else none) else (if tg σ6 12 = 7 then zeR none (gR σ6 12 0) (fun q9 => if tg σ6 q9 = 11 then zbV (zM 109 [.ref q9, .int 44] σ6) (fun σ10 => if tg σ10 12 = 7 then zbV (zM 61 [.ref 12, .int (nI (O + 1))] σ10) (fun σ1 => if tg σ1 12 = 7 then zeR none (gR σ1 12 0) (fun q2 => if tg σ1 q2 = 11 then zbV (zM 109 [.ref q2, .int 41] σ1) (fun σ3 => some (none, σ3)) else none) else none) else none) else none) else none)) := by
  have hS := CS_sh hC
  have hN : zM 103 [.ref 8, .int 40] α = _ := c_atSign hC (c := 40) (by decide)
  rw [if_pos hn] at hN
  have r5 : 8 + 10 * (7 - (O + 1)) < 5 + 10 * (7 - O) := by omega
  rw [q_X6_readBracket]
  simp -implicitDefEqProofs only [tg_sI, ln_sI, tg_sL, ln_sL, tg_sR, ln_sR, tg_sC, ln_sC, ai_sI, ai_sL, gL_sI, gR_sI, gI_sL, gR_sL, gI_sR, gL_sR, gI_sI, gL_sL, gR_sR, zlt_e, zln_e, zli_e, zll_e, zbI_e, zbL_e, zbR_e, zbV_e, zeR_e, zeN_s, zeN_n, Nat.reduceEqDiff, and_self, and_true, true_and, and_false, false_and, ite_true, ite_false, reduceIte, tg_12 hS, gR_12_0 hS, rk64 (show O < 2 ^ 31 by omega), rk103, rk107, rk59, rk109, nI_1, rk61 (show O + 1 < 2 ^ 31 by omega), bif_lt (show 1 < 5 + 10 * (7 - O) by omega), bif_lt (show 2 < 5 + 10 * (7 - O) by omega), bif_lt (show 3 < 5 + 10 * (7 - O) by omega), bif_lt r5, tg_8 hS, hN]
  rw [if_neg (by decide), ha]
  simp -implicitDefEqProofs only [tg_sI, ln_sI, tg_sL, ln_sL, tg_sR, ln_sR, tg_sC, ln_sC, ai_sI, ai_sL, gL_sI, gR_sI, gI_sL, gR_sL, gI_sR, gL_sR, gI_sI, gL_sL, gR_sR, zlt_e, zln_e, zli_e, zll_e, zbI_e, zbL_e, zbR_e, zbV_e, zeR_e, zeN_s, zeN_n, Nat.reduceEqDiff, and_self, and_true, true_and, and_false, false_and, ite_true, ite_false, reduceIte, tg_12 hS1, q_X6_readBracket_34, q_X6_readBracket_25, nI_1, rk61 (show O + 1 < 2 ^ 31 by omega), rk109, bif_lt (show 3 < 5 + 10 * (7 - O) by omega), bif_lt r5]
  rw [if_neg (by decide)]
theorem c_brFull {O : Nat} (x : Int32) (hO : O = 6) (hC : CS α t n st) (hn : ls t n st = 40) (ha : zM 59 [.ref 12, .int (nI O)] α = some (some (.int 0), α1)) : zM 64 [.ref 12, .int (nI O), .int x] α = some (none, α1) := by
  have hS := CS_sh hC
  have hN : zM 103 [.ref 8, .int 40] α = _ := c_atSign hC (c := 40) (by decide)
  rw [if_pos hn] at hN
  rw [q_X6_readBracket]
  simp -implicitDefEqProofs only [tg_sI, ln_sI, tg_sL, ln_sL, tg_sR, ln_sR, tg_sC, ln_sC, ai_sI, ai_sL, gL_sI, gR_sI, gI_sL, gR_sL, gI_sR, gL_sR, gI_sI, gL_sL, gR_sR, zlt_e, zln_e, zli_e, zll_e, zbI_e, zbL_e, zbR_e, zbV_e, zeR_e, zeN_s, zeN_n, Nat.reduceEqDiff, and_self, and_true, true_and, and_false, false_and, ite_true, ite_false, reduceIte, tg_12 hS, gR_12_0 hS, rk64 (show O < 2 ^ 31 by omega), rk103, rk107, rk59, rk109, bif_lt (show 1 < 5 + 10 * (7 - O) by omega), bif_lt (show 2 < 5 + 10 * (7 - O) by omega), bif_lt (show 3 < 5 + 10 * (7 - O) by omega), tg_8 hS, hN]
  rw [if_neg (by decide), ha]
  simp -implicitDefEqProofs only [tg_sI, ln_sI, tg_sL, ln_sL, tg_sR, ln_sR, tg_sC, ln_sC, ai_sI, ai_sL, gL_sI, gR_sI, gI_sL, gR_sL, gI_sR, gL_sR, gI_sI, gL_sL, gR_sR, zlt_e, zln_e, zli_e, zll_e, zbI_e, zbL_e, zbR_e, zbV_e, zeR_e, zeN_s, zeN_n, Nat.reduceEqDiff, and_self, and_true, true_and, and_false, false_and, ite_true, ite_false, reduceIte, q_X6_readBracket_34]
  try rw [if_pos rfl]
theorem sm_of {s : Nat} (h : L.length + W.length + 6 ≤ s) (hs : s ≤ n) (hn : n ≤ 1600) (hW : ∀ i, W.getD i 0 < 1000) : sm W L := ⟨by omega, hW⟩
theorem gD_app {x : Nat} (hW : ∀ i, W.getD i 0 < 1000) (hx : x < 1000) : ∀ i, (W ++ [x]).getD i 0 < 1000 := by
  intro i
  rcases Nat.lt_trichotomy i W.length with q | q | q
  · rw [getD_app _ _ _ q]; exact hW i
  · rw [q, getD_end]; exact hx
  · rw [List.getD_eq_getElem?_getD, List.getElem?_eq_none (by simp; omega)]
    simp
theorem gD_rev (hW : ∀ i, W.getD i 0 < 1000) : ∀ (p : List Nat), (∀ x, x ∈ p → 1 ≤ x ∧ x ≤ 4) → ∀ i, (W ++ p.reverse).getD i 0 < 1000 := by
  intro p
  induction p with
  | nil => intro _ i; rw [List.reverse_nil, List.append_nil]; exact hW i
  | cons x q ih =>
    intro hp i
    rw [rev_c]
    have := hp x (by simp)
    exact gD_app (ih (fun y hy => hp y (by simp [hy]))) (by omega) i
end
