/-! the reference's reading of a text: words, signs, numbers, names -/
section
variable {t : Nat → Nat} {n : Nat} {σ : zS} {st : lx}
theorem RS_d {f p : Nat} (h : RS σ t n (.inr (f, p))) : ¬ gI σ 176 5 = 0 := by
  have h5 : gI σ 176 5 = nI f := h.2.2.1
  have ho := h.2.1
  rw [h5]
  exact nI_ne0 ho.1 (by have := ho.2.1; omega)
theorem r_fail (h : RS σ t n st) {f p : Nat} (hf : 0 < f) (hf6 : f < 6) (hp : p < 2000) : ∃ σ', zM 191 [.ref 176, .int (nI f), .int (nI p)] σ = some (none, σ') ∧ RS σ' t n (lf st f p) := by
  have hS := h.1.1
  rw [q_X12_fail]
  simp -implicitDefEqProofs only [tg_sI, ln_sI, tg_sL, ln_sL, tg_sR, ln_sR, tg_sC, ln_sC, ai_sI, ai_sL, gL_sI, gR_sI, gI_sL, gR_sL, gI_sR, gL_sR, gI_sI, gL_sL, gR_sR, zlt_e, zln_e, zli_e, zll_e, zbI_e, zbL_e, zbR_e, zbV_e, zeR_e, zeN_s, zeN_n, Nat.reduceEqDiff, and_self, and_true, true_and, and_false, false_and, ite_true, ite_false, reduceIte, tg_176 hS]
  match st, h with
  | .inl (s, e), h =>
    rw [h.2.2.2.2.1, if_pos rfl]
    exact ⟨_, rfl, RC_at (RC_at h.1 (by decide)) (by decide), ⟨hf, hf6, hp⟩, rfl, rfl⟩
  | .inr (f', p'), h =>
    rw [if_neg (RS_d h)]
    exact ⟨_, rfl, h⟩
/-- an own word at s, taken: at and ended move -/
theorem r_takes {w : Nat} (hw : w < 35) (h : RS σ t n st) : ∃ σ', zM 196 [.ref 176, .ref (178 + w)] σ = some (some (.int (if lw t n st = w then 1 else 0)), σ') ∧ RS σ' t n (if lw t n st = w then la t n st else st) ∧ (lw t n st ≠ w → ∀ s e, st = .inl (s, e) → gI σ' 176 2 = nI s) := by
  have hS := h.1.1
  rw [q_X12_takes]
  simp -implicitDefEqProofs only [tg_sI, ln_sI, tg_sL, ln_sL, tg_sR, ln_sR, tg_sC, ln_sC, ai_sI, ai_sL, gL_sI, gR_sI, gI_sL, gR_sL, gI_sR, gL_sR, gI_sI, gL_sL, gR_sR, zlt_e, zln_e, zli_e, zll_e, zbI_e, zbL_e, zbR_e, zbV_e, zeR_e, zeN_s, zeN_n, Nat.reduceEqDiff, and_self, and_true, true_and, and_false, false_and, ite_true, ite_false, reduceIte, tg_176 hS]
  match st, h with
  | .inl (s, e), h =>
    have hh := h
    obtain ⟨hR, ho, ⟨a, ha, hsa, h2⟩, h4, h5, h6⟩ := h
    rw [r_isHere hw hh, show lw t n (.inl (s, e)) = owT t n s e from rfl]
    simp -implicitDefEqProofs only [tg_sI, ln_sI, tg_sL, ln_sL, tg_sR, ln_sR, tg_sC, ln_sC, ai_sI, ai_sL, gL_sI, gR_sI, gI_sL, gR_sL, gI_sR, gL_sR, gI_sI, gL_sL, gR_sR, zlt_e, zln_e, zli_e, zll_e, zbI_e, zbL_e, zbR_e, zbV_e, zeR_e, zeN_s, zeN_n, Nat.reduceEqDiff, and_self, and_true, true_and, and_false, false_and, ite_true, ite_false, reduceIte, tg_176 hS, tg_word hS hw, ln_word hS hw, ofN]
    by_cases q : owT t n s e = w
    · rw [if_pos q, if_neg (by decide), if_pos (by decide), if_pos q]
      obtain ⟨hs, hk, he, h6'⟩ := owT_lt (t := t) (n := n) (s := s) (e := e) (by rw [q]; exact hw)
      have hi := ((ow_iff hw hs hk he).mp q).1
      have e1 : tkE t n s = s + (wL w).length := by unfold tkE; rw [if_neg (by omega), hk]; exact hi
      have e2 : nI s + nI (wL w).length = nI (tkE t n s) := by rw [e1]; exact nI_add s _
      rw [e2]
      refine ⟨_, rfl, ⟨RC_at (RC_at (RC_at hR (by decide)) (by decide)) (by decide), lO_la hs ho, ⟨tkE t n s, tkE_le hs, rfl, rfl⟩, ?_, h5, h6⟩, fun z => absurd q z⟩
      show nI (tkE t n s) = nI (tkG t n s e) - 1
      unfold tkG
      rw [if_neg (by omega), nI_pred]
    · rw [if_neg q, if_pos rfl, if_neg q]
      refine ⟨_, rfl, RS_look hh, fun _ s' e' z => ?_⟩
      cases z
      rfl
  | .inr (f, p), h =>
    have e0 : lw t n (.inr (f, p)) = 35 := rfl
    rw [r_isHereD h, e0, if_neg (by omega), if_neg (by omega)]
    simp -implicitDefEqProofs only [tg_sI, ln_sI, tg_sL, ln_sL, tg_sR, ln_sR, tg_sC, ln_sC, ai_sI, ai_sL, gL_sI, gR_sI, gI_sL, gR_sL, gI_sR, gL_sR, gI_sI, gL_sL, gR_sR, zlt_e, zln_e, zli_e, zll_e, zbI_e, zbL_e, zbR_e, zbV_e, zeR_e, zeN_s, zeN_n, Nat.reduceEqDiff, and_self, and_true, true_and, and_false, false_and, ite_true, ite_false, reduceIte]
    exact ⟨_, rfl, h, fun _ s' e' z => by cases z⟩
theorem r_asks {w : Nat} (hw : w < 35) (h : RS σ t n st) : ∃ σ', zM 197 [.ref 176, .ref (178 + w)] σ = some (none, σ') ∧ RS σ' t n (lW t n w st) := by
  have hS := h.1.1
  rw [q_X12_asks]
  simp -implicitDefEqProofs only [tg_sI, ln_sI, tg_sL, ln_sL, tg_sR, ln_sR, tg_sC, ln_sC, ai_sI, ai_sL, gL_sI, gR_sI, gI_sL, gR_sL, gI_sR, gL_sR, gI_sI, gL_sL, gR_sR, zlt_e, zln_e, zli_e, zll_e, zbI_e, zbL_e, zbR_e, zbV_e, zeR_e, zeN_s, zeN_n, Nat.reduceEqDiff, and_self, and_true, true_and, and_false, false_and, ite_true, ite_false, reduceIte, tg_176 hS]
  unfold lW
  match st, h with
  | .inl (s, e), h =>
    have h5 : gI σ 176 5 = 0 := h.2.2.2.2.1
    obtain ⟨σ1, h1, h2, h3⟩ := r_takes hw h
    rw [h5, if_pos rfl, h1]
    simp -implicitDefEqProofs only [tg_sI, ln_sI, tg_sL, ln_sL, tg_sR, ln_sR, tg_sC, ln_sC, ai_sI, ai_sL, gL_sI, gR_sI, gI_sL, gR_sL, gI_sR, gL_sR, gI_sI, gL_sL, gR_sR, zlt_e, zln_e, zli_e, zll_e, zbI_e, zbL_e, zbR_e, zbV_e, zeR_e, zeN_s, zeN_n, Nat.reduceEqDiff, and_self, and_true, true_and, and_false, false_and, ite_true, ite_false, reduceIte]
    by_cases q : lw t n (.inl (s, e)) = w
    · rw [if_pos q] at h2 ⊢
      rw [if_neg (by decide), if_pos q]
      exact ⟨_, rfl, h2⟩
    · rw [if_neg q] at h2
      have h3 := h3 q s e rfl
      have := h.2.1.1
      have := h.1.2.1
      obtain ⟨σ2, g1, g2⟩ := r_fail h2 (f := 1) (p := s) (by decide) (by decide) (by omega)
      have g1 : zM 191 [.ref 176, .int 1, .int (nI s)] σ1 = some (none, σ2) := g1
      rw [if_neg q, if_neg q, if_pos rfl, tg_176 h2.1.1, if_pos rfl, h3, g1]
      exact ⟨_, rfl, g2⟩
  | .inr (f, p), h =>
    have e0 : lw t n (.inr (f, p)) = 35 := rfl
    rw [if_neg (RS_d h), e0, if_neg (by omega)]
    exact ⟨_, rfl, h⟩
/-- a sign -/
theorem r_takesSign {c : Nat} (hc : c < 256) (hc3 : kO c = 3) (h : RS σ t n st) : ∃ σ', zM 198 [.ref 176, .int (nI c)] σ = some (some (.int (if ls t n st = c then 1 else 0)), σ') ∧ RS σ' t n (if ls t n st = c then la t n st else st) ∧ (∀ s e, st = .inl (s, e) → gI σ' 176 2 = nI (if ls t n st = c then s + 1 else s)) := by
  have hS := h.1.1
  rw [q_X12_takesSign]
  simp -implicitDefEqProofs only [tg_sI, ln_sI, tg_sL, ln_sL, tg_sR, ln_sR, tg_sC, ln_sC, ai_sI, ai_sL, gL_sI, gR_sI, gI_sL, gR_sL, gI_sR, gL_sR, gI_sI, gL_sL, gR_sR, zlt_e, zln_e, zli_e, zll_e, zbI_e, zbL_e, zbR_e, zbV_e, zeR_e, zeN_s, zeN_n, Nat.reduceEqDiff, and_self, and_true, true_and, and_false, false_and, ite_true, ite_false, reduceIte, tg_176 hS]
  match st, h with
  | .inl (s, e), h =>
    have hh := h
    have h256 := h.1.2.2.1 s
    obtain ⟨hR, ho, ⟨a, ha, hsa, h2⟩, h4, h5, h6⟩ := h
    rw [h5, if_pos rfl, r_look hh, show ls t n (.inl (s, e)) = sgT t n s from rfl]
    simp -implicitDefEqProofs only [tg_sI, ln_sI, tg_sL, ln_sL, tg_sR, ln_sR, tg_sC, ln_sC, ai_sI, ai_sL, gL_sI, gR_sI, gI_sL, gR_sL, gI_sR, gL_sR, gI_sI, gL_sL, gR_sR, zlt_e, zln_e, zli_e, zll_e, zbI_e, zbL_e, zbR_e, zbV_e, zeR_e, zeN_s, zeN_n, Nat.reduceEqDiff, and_self, and_true, true_and, and_false, false_and, ite_true, ite_false, reduceIte, tg_176 hS]
    by_cases hs : s < n
    · rw [if_pos hs]
      by_cases q : t s = c
      · have q2 : sgT t n s = c := by rw [sgT_yes hs (by rw [q]; exact hc3)]; exact q
        rw [if_pos (by rw [q]), if_pos q2, if_pos q2, nI_1]
        have e1 : tkE t n s = s + 1 := by unfold tkE; rw [if_pos (by rw [q]; exact hc3)]
        refine ⟨_, rfl, ⟨RC_at (RC_at hR (by decide)) (by decide), lO_la hs ho, ⟨tkE t n s, tkE_le hs, rfl, ?_⟩, ?_, h5, h6⟩, fun s' e' z => ?_⟩
        · rw [e1]; rfl
        · show gI σ 176 4 = nI (tkG t n s e) - 1
          unfold tkG
          rw [if_pos (by rw [q]; exact hc3)]
          exact h4
        · cases z
          rw [if_pos q2]
          rfl
      · have q2 : ¬ sgT t n s = c := by
          unfold sgT
          split
          · exact q
          · omega
        rw [if_neg (fun z => q ((nI_eq (by omega) (by omega)).mp z)), if_neg q2, if_neg q2]
        refine ⟨_, rfl, RS_look hh, fun s' e' z => ?_⟩
        cases z
        rw [if_neg q2]
        rfl
    · have q2 : ¬ sgT t n s = c := by rw [sgT_no (by omega)]; omega
      have hm : ∀ c, c < 256 → ¬ (-1 : Int32) = nI c := by decide +kernel
      rw [if_neg hs, if_neg (hm c hc), if_neg q2, if_neg q2]
      refine ⟨_, rfl, RS_look hh, fun s' e' z => ?_⟩
      cases z
      rw [if_neg q2]
      rfl
  | .inr (f, p), h =>
    rw [if_neg (RS_d h), show ls t n (.inr (f, p)) = 256 from rfl, if_neg (by omega), if_neg (by omega)]
    exact ⟨_, rfl, h, fun _ _ z => by cases z⟩
theorem r_asksSign {c : Nat} (hc : c < 256) (hc3 : kO c = 3) (h : RS σ t n st) : ∃ σ', zM 199 [.ref 176, .int (nI c)] σ = some (none, σ') ∧ RS σ' t n (lG t n c st) := by
  have hS := h.1.1
  rw [q_X12_asksSign]
  simp -implicitDefEqProofs only [tg_sI, ln_sI, tg_sL, ln_sL, tg_sR, ln_sR, tg_sC, ln_sC, ai_sI, ai_sL, gL_sI, gR_sI, gI_sL, gR_sL, gI_sR, gL_sR, gI_sI, gL_sL, gR_sR, zlt_e, zln_e, zli_e, zll_e, zbI_e, zbL_e, zbR_e, zbV_e, zeR_e, zeN_s, zeN_n, Nat.reduceEqDiff, and_self, and_true, true_and, and_false, false_and, ite_true, ite_false, reduceIte, tg_176 hS]
  unfold lG
  match st, h with
  | .inl (s, e), h =>
    have h5 : gI σ 176 5 = 0 := h.2.2.2.2.1
    obtain ⟨σ1, h1, h2, h3⟩ := r_takesSign hc hc3 h
    rw [h5, if_pos rfl, h1]
    simp -implicitDefEqProofs only [tg_sI, ln_sI, tg_sL, ln_sL, tg_sR, ln_sR, tg_sC, ln_sC, ai_sI, ai_sL, gL_sI, gR_sI, gI_sL, gR_sL, gI_sR, gL_sR, gI_sI, gL_sL, gR_sR, zlt_e, zln_e, zli_e, zll_e, zbI_e, zbL_e, zbR_e, zbV_e, zeR_e, zeN_s, zeN_n, Nat.reduceEqDiff, and_self, and_true, true_and, and_false, false_and, ite_true, ite_false, reduceIte]
    by_cases q : ls t n (.inl (s, e)) = c
    · rw [if_pos q] at h2 ⊢
      rw [if_neg (by decide), if_pos q]
      exact ⟨_, rfl, h2⟩
    · rw [if_neg q] at h2
      have h3 := h3 s e rfl
      rw [if_neg q] at h3
      have := h.2.1.1
      have := h.1.2.1
      obtain ⟨σ2, g1, g2⟩ := r_fail h2 (f := 1) (p := s) (by decide) (by decide) (by omega)
      have g1 : zM 191 [.ref 176, .int 1, .int (nI s)] σ1 = some (none, σ2) := g1
      rw [if_neg q, if_neg q, if_pos rfl, tg_176 h2.1.1, if_pos rfl, h3, g1]
      exact ⟨_, rfl, g2⟩
  | .inr (f, p), h =>
    rw [if_neg (RS_d h), show ls t n (.inr (f, p)) = 256 from rfl, if_neg (by omega)]
    exact ⟨_, rfl, h⟩
theorem ite10 {p : Prop} {hp : Decidable p} : ((@ite Int32 p hp 1 0) = 0) = ¬ p := by
  by_cases h : p
  · simp [h]
  · simp [h]
theorem own_chain (hS : Sh σ) {o : Nat} (ho : o ≤ 35) (hh : ∀ w, w < 35 → zM 195 [.ref 176, .ref (178 + w)] σ = some (some (.int (if o = w then 1 else 0)), σ)) : zM 201 [.ref 176] σ = some (some (.int (if o < 35 then 1 else 0)), σ) := by
  obtain ⟨r, hr, hr1, hr0⟩ : ∃ r : Int32, r = (if o < 35 then 1 else 0) ∧ (o < 35 → r = 1) ∧ (o = 35 → r = 0) := ⟨_, rfl, fun h => by rw [if_pos h], fun h => by rw [if_neg (by omega)]⟩
  rw [← hr]
  clear hr
  have w0 : zM 195 [.ref 176, .ref 178] σ = some (some (.int (if o = 0 then 1 else 0)), σ) := hh 0 (by decide)
  have w1 : zM 195 [.ref 176, .ref 179] σ = some (some (.int (if o = 1 then 1 else 0)), σ) := hh 1 (by decide)
  have w2 : zM 195 [.ref 176, .ref 180] σ = some (some (.int (if o = 2 then 1 else 0)), σ) := hh 2 (by decide)
  have w3 : zM 195 [.ref 176, .ref 181] σ = some (some (.int (if o = 3 then 1 else 0)), σ) := hh 3 (by decide)
  have w4 : zM 195 [.ref 176, .ref 182] σ = some (some (.int (if o = 4 then 1 else 0)), σ) := hh 4 (by decide)
  have w5 : zM 195 [.ref 176, .ref 183] σ = some (some (.int (if o = 5 then 1 else 0)), σ) := hh 5 (by decide)
  have w6 : zM 195 [.ref 176, .ref 184] σ = some (some (.int (if o = 6 then 1 else 0)), σ) := hh 6 (by decide)
  have w7 : zM 195 [.ref 176, .ref 185] σ = some (some (.int (if o = 7 then 1 else 0)), σ) := hh 7 (by decide)
  have w8 : zM 195 [.ref 176, .ref 186] σ = some (some (.int (if o = 8 then 1 else 0)), σ) := hh 8 (by decide)
  have w9 : zM 195 [.ref 176, .ref 187] σ = some (some (.int (if o = 9 then 1 else 0)), σ) := hh 9 (by decide)
  have w10 : zM 195 [.ref 176, .ref 188] σ = some (some (.int (if o = 10 then 1 else 0)), σ) := hh 10 (by decide)
  have w11 : zM 195 [.ref 176, .ref 189] σ = some (some (.int (if o = 11 then 1 else 0)), σ) := hh 11 (by decide)
  have w12 : zM 195 [.ref 176, .ref 190] σ = some (some (.int (if o = 12 then 1 else 0)), σ) := hh 12 (by decide)
  have w13 : zM 195 [.ref 176, .ref 191] σ = some (some (.int (if o = 13 then 1 else 0)), σ) := hh 13 (by decide)
  have w14 : zM 195 [.ref 176, .ref 192] σ = some (some (.int (if o = 14 then 1 else 0)), σ) := hh 14 (by decide)
  have w15 : zM 195 [.ref 176, .ref 193] σ = some (some (.int (if o = 15 then 1 else 0)), σ) := hh 15 (by decide)
  have w16 : zM 195 [.ref 176, .ref 194] σ = some (some (.int (if o = 16 then 1 else 0)), σ) := hh 16 (by decide)
  have w17 : zM 195 [.ref 176, .ref 195] σ = some (some (.int (if o = 17 then 1 else 0)), σ) := hh 17 (by decide)
  have w18 : zM 195 [.ref 176, .ref 196] σ = some (some (.int (if o = 18 then 1 else 0)), σ) := hh 18 (by decide)
  have w19 : zM 195 [.ref 176, .ref 197] σ = some (some (.int (if o = 19 then 1 else 0)), σ) := hh 19 (by decide)
  have w20 : zM 195 [.ref 176, .ref 198] σ = some (some (.int (if o = 20 then 1 else 0)), σ) := hh 20 (by decide)
  have w21 : zM 195 [.ref 176, .ref 199] σ = some (some (.int (if o = 21 then 1 else 0)), σ) := hh 21 (by decide)
  have w22 : zM 195 [.ref 176, .ref 200] σ = some (some (.int (if o = 22 then 1 else 0)), σ) := hh 22 (by decide)
  have w23 : zM 195 [.ref 176, .ref 201] σ = some (some (.int (if o = 23 then 1 else 0)), σ) := hh 23 (by decide)
  have w24 : zM 195 [.ref 176, .ref 202] σ = some (some (.int (if o = 24 then 1 else 0)), σ) := hh 24 (by decide)
  have w25 : zM 195 [.ref 176, .ref 203] σ = some (some (.int (if o = 25 then 1 else 0)), σ) := hh 25 (by decide)
  have w26 : zM 195 [.ref 176, .ref 204] σ = some (some (.int (if o = 26 then 1 else 0)), σ) := hh 26 (by decide)
  have w27 : zM 195 [.ref 176, .ref 205] σ = some (some (.int (if o = 27 then 1 else 0)), σ) := hh 27 (by decide)
  have w28 : zM 195 [.ref 176, .ref 206] σ = some (some (.int (if o = 28 then 1 else 0)), σ) := hh 28 (by decide)
  have w29 : zM 195 [.ref 176, .ref 207] σ = some (some (.int (if o = 29 then 1 else 0)), σ) := hh 29 (by decide)
  have w30 : zM 195 [.ref 176, .ref 208] σ = some (some (.int (if o = 30 then 1 else 0)), σ) := hh 30 (by decide)
  have w31 : zM 195 [.ref 176, .ref 209] σ = some (some (.int (if o = 31 then 1 else 0)), σ) := hh 31 (by decide)
  have w32 : zM 195 [.ref 176, .ref 210] σ = some (some (.int (if o = 32 then 1 else 0)), σ) := hh 32 (by decide)
  have w33 : zM 195 [.ref 176, .ref 211] σ = some (some (.int (if o = 33 then 1 else 0)), σ) := hh 33 (by decide)
  have w34 : zM 195 [.ref 176, .ref 212] σ = some (some (.int (if o = 34 then 1 else 0)), σ) := hh 34 (by decide)
  have n1 : ¬ (1 : Int32) = 0 := by decide
  have T205 : ∀ l1 : Int32, zR 3 201 205 [some (.ref 176), some (.int l1)] [] σ = some (some (.int 1), σ) := fun l1 => by rw [q_X12_isOwnHere_205]
  have T177 : ∀ l1 : Int32, zR 3 201 177 [some (.ref 176), some (.int l1)] [.int 1] σ = some (some (.int 1), σ) := fun l1 => by rw [q_X12_isOwnHere_177, if_neg n1, T205]
  have T174 : ∀ l1 : Int32, zR 3 201 174 [some (.ref 176), some (.int l1)] [] σ = some (some (.int 1), σ) := fun l1 => by rw [q_X12_isOwnHere_174, T177]
  have T141 : ∀ l1 : Int32, zR 3 201 141 [some (.ref 176), some (.int l1)] [.int 1] σ = some (some (.int 1), σ) := fun l1 => by rw [q_X12_isOwnHere_141, if_neg n1, T174]
  have T138 : ∀ l1 : Int32, zR 3 201 138 [some (.ref 176), some (.int l1)] [] σ = some (some (.int 1), σ) := fun l1 => by rw [q_X12_isOwnHere_138, T141]
  have T105 : ∀ l1 : Int32, zR 3 201 105 [some (.ref 176), some (.int l1)] [.int 1] σ = some (some (.int 1), σ) := fun l1 => by rw [q_X12_isOwnHere_105, if_neg n1, T138]
  have T102 : ∀ l1 : Int32, zR 3 201 102 [some (.ref 176), some (.int l1)] [] σ = some (some (.int 1), σ) := fun l1 => by rw [q_X12_isOwnHere_102, T105]
  have T69 : ∀ l1 : Int32, zR 3 201 69 [some (.ref 176), some (.int l1)] [.int 1] σ = some (some (.int 1), σ) := fun l1 => by rw [q_X12_isOwnHere_69, if_neg n1, T102]
  have T66 : ∀ l1 : Int32, zR 3 201 66 [some (.ref 176), some (.int l1)] [] σ = some (some (.int 1), σ) := fun l1 => by rw [q_X12_isOwnHere_66, T69]
  have T33 : ∀ u1 : Option Value, zR 3 201 33 [some (.ref 176), u1] [.int 1] σ = some (some (.int 1), σ) := fun u1 => by rw [q_X12_isOwnHere_33, if_neg n1, T66]
  have N195 : 33 ≤ o → ∀ l1 : Int32, zR 3 201 195 [some (.ref 176), some (.int l1)] [] σ = some (some (.int r), σ) := by
    intro ha l1
    rw [q_X12_isOwnHere_195]
    simp -implicitDefEqProofs only [tg_sI, ln_sI, tg_sL, ln_sL, tg_sR, ln_sR, tg_sC, ln_sC, ai_sI, ai_sL, gL_sI, gR_sI, gI_sL, gR_sL, gI_sR, gL_sR, gI_sI, gL_sL, gR_sR, zlt_e, zln_e, zli_e, zll_e, zbI_e, zbL_e, zbR_e, zbV_e, zeR_e, zeN_s, zeN_n, Nat.reduceEqDiff, and_self, and_true, true_and, and_false, false_and, ite_true, ite_false, reduceIte, tg_176 hS, gR_176_43 hS, gR_176_44 hS, w33, w34, ite10, T205]
    by_cases h33 : o = 33
    · rw [if_neg (show ¬ ¬ o = 33 from fun z => z h33), hr1 (by omega)]
    · rw [if_pos h33]
      by_cases h34 : o = 34
      · rw [if_neg (show ¬ ¬ o = 34 from fun z => z h34), hr1 (by omega)]
      · rw [if_pos h34]
        rw [hr0 (by omega)]
  have N177 : 30 ≤ o → ∀ l1 : Int32, zR 3 201 177 [some (.ref 176), some (.int l1)] [.int 0] σ = some (some (.int r), σ) := by
    intro ha l1
    rw [q_X12_isOwnHere_177]
    simp -implicitDefEqProofs only [tg_sI, ln_sI, tg_sL, ln_sL, tg_sR, ln_sR, tg_sC, ln_sC, ai_sI, ai_sL, gL_sI, gR_sI, gI_sL, gR_sL, gI_sR, gL_sR, gI_sI, gL_sL, gR_sR, zlt_e, zln_e, zli_e, zll_e, zbI_e, zbL_e, zbR_e, zbV_e, zeR_e, zeN_s, zeN_n, Nat.reduceEqDiff, and_self, and_true, true_and, and_false, false_and, ite_true, ite_false, reduceIte, tg_176 hS, gR_176_40 hS, gR_176_41 hS, gR_176_42 hS, w30, w31, w32, ite10, T205]
    by_cases h30 : o = 30
    · rw [if_neg (show ¬ ¬ o = 30 from fun z => z h30), hr1 (by omega)]
    · rw [if_pos h30]
      by_cases h31 : o = 31
      · rw [if_neg (show ¬ ¬ o = 31 from fun z => z h31), hr1 (by omega)]
      · rw [if_pos h31]
        by_cases h32 : o = 32
        · rw [if_neg (show ¬ ¬ o = 32 from fun z => z h32), hr1 (by omega)]
        · rw [if_pos h32]
          exact N195 (by omega) _
  have N159 : 27 ≤ o → ∀ l1 : Int32, zR 3 201 159 [some (.ref 176), some (.int l1)] [] σ = some (some (.int r), σ) := by
    intro ha l1
    rw [q_X12_isOwnHere_159]
    simp -implicitDefEqProofs only [tg_sI, ln_sI, tg_sL, ln_sL, tg_sR, ln_sR, tg_sC, ln_sC, ai_sI, ai_sL, gL_sI, gR_sI, gI_sL, gR_sL, gI_sR, gL_sR, gI_sI, gL_sL, gR_sR, zlt_e, zln_e, zli_e, zll_e, zbI_e, zbL_e, zbR_e, zbV_e, zeR_e, zeN_s, zeN_n, Nat.reduceEqDiff, and_self, and_true, true_and, and_false, false_and, ite_true, ite_false, reduceIte, tg_176 hS, gR_176_37 hS, gR_176_38 hS, gR_176_39 hS, w27, w28, w29, ite10, T174]
    by_cases h27 : o = 27
    · rw [if_neg (show ¬ ¬ o = 27 from fun z => z h27), hr1 (by omega)]
    · rw [if_pos h27]
      by_cases h28 : o = 28
      · rw [if_neg (show ¬ ¬ o = 28 from fun z => z h28), hr1 (by omega)]
      · rw [if_pos h28]
        by_cases h29 : o = 29
        · rw [if_neg (show ¬ ¬ o = 29 from fun z => z h29), hr1 (by omega)]
        · rw [if_pos h29]
          exact N177 (by omega) _
  have N141 : 24 ≤ o → ∀ l1 : Int32, zR 3 201 141 [some (.ref 176), some (.int l1)] [.int 0] σ = some (some (.int r), σ) := by
    intro ha l1
    rw [q_X12_isOwnHere_141]
    simp -implicitDefEqProofs only [tg_sI, ln_sI, tg_sL, ln_sL, tg_sR, ln_sR, tg_sC, ln_sC, ai_sI, ai_sL, gL_sI, gR_sI, gI_sL, gR_sL, gI_sR, gL_sR, gI_sI, gL_sL, gR_sR, zlt_e, zln_e, zli_e, zll_e, zbI_e, zbL_e, zbR_e, zbV_e, zeR_e, zeN_s, zeN_n, Nat.reduceEqDiff, and_self, and_true, true_and, and_false, false_and, ite_true, ite_false, reduceIte, tg_176 hS, gR_176_34 hS, gR_176_35 hS, gR_176_36 hS, w24, w25, w26, ite10, T174]
    by_cases h24 : o = 24
    · rw [if_neg (show ¬ ¬ o = 24 from fun z => z h24), hr1 (by omega)]
    · rw [if_pos h24]
      by_cases h25 : o = 25
      · rw [if_neg (show ¬ ¬ o = 25 from fun z => z h25), hr1 (by omega)]
      · rw [if_pos h25]
        by_cases h26 : o = 26
        · rw [if_neg (show ¬ ¬ o = 26 from fun z => z h26), hr1 (by omega)]
        · rw [if_pos h26]
          exact N159 (by omega) _
  have N123 : 21 ≤ o → ∀ l1 : Int32, zR 3 201 123 [some (.ref 176), some (.int l1)] [] σ = some (some (.int r), σ) := by
    intro ha l1
    rw [q_X12_isOwnHere_123]
    simp -implicitDefEqProofs only [tg_sI, ln_sI, tg_sL, ln_sL, tg_sR, ln_sR, tg_sC, ln_sC, ai_sI, ai_sL, gL_sI, gR_sI, gI_sL, gR_sL, gI_sR, gL_sR, gI_sI, gL_sL, gR_sR, zlt_e, zln_e, zli_e, zll_e, zbI_e, zbL_e, zbR_e, zbV_e, zeR_e, zeN_s, zeN_n, Nat.reduceEqDiff, and_self, and_true, true_and, and_false, false_and, ite_true, ite_false, reduceIte, tg_176 hS, gR_176_31 hS, gR_176_32 hS, gR_176_33 hS, w21, w22, w23, ite10, T138]
    by_cases h21 : o = 21
    · rw [if_neg (show ¬ ¬ o = 21 from fun z => z h21), hr1 (by omega)]
    · rw [if_pos h21]
      by_cases h22 : o = 22
      · rw [if_neg (show ¬ ¬ o = 22 from fun z => z h22), hr1 (by omega)]
      · rw [if_pos h22]
        by_cases h23 : o = 23
        · rw [if_neg (show ¬ ¬ o = 23 from fun z => z h23), hr1 (by omega)]
        · rw [if_pos h23]
          exact N141 (by omega) _
  have N105 : 18 ≤ o → ∀ l1 : Int32, zR 3 201 105 [some (.ref 176), some (.int l1)] [.int 0] σ = some (some (.int r), σ) := by
    intro ha l1
    rw [q_X12_isOwnHere_105]
    simp -implicitDefEqProofs only [tg_sI, ln_sI, tg_sL, ln_sL, tg_sR, ln_sR, tg_sC, ln_sC, ai_sI, ai_sL, gL_sI, gR_sI, gI_sL, gR_sL, gI_sR, gL_sR, gI_sI, gL_sL, gR_sR, zlt_e, zln_e, zli_e, zll_e, zbI_e, zbL_e, zbR_e, zbV_e, zeR_e, zeN_s, zeN_n, Nat.reduceEqDiff, and_self, and_true, true_and, and_false, false_and, ite_true, ite_false, reduceIte, tg_176 hS, gR_176_28 hS, gR_176_29 hS, gR_176_30 hS, w18, w19, w20, ite10, T138]
    by_cases h18 : o = 18
    · rw [if_neg (show ¬ ¬ o = 18 from fun z => z h18), hr1 (by omega)]
    · rw [if_pos h18]
      by_cases h19 : o = 19
      · rw [if_neg (show ¬ ¬ o = 19 from fun z => z h19), hr1 (by omega)]
      · rw [if_pos h19]
        by_cases h20 : o = 20
        · rw [if_neg (show ¬ ¬ o = 20 from fun z => z h20), hr1 (by omega)]
        · rw [if_pos h20]
          exact N123 (by omega) _
  have N87 : 15 ≤ o → ∀ l1 : Int32, zR 3 201 87 [some (.ref 176), some (.int l1)] [] σ = some (some (.int r), σ) := by
    intro ha l1
    rw [q_X12_isOwnHere_87]
    simp -implicitDefEqProofs only [tg_sI, ln_sI, tg_sL, ln_sL, tg_sR, ln_sR, tg_sC, ln_sC, ai_sI, ai_sL, gL_sI, gR_sI, gI_sL, gR_sL, gI_sR, gL_sR, gI_sI, gL_sL, gR_sR, zlt_e, zln_e, zli_e, zll_e, zbI_e, zbL_e, zbR_e, zbV_e, zeR_e, zeN_s, zeN_n, Nat.reduceEqDiff, and_self, and_true, true_and, and_false, false_and, ite_true, ite_false, reduceIte, tg_176 hS, gR_176_25 hS, gR_176_26 hS, gR_176_27 hS, w15, w16, w17, ite10, T102]
    by_cases h15 : o = 15
    · rw [if_neg (show ¬ ¬ o = 15 from fun z => z h15), hr1 (by omega)]
    · rw [if_pos h15]
      by_cases h16 : o = 16
      · rw [if_neg (show ¬ ¬ o = 16 from fun z => z h16), hr1 (by omega)]
      · rw [if_pos h16]
        by_cases h17 : o = 17
        · rw [if_neg (show ¬ ¬ o = 17 from fun z => z h17), hr1 (by omega)]
        · rw [if_pos h17]
          exact N105 (by omega) _
  have N69 : 12 ≤ o → ∀ l1 : Int32, zR 3 201 69 [some (.ref 176), some (.int l1)] [.int 0] σ = some (some (.int r), σ) := by
    intro ha l1
    rw [q_X12_isOwnHere_69]
    simp -implicitDefEqProofs only [tg_sI, ln_sI, tg_sL, ln_sL, tg_sR, ln_sR, tg_sC, ln_sC, ai_sI, ai_sL, gL_sI, gR_sI, gI_sL, gR_sL, gI_sR, gL_sR, gI_sI, gL_sL, gR_sR, zlt_e, zln_e, zli_e, zll_e, zbI_e, zbL_e, zbR_e, zbV_e, zeR_e, zeN_s, zeN_n, Nat.reduceEqDiff, and_self, and_true, true_and, and_false, false_and, ite_true, ite_false, reduceIte, tg_176 hS, gR_176_22 hS, gR_176_23 hS, gR_176_24 hS, w12, w13, w14, ite10, T102]
    by_cases h12 : o = 12
    · rw [if_neg (show ¬ ¬ o = 12 from fun z => z h12), hr1 (by omega)]
    · rw [if_pos h12]
      by_cases h13 : o = 13
      · rw [if_neg (show ¬ ¬ o = 13 from fun z => z h13), hr1 (by omega)]
      · rw [if_pos h13]
        by_cases h14 : o = 14
        · rw [if_neg (show ¬ ¬ o = 14 from fun z => z h14), hr1 (by omega)]
        · rw [if_pos h14]
          exact N87 (by omega) _
  have N51 : 9 ≤ o → ∀ l1 : Int32, zR 3 201 51 [some (.ref 176), some (.int l1)] [] σ = some (some (.int r), σ) := by
    intro ha l1
    rw [q_X12_isOwnHere_51]
    simp -implicitDefEqProofs only [tg_sI, ln_sI, tg_sL, ln_sL, tg_sR, ln_sR, tg_sC, ln_sC, ai_sI, ai_sL, gL_sI, gR_sI, gI_sL, gR_sL, gI_sR, gL_sR, gI_sI, gL_sL, gR_sR, zlt_e, zln_e, zli_e, zll_e, zbI_e, zbL_e, zbR_e, zbV_e, zeR_e, zeN_s, zeN_n, Nat.reduceEqDiff, and_self, and_true, true_and, and_false, false_and, ite_true, ite_false, reduceIte, tg_176 hS, gR_176_19 hS, gR_176_20 hS, gR_176_21 hS, w9, w10, w11, ite10, T66]
    by_cases h9 : o = 9
    · rw [if_neg (show ¬ ¬ o = 9 from fun z => z h9), hr1 (by omega)]
    · rw [if_pos h9]
      by_cases h10 : o = 10
      · rw [if_neg (show ¬ ¬ o = 10 from fun z => z h10), hr1 (by omega)]
      · rw [if_pos h10]
        by_cases h11 : o = 11
        · rw [if_neg (show ¬ ¬ o = 11 from fun z => z h11), hr1 (by omega)]
        · rw [if_pos h11]
          exact N69 (by omega) _
  have N33 : 6 ≤ o → ∀ u1 : Option Value, zR 3 201 33 [some (.ref 176), u1] [.int 0] σ = some (some (.int r), σ) := by
    intro ha u1
    rw [q_X12_isOwnHere_33]
    simp -implicitDefEqProofs only [tg_sI, ln_sI, tg_sL, ln_sL, tg_sR, ln_sR, tg_sC, ln_sC, ai_sI, ai_sL, gL_sI, gR_sI, gI_sL, gR_sL, gI_sR, gL_sR, gI_sI, gL_sL, gR_sR, zlt_e, zln_e, zli_e, zll_e, zbI_e, zbL_e, zbR_e, zbV_e, zeR_e, zeN_s, zeN_n, Nat.reduceEqDiff, and_self, and_true, true_and, and_false, false_and, ite_true, ite_false, reduceIte, tg_176 hS, gR_176_16 hS, gR_176_17 hS, gR_176_18 hS, w6, w7, w8, ite10, T66]
    by_cases h6 : o = 6
    · rw [if_neg (show ¬ ¬ o = 6 from fun z => z h6), hr1 (by omega)]
    · rw [if_pos h6]
      by_cases h7 : o = 7
      · rw [if_neg (show ¬ ¬ o = 7 from fun z => z h7), hr1 (by omega)]
      · rw [if_pos h7]
        by_cases h8 : o = 8
        · rw [if_neg (show ¬ ¬ o = 8 from fun z => z h8), hr1 (by omega)]
        · rw [if_pos h8]
          exact N51 (by omega) _
  have N15 : 3 ≤ o → ∀ u1 : Option Value, zR 3 201 15 [some (.ref 176), u1] [] σ = some (some (.int r), σ) := by
    intro ha u1
    rw [q_X12_isOwnHere_15]
    simp -implicitDefEqProofs only [tg_sI, ln_sI, tg_sL, ln_sL, tg_sR, ln_sR, tg_sC, ln_sC, ai_sI, ai_sL, gL_sI, gR_sI, gI_sL, gR_sL, gI_sR, gL_sR, gI_sI, gL_sL, gR_sR, zlt_e, zln_e, zli_e, zll_e, zbI_e, zbL_e, zbR_e, zbV_e, zeR_e, zeN_s, zeN_n, Nat.reduceEqDiff, and_self, and_true, true_and, and_false, false_and, ite_true, ite_false, reduceIte, tg_176 hS, gR_176_13 hS, gR_176_14 hS, gR_176_15 hS, w3, w4, w5, ite10, T33]
    by_cases h3 : o = 3
    · rw [if_neg (show ¬ ¬ o = 3 from fun z => z h3), hr1 (by omega)]
    · rw [if_pos h3]
      by_cases h4 : o = 4
      · rw [if_neg (show ¬ ¬ o = 4 from fun z => z h4), hr1 (by omega)]
      · rw [if_pos h4]
        by_cases h5 : o = 5
        · rw [if_neg (show ¬ ¬ o = 5 from fun z => z h5), hr1 (by omega)]
        · rw [if_pos h5]
          exact N33 (by omega) _
  rw [q_X12_isOwnHere]
  simp -implicitDefEqProofs only [tg_sI, ln_sI, tg_sL, ln_sL, tg_sR, ln_sR, tg_sC, ln_sC, ai_sI, ai_sL, gL_sI, gR_sI, gI_sL, gR_sL, gI_sR, gL_sR, gI_sI, gL_sL, gR_sR, zlt_e, zln_e, zli_e, zll_e, zbI_e, zbL_e, zbR_e, zbV_e, zeR_e, zeN_s, zeN_n, Nat.reduceEqDiff, and_self, and_true, true_and, and_false, false_and, ite_true, ite_false, reduceIte, tg_176 hS, gR_176_10 hS, gR_176_11 hS, gR_176_12 hS, w0, w1, w2, ite10, T33]
  by_cases h0 : o = 0
  · rw [if_neg (show ¬ ¬ o = 0 from fun z => z h0), hr1 (by omega)]
  · rw [if_pos h0]
    by_cases h1 : o = 1
    · rw [if_neg (show ¬ ¬ o = 1 from fun z => z h1), hr1 (by omega)]
    · rw [if_pos h1]
      by_cases h2 : o = 2
      · rw [if_neg (show ¬ ¬ o = 2 from fun z => z h2), hr1 (by omega)]
      · rw [if_pos h2]
        exact N15 (by omega) _
theorem r_own {s e : Nat} (h : RS σ t n (.inl (s, e))) (h2 : gI σ 176 2 = nI s) : zM 201 [.ref 176] σ = some (some (.int (if owT t n s e < 35 then 1 else 0)), σ) := by
  refine own_chain h.1.1 owT_le (fun w hw => ?_)
  have := r_isHere hw h
  rw [sI_idv h2] at this
  exact this
end
