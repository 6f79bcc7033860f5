/-! the reference's rules: what waits, what is coded -/
def XU (r j : Nat) : Prop := XL r j ∨ (r = 176 ∧ (j = 60 ∨ j = 62 ∨ j = 63 ∨ j = 69)) ∨ (r = 225 ∧ 4800 ≤ j) ∨ r = 226
/-- the reference's codes out of the class's: all but the ends of statements -/
def flt (L : List Nat) : List Nat := L.filter (fun c => decide (c < 20000))
theorem flt_app {L : List Nat} {c : Nat} (h : c < 20000) : flt (L ++ [c]) = flt L ++ [c] := by
  unfold flt
  rw [List.filter_append]
  simp [h]
theorem flt_le (L : List Nat) : (flt L).length ≤ L.length := List.length_filter_le _ _
/-- what waits (the last on top), how many are open, what is coded, the base -/
def SQ (β : zS) (W : List Nat) (O : Nat) (L : List Nat) (b : Nat) : Prop := gI β 176 62 = nI W.length ∧ (∀ i, i < W.length → gI β 226 i = nI (W.getD i 0)) ∧ gI β 176 63 = nI O ∧ gI β 176 60 = nI (flt L).length ∧ (∀ i, i < (flt L).length → gI β 225 (4800 + i) = nI ((flt L).getD i 0)) ∧ gI β 176 69 = nI b
/-- small enough for the reference's rows -/
def sm (W L : List Nat) : Prop := L.length + W.length + 6 ≤ 1600 ∧ ∀ i, W.getD i 0 < 1000
def SV (t : Nat → Nat) (n : Nat) (β β' : zS) (st' : lx) (W : List Nat) (O : Nat) (L : List Nat) (b : Nat) : Prop := RS β' t n st' ∧ Un XU β β' ∧ SQ β' W O L b
def SD (t : Nat → Nat) (n : Nat) (β β' : zS) (st' : lx) : Prop := RS β' t n st' ∧ Un XU β β' ∧ ∃ k, k ≤ 1595 ∧ gI β' 176 60 = nI k
def isM (c : Nat) : Prop := 20 ≤ c ∧ c ≤ 24
section
variable {t : Nat → Nat} {n : Nat} {β β' β1 γ : zS} {st st1 : lx} {L W p : List Nat} {c O b : Nat}
theorem SQ_un (h : SQ β W O L b) (hS : Sh β) {X : Nat → Nat → Prop} (u : Un X β β') (hX : ∀ j, j = 60 ∨ j = 62 ∨ j = 63 ∨ j = 69 → ¬ X 176 j) (hX2 : ∀ j, 4800 ≤ j → ¬ X 225 j) (hX3 : ∀ j, ¬ X 226 j) : SQ β' W O L b := by
  obtain ⟨h1, h2, h3, h4, h5, h6⟩ := h
  refine ⟨?_, fun i hi => ?_, ?_, ?_, fun i hi => ?_, ?_⟩
  · rw [u.i (by omega) (by omega) (by omega) (hX _ (by omega))]; exact h1
  · rw [u.iA (by omega) (by omega) (by rw [tg_226 hS]; omega) (hX3 _)]; exact h2 i hi
  · rw [u.i (by omega) (by omega) (by omega) (hX _ (by omega))]; exact h3
  · rw [u.i (by omega) (by omega) (by omega) (hX _ (by omega))]; exact h4
  · rw [u.iA (by omega) (by omega) (by rw [tg_225 hS]; omega) (hX2 _ (by omega))]; exact h5 i hi
  · rw [u.i (by omega) (by omega) (by omega) (hX _ (by omega))]; exact h6
theorem SQ_rd (h : SQ β W O L b) (hS : Sh β) (u : Un XL β β') : SQ β' W O L b := SQ_un h hS u (fun j _ q => by unfold XL at q; omega) (fun j _ q => by unfold XL at q; omega) (fun j q => by unfold XL at q; omega)
/-- a step of the reference's reading behind a step -/
theorem SV_rd {m : Nat} {args : List Value} {v : Option Value} (h : SV t n β β1 st W O L b) (hq : zq m = true) (hE : (eff m).all (fun q => [1302, 1304, 1305, 1306, 1309, 1345].elem q) = true) (hm : zM m args β1 = some (v, β')) (hR : RS β' t n st1) (hA : al m = false := by decide) : SV t n β β' st1 W O L b := by
  have u := Un_ref (RS_sh h.1) hm hq hE hA
  exact ⟨hR, h.2.1.trans (u.mono (fun r j _ _ q => .inl q)), SQ_rd h.2.2 (RS_sh h.1) u⟩
theorem SV_at {v : Int32} (h : SV t n β β1 st W O L b) (hR : RS (sI β1 176 2 v) t n st1) : SV t n β (sI β1 176 2 v) st1 W O L b := by
  have u : Un XL β1 (sI β1 176 2 v) := Un_sI ⟨rfl, .inl rfl⟩
  exact ⟨hR, h.2.1.trans (u.mono (fun r j _ _ q => .inl q)), SQ_rd h.2.2 (RS_sh h.1) u⟩
theorem SV_0 (hR : RS β t n st) (h : SQ β W O L b) : SV t n β β st W O L b := ⟨hR, Un.refl _ _, h⟩
theorem SV_t (h : SV t n β β1 st W O L b) {W1 L1 : List Nat} {O1 b1 : Nat} (h2 : SV t n β1 β' st1 W1 O1 L1 b1) : SV t n β β' st1 W1 O1 L1 b1 := ⟨h2.1, h.2.1.trans h2.2.1, h2.2.2⟩
theorem SD_t (h : SV t n β β1 st W O L b) (h2 : SD t n β1 β' st1) : SD t n β β' st1 := ⟨h2.1, h.2.1.trans h2.2.1, h2.2.2⟩
theorem SD_of (h : SV t n β β1 st W O L b) (hs : sm W L) : SD t n β β1 st := ⟨h.1, h.2.1, (flt L).length, by have := hs.1; have := flt_le L; omega, h.2.2.2.2.2.1⟩
theorem RS_XU (h : RS β t n st) (hS : Sh β') (u : Un (fun r j => (r = 176 ∧ (j = 60 ∨ j = 62 ∨ j = 63 ∨ j = 69)) ∨ (r = 225 ∧ 4800 ≤ j) ∨ r = 226) β β') : RS β' t n st := RS_un h hS u (fun r j a b => by omega)
/-- code -/
theorem r_codeN {k : Nat} (hS : Sh β) (h : gI β 176 60 = nI k) (hk : k < 1600) (v : Int32) : zM 216 [.ref 176, .int v] β = some (none, sI (sI β 225 (4800 + k) v) 176 60 (nI (k + 1))) := by
  rw [q_X12_code]
  simp -implicitDefEqProofs only [tg_sI, ln_sI, tg_sL, ln_sL, tg_sR, ln_sR, tg_sC, ln_sC, ai_sI, ai_sL, gL_sI, gR_sI, gI_sL, gR_sL, gI_sR, gL_sR, gI_sI, gL_sL, gR_sR, zlt_e, zln_e, zli_e, zll_e, zbI_e, zbL_e, zbR_e, zbV_e, zeR_e, zeN_s, zeN_n, Nat.reduceEqDiff, and_self, and_true, true_and, and_false, false_and, ite_true, ite_false, reduceIte, tg_176 hS, gR_176_59 hS, h]
  rw [show (4800 : Int32) + nI k = nI (4800 + k) from nI_add 4800 k, if_pos (ai_nI (.inl (tg_225 hS)) (ln_225 hS) (show 4800 + k < 6400 by omega) (by omega)), ixn (by omega), nI_1]
theorem v_codeD (h : RS β t n st) {k : Nat} (hk : k < 1600) (hc : gI β 176 60 = nI k) (v : Int32) : ∃ β', zM 216 [.ref 176, .int v] β = some (none, β') ∧ RS β' t n st ∧ Un XU β β' ∧ gI β' 176 60 = nI (k + 1) := by
  refine ⟨_, r_codeN (RS_sh h) hc hk v, RS_f (RS_sI h (by omega)) (by omega), ?_, ?_⟩
  · exact (Un_sI (.inr (.inr (.inl ⟨rfl, by omega⟩)))).trans (Un_sI (.inr (.inl ⟨rfl, .inl rfl⟩)))
  · rw [gI_sI, if_pos ⟨rfl, rfl⟩]
theorem v_code (h : SV t n β β1 st W O L b) (hl : L.length < 1600) (c : Nat) (hc : c < 20000) : ∃ β', zM 216 [.ref 176, .int (nI c)] β1 = some (none, β') ∧ SV t n β β' st W O (L ++ [c]) b := by
  obtain ⟨h1, h2, h3, h4, h5, h6, h7, h8⟩ := h
  have hle := flt_le L
  refine ⟨_, r_codeN (RS_sh h1) h6 (by omega) (nI c), RS_f (RS_sI h1 (by omega)) (by omega), ?_, ?_, fun i hi => ?_, ?_, ?_, fun i hi => ?_, ?_⟩
  · exact h2.trans ((Un_sI (.inr (.inr (.inl ⟨rfl, by omega⟩)))).trans (Un_sI (.inr (.inl ⟨rfl, .inl rfl⟩))))
  · rw [gI_sI, if_neg (by omega), gI_sI, if_neg (by omega)]; exact h3
  · rw [gI_sI, if_neg (by omega), gI_sI, if_neg (by omega)]; exact h4 i hi
  · rw [gI_sI, if_neg (by omega), gI_sI, if_neg (by omega)]; exact h5
  · rw [gI_sI, if_pos ⟨rfl, rfl⟩, flt_app hc, List.length_append]
    rfl
  · rw [flt_app hc, List.length_append] at hi
    have hi : i < (flt L).length + 1 := hi
    rw [gI_sI, if_neg (by omega), gI_sI, flt_app hc]
    by_cases q : i = (flt L).length
    · rw [if_pos ⟨rfl, by omega⟩, q, getD_end]
    · rw [if_neg (by omega), getD_app _ _ _ (by omega)]
      exact h7 i (by omega)
  · rw [gI_sI, if_neg (by omega), gI_sI, if_neg (by omega)]; exact h8
/-- one more that waits -/
theorem v_push (h : SV t n β β1 st W O L b) (hl : W.length < 1700) (c : Nat) : SV t n β (sI (sI β1 226 W.length (nI c)) 176 62 (nI (W.length + 1))) st (W ++ [c]) O L b := by
  obtain ⟨h1, h2, h3, h4, h5, h6, h7, h8⟩ := h
  refine ⟨RS_f (RS_sI h1 (by omega)) (by omega), h2.trans ((Un_sI (.inr (.inr (.inr rfl)))).trans (Un_sI (.inr (.inl ⟨rfl, .inr (.inl rfl)⟩)))), ?_, fun i hi => ?_, ?_, ?_, fun i hi => ?_, ?_⟩
  · rw [gI_sI, if_pos ⟨rfl, rfl⟩, List.length_append]
    rfl
  · rw [List.length_append] at hi
    have hi : i < W.length + 1 := hi
    rw [gI_sI, if_neg (by omega), gI_sI]
    by_cases q : i = W.length
    · rw [if_pos ⟨rfl, q⟩, q, getD_end]
    · rw [if_neg (by omega), getD_app _ _ _ (by omega)]
      exact h4 i (by omega)
  · rw [gI_sI, if_neg (by omega), gI_sI, if_neg (by omega)]; exact h5
  · rw [gI_sI, if_neg (by omega), gI_sI, if_neg (by omega)]; exact h6
  · rw [gI_sI, if_neg (by omega), gI_sI, if_neg (by omega)]; exact h7 i hi
  · rw [gI_sI, if_neg (by omega), gI_sI, if_neg (by omega)]; exact h8
theorem v_open (h : SV t n β β1 st W O L b) (O1 : Nat) : SV t n β (sI β1 176 63 (nI O1)) st W O1 L b := by
  obtain ⟨h1, h2, h3, h4, h5, h6, h7, h8⟩ := h
  refine ⟨RS_f h1 (by omega), h2.trans (Un_sI (.inr (.inl ⟨rfl, .inr (.inr (.inl rfl))⟩))), ?_, fun i hi => ?_, ?_, ?_, fun i hi => ?_, ?_⟩
  · rw [gI_sI, if_neg (by omega)]; exact h3
  · rw [gI_sI, if_neg (by omega)]; exact h4 i hi
  · rw [gI_sI, if_pos ⟨rfl, rfl⟩]
  · rw [gI_sI, if_neg (by omega)]; exact h6
  · rw [gI_sI, if_neg (by omega)]; exact h7 i hi
  · rw [gI_sI, if_neg (by omega)]; exact h8
theorem v_base (h : SV t n β β1 st W O L b) (b1 : Nat) : SV t n β (sI β1 176 69 (nI b1)) st W O L b1 := by
  obtain ⟨h1, h2, h3, h4, h5, h6, h7, h8⟩ := h
  refine ⟨RS_f h1 (by omega), h2.trans (Un_sI (.inr (.inl ⟨rfl, .inr (.inr (.inr rfl))⟩))), ?_, fun i hi => ?_, ?_, ?_, fun i hi => ?_, ?_⟩
  · rw [gI_sI, if_neg (by omega)]; exact h3
  · rw [gI_sI, if_neg (by omega)]; exact h4 i hi
  · rw [gI_sI, if_neg (by omega)]; exact h5
  · rw [gI_sI, if_neg (by omega)]; exact h6
  · rw [gI_sI, if_neg (by omega)]; exact h7 i hi
  · rw [gI_sI, if_pos ⟨rfl, rfl⟩]
/-- one less that waits -/
theorem v_pop (h : SV t n β β1 st (W ++ [c]) O L b) : SV t n β (sI β1 176 62 (nI W.length)) st W O L b ∧ gI (sI β1 176 62 (nI W.length)) 226 W.length = nI c := by
  obtain ⟨h1, h2, h3, h4, h5, h6, h7, h8⟩ := h
  have hlen : (W ++ [c]).length = W.length + 1 := by rw [List.length_append]; rfl
  refine ⟨⟨RS_f h1 (by omega), h2.trans (Un_sI (.inr (.inl ⟨rfl, .inr (.inl rfl)⟩))), ?_, fun i hi => ?_, ?_, ?_, fun i hi => ?_, ?_⟩, ?_⟩
  · rw [gI_sI, if_pos ⟨rfl, rfl⟩]
  · rw [gI_sI, if_neg (by omega), h4 i (by omega), getD_app _ _ _ hi]
  · rw [gI_sI, if_neg (by omega)]; exact h5
  · rw [gI_sI, if_neg (by omega)]; exact h6
  · rw [gI_sI, if_neg (by omega)]; exact h7 i hi
  · rw [gI_sI, if_neg (by omega)]; exact h8
  · rw [gI_sI, if_neg (by omega), h4 _ (by omega), getD_end]
theorem pop_n (W : List Nat) (c : Nat) : nI (W ++ [c]).length - 1 = nI W.length := by
  rw [List.length_append]
  exact nI_pred _
theorem v_drops (h : SV t n β β1 st (W ++ [c]) O L b) (hs : sm (W ++ [c]) L) : ∃ β', zM 219 [.ref 176] β1 = some (none, β') ∧ SV t n β β' st W O (L ++ [c]) b := by
  have hS := RS_sh h.1
  have hW : W.length + 1 + L.length + 6 ≤ 1600 := by have := hs.1; rw [List.length_append] at this; simp at this; omega
  obtain ⟨p1, p2⟩ := v_pop h
  have hc : c < 1000 := by have := hs.2 W.length; rw [getD_end] at this; exact this
  obtain ⟨β', c1, c2⟩ := v_code p1 (by omega) c (by omega)
  refine ⟨β', ?_, c2⟩
  rw [q_X12_drops]
  simp -implicitDefEqProofs only [tg_sI, ln_sI, tg_sL, ln_sL, tg_sR, ln_sR, tg_sC, ln_sC, ai_sI, ai_sL, gL_sI, gR_sI, gI_sL, gR_sL, gI_sR, gL_sR, gI_sI, gL_sL, gR_sR, zlt_e, zln_e, zli_e, zll_e, zbI_e, zbL_e, zbR_e, zbV_e, zeR_e, zeN_s, zeN_n, Nat.reduceEqDiff, and_self, and_true, true_and, and_false, false_and, ite_true, ite_false, reduceIte, tg_176 hS, h.2.2.1, pop_n, gR_176_61 hS]
  have p2 : gI (sI β1 176 62 (nI W.length)) 226 W.length = nI c := p2
  rw [gI_sI, if_neg (by omega)] at p2
  rw [if_pos (show ai β1 32 48 226 (nI W.length) = true from ai_nI (.inl (tg_226 hS)) (ln_226 hS) (by omega) (by omega)), ixn (by omega), p2, c1]
  rfl
theorem v_isOn (h : SV t n β β1 st W O L b) (hs : sm W L) {d : Nat} (hd : d < 1000) : zM 218 [.ref 176, .int (nI d)] β1 = some (some (.int (bI (decide (W.getLast? = some d)))), β1) := by
  have hS := RS_sh h.1
  rw [q_X12_isOn]
  simp -implicitDefEqProofs only [tg_sI, ln_sI, tg_sL, ln_sL, tg_sR, ln_sR, tg_sC, ln_sC, ai_sI, ai_sL, gL_sI, gR_sI, gI_sL, gR_sL, gI_sR, gL_sR, gI_sI, gL_sL, gR_sR, zlt_e, zln_e, zli_e, zll_e, zbI_e, zbL_e, zbR_e, zbV_e, zeR_e, zeN_s, zeN_n, Nat.reduceEqDiff, and_self, and_true, true_and, and_false, false_and, ite_true, ite_false, reduceIte, tg_176 hS, h.2.2.1, gR_176_61 hS]
  rcases List.eq_nil_or_concat W with q | ⟨W', x, q⟩
  · subst q
    rw [if_pos (show nI ([] : List Nat).length ≤ 0 by decide)]
    rfl
  · subst q
    rw [List.concat_eq_append] at *
    have hlen : (W' ++ [x]).length = W'.length + 1 := by rw [List.length_append]; rfl
    have hsm := hs.1
    have hx : x < 1000 := by have := hs.2 W'.length; rw [getD_end] at this; exact this
    have e := h.2.2.2.1 W'.length (by omega)
    rw [getD_end] at e
    rw [if_neg (show ¬ nI (W' ++ [x]).length ≤ 0 from nI_nle (by omega) (by omega)), pop_n, if_pos (ai_nI (.inl (tg_226 hS)) (ln_226 hS) (by omega) (by omega)), ixn (by omega), e]
    by_cases q : x = d
    · rw [if_pos (by rw [q])]
      simp [q, bI]
    · rw [if_neg (fun z => q ((nI_eq (by omega) (by omega)).mp z))]
      simp [q, bI]
theorem r_isMark {x : Nat} (hx : x < 1000) (σ : zS) : zM 220 [.ref 176, .int (nI x)] σ = some (some (.int (if 20 ≤ x ∧ x ≤ 24 then 1 else 0)), σ) := by
  rw [q_X12_isMark]
  have h1 : nI x < 20 ↔ x < 20 := nI_ltI (b := 20) (by omega) (by omega)
  have h2 : 24 < nI x ↔ 24 < x := nI_ltI (a := 24) (by omega) (by omega)
  simp only [h1, h2]
  repeat' split
  all_goals first | rfl | omega
/-- the mark that is on top above the base, behind p that has none -/
theorem mark_in {W0 : List Nat} (hS : Sh β) {m : Nat} (hm : isM m) (h6 : gI β 176 69 = nI b) (hb : b ≤ W0.length) : ∀ (q : List Nat) (W : List Nat), W = W0 ++ [m] ++ q.reverse → W.length < 1700 → (∀ i, i < W.length → gI β 226 i = nI (W.getD i 0)) → (∀ x, x ∈ q → x < 20) → zR 2 221 5 [some (.ref 176), some (.int (nI W.length - 1))] [] β = some (some (.int (nI m)), β) := by
  intro q
  induction q with
  | nil =>
    intro W e hl hW hq
    rw [List.reverse_nil, List.append_nil] at e
    subst e
    have hlen : (W0 ++ [m]).length = W0.length + 1 := by rw [List.length_append]; rfl
    have e := hW W0.length (by omega)
    rw [getD_end] at e
    have h1 : ¬ nI W0.length < nI b := nI_nlt hb (by omega)
    rw [pop_n, q_X12_mark_5]
    simp -implicitDefEqProofs only [tg_sI, ln_sI, tg_sL, ln_sL, tg_sR, ln_sR, tg_sC, ln_sC, ai_sI, ai_sL, gL_sI, gR_sI, gI_sL, gR_sL, gI_sR, gL_sR, gI_sI, gL_sL, gR_sR, zlt_e, zln_e, zli_e, zll_e, zbI_e, zbL_e, zbR_e, zbV_e, zeR_e, zeN_s, zeN_n, Nat.reduceEqDiff, and_self, and_true, true_and, and_false, false_and, ite_true, ite_false, reduceIte, tg_176 hS, h6, gR_176_61 hS]
    rw [if_neg h1, if_pos (ai_nI (.inl (tg_226 hS)) (ln_226 hS) (by omega) (by omega)), ixn (by omega), e, r_isMark (by unfold isM at hm; omega), if_pos (show 20 ≤ m ∧ m ≤ 24 from hm)]
    simp -implicitDefEqProofs only [tg_sI, ln_sI, tg_sL, ln_sL, tg_sR, ln_sR, tg_sC, ln_sC, ai_sI, ai_sL, gL_sI, gR_sI, gI_sL, gR_sL, gI_sR, gL_sR, gI_sI, gL_sL, gR_sR, zlt_e, zln_e, zli_e, zll_e, zbI_e, zbL_e, zbR_e, zbV_e, zeR_e, zeN_s, zeN_n, Nat.reduceEqDiff, and_self, and_true, true_and, and_false, false_and, ite_true, ite_false, reduceIte]
    rw [if_neg (by decide)]
    simp -implicitDefEqProofs only [tg_sI, ln_sI, tg_sL, ln_sL, tg_sR, ln_sR, tg_sC, ln_sC, ai_sI, ai_sL, gL_sI, gR_sI, gI_sL, gR_sL, gI_sR, gL_sR, gI_sI, gL_sL, gR_sR, zlt_e, zln_e, zli_e, zll_e, zbI_e, zbL_e, zbR_e, zbV_e, zeR_e, zeN_s, zeN_n, Nat.reduceEqDiff, and_self, and_true, true_and, and_false, false_and, ite_true, ite_false, reduceIte, tg_176 hS, h6, gR_176_61 hS]
    rw [if_neg h1, if_pos (ai_nI (.inl (tg_226 hS)) (ln_226 hS) (by omega) (by omega)), e]
  | cons x q ih =>
    intro W e hl hW hq
    rw [List.reverse_cons, ← List.append_assoc] at e
    subst e
    have hlen : (W0 ++ [m] ++ q.reverse ++ [x]).length = (W0 ++ [m] ++ q.reverse).length + 1 := by rw [List.length_append]; rfl
    have hlen2 : (W0 ++ [m] ++ q.reverse).length ≥ W0.length + 1 := by simp
    have e := hW (W0 ++ [m] ++ q.reverse).length (by omega)
    rw [getD_end] at e
    have hx : x < 20 := hq x (by simp)
    rw [pop_n, q_X12_mark_5]
    simp -implicitDefEqProofs only [tg_sI, ln_sI, tg_sL, ln_sL, tg_sR, ln_sR, tg_sC, ln_sC, ai_sI, ai_sL, gL_sI, gR_sI, gI_sL, gR_sL, gI_sR, gL_sR, gI_sI, gL_sL, gR_sR, zlt_e, zln_e, zli_e, zll_e, zbI_e, zbL_e, zbR_e, zbV_e, zeR_e, zeN_s, zeN_n, Nat.reduceEqDiff, and_self, and_true, true_and, and_false, false_and, ite_true, ite_false, reduceIte, tg_176 hS, h6, gR_176_61 hS]
    rw [if_neg (nI_nlt (by omega) (by omega)), if_pos (ai_nI (.inl (tg_226 hS)) (ln_226 hS) (by omega) (by omega)), ixn (by omega), e, r_isMark (by omega), if_neg (by omega)]
    simp -implicitDefEqProofs only [tg_sI, ln_sI, tg_sL, ln_sL, tg_sR, ln_sR, tg_sC, ln_sC, ai_sI, ai_sL, gL_sI, gR_sI, gI_sL, gR_sL, gI_sR, gL_sR, gI_sI, gL_sL, gR_sR, zlt_e, zln_e, zli_e, zll_e, zbI_e, zbL_e, zbR_e, zbV_e, zeR_e, zeN_s, zeN_n, Nat.reduceEqDiff, and_self, and_true, true_and, and_false, false_and, ite_true, ite_false, reduceIte]
    have := ih (W0 ++ [m] ++ q.reverse) rfl (by omega) (fun i hi => by rw [hW i (by omega), getD_app _ _ _ hi]) (fun y hy => hq y (by simp [hy]))
    rw [Int32.sub_eq_add_neg] at this
    exact this
theorem mark_no {W0 : List Nat} (hS : Sh β) (h6 : gI β 176 69 = nI b) (hb : b = W0.length) : ∀ (q : List Nat) (W : List Nat), W = W0 ++ q.reverse → W.length < 1700 → (∀ i, i < W.length → gI β 226 i = nI (W.getD i 0)) → (∀ x, x ∈ q → x < 20) → zR 2 221 5 [some (.ref 176), some (.int (nI W.length - 1))] [] β = some (some (.int (-1)), β) := by
  intro q
  induction q with
  | nil =>
    intro W e hl hW hq
    rw [List.reverse_nil, List.append_nil] at e
    subst e
    have h1 : nI W.length - 1 < nI b := by
      rw [hb, Int32.lt_iff_toInt_lt, nI_toInt (by omega)]
      rw [show (1 : Int32) = nI 1 from rfl, pk_sub_toInt (by omega) (by omega)]
      omega
    rw [q_X12_mark_5]
    simp -implicitDefEqProofs only [tg_sI, ln_sI, tg_sL, ln_sL, tg_sR, ln_sR, tg_sC, ln_sC, ai_sI, ai_sL, gL_sI, gR_sI, gI_sL, gR_sL, gI_sR, gL_sR, gI_sI, gL_sL, gR_sR, zlt_e, zln_e, zli_e, zll_e, zbI_e, zbL_e, zbR_e, zbV_e, zeR_e, zeN_s, zeN_n, Nat.reduceEqDiff, and_self, and_true, true_and, and_false, false_and, ite_true, ite_false, reduceIte, tg_176 hS, h6, gR_176_61 hS]
    rw [if_pos h1, if_pos h1]
  | cons x q ih =>
    intro W e hl hW hq
    rw [List.reverse_cons, ← List.append_assoc] at e
    subst e
    have hlen : (W0 ++ q.reverse ++ [x]).length = (W0 ++ q.reverse).length + 1 := by rw [List.length_append]; rfl
    have hlen2 : (W0 ++ q.reverse).length ≥ W0.length := by simp
    have e := hW (W0 ++ q.reverse).length (by omega)
    rw [getD_end] at e
    have hx : x < 20 := hq x (by simp)
    rw [pop_n, q_X12_mark_5]
    simp -implicitDefEqProofs only [tg_sI, ln_sI, tg_sL, ln_sL, tg_sR, ln_sR, tg_sC, ln_sC, ai_sI, ai_sL, gL_sI, gR_sI, gI_sL, gR_sL, gI_sR, gL_sR, gI_sI, gL_sL, gR_sR, zlt_e, zln_e, zli_e, zll_e, zbI_e, zbL_e, zbR_e, zbV_e, zeR_e, zeN_s, zeN_n, Nat.reduceEqDiff, and_self, and_true, true_and, and_false, false_and, ite_true, ite_false, reduceIte, tg_176 hS, h6, gR_176_61 hS]
    rw [if_neg (nI_nlt (by omega) (by omega)), if_pos (ai_nI (.inl (tg_226 hS)) (ln_226 hS) (by omega) (by omega)), ixn (by omega), e, r_isMark (by omega), if_neg (by omega)]
    simp -implicitDefEqProofs only [tg_sI, ln_sI, tg_sL, ln_sL, tg_sR, ln_sR, tg_sC, ln_sC, ai_sI, ai_sL, gL_sI, gR_sI, gI_sL, gR_sL, gI_sR, gL_sR, gI_sI, gL_sL, gR_sR, zlt_e, zln_e, zli_e, zll_e, zbI_e, zbL_e, zbR_e, zbV_e, zeR_e, zeN_s, zeN_n, Nat.reduceEqDiff, and_self, and_true, true_and, and_false, false_and, ite_true, ite_false, reduceIte]
    have := ih (W0 ++ q.reverse) rfl (by omega) (fun i hi => by rw [hW i (by omega), getD_app _ _ _ hi]) (fun y hy => hq y (by simp [hy]))
    rw [Int32.sub_eq_add_neg] at this
    exact this
end
