/-! a send as a whole, both at once -/
def lc (SS : List (List Nat × Nat)) : List Nat := SS.flatMap (fun x => x.1 ++ [20000 + x.2])
def lr (SS : List (List Nat × Nat)) : List Nat := SS.flatMap (fun x => x.1)
def off (SS : List (List Nat × Nat)) (i : Nat) : Nat := (lr (SS.take i)).length
/-- statements as they can be -/
def wfS (SS : List (List Nat × Nat)) : Prop := ∀ x, x ∈ SS → EB 24 x.1 ∧ x.2 < 32 ∧ x.2 ≠ 0 ∧ pc x.2 ≤ 3
/-- the reference's rows of statements, from A on, codes from C on -/
def SR (β : zS) (A C : Nat) (SS : List (List Nat × Nat)) : Prop := ∀ i, i < SS.length → gI β 229 (A + i) = nI (SS.getD i ([], 0)).2 ∧ gI β 230 (A + i) = nI (C + off SS i) ∧ gI β 231 (A + i) = nI (C + off SS i + (SS.getD i ([], 0)).1.length)
def Q2 (β : zS) (L : List Nat) : Prop := gI β 176 60 = nI (flt L).length ∧ ∀ i, i < (flt L).length → gI β 225 (4800 + i) = nI ((flt L).getD i 0)
def XV (r j : Nat) : Prop := XU r j ∨ (r = 176 ∧ j = 58) ∨ (r = 228 ∧ j = 3) ∨ ((r = 229 ∨ r = 230 ∨ r = 231) ∧ 120 ≤ j)
section
variable {t : Nat → Nat} {n : Nat} {α α' α1 β β0 β' β1 γ : zS} {st st1 : lx} {L W V W0 q p toks : List Nat} {c O b f : Nat} {SS : List (List Nat × Nat)}
theorem lc_app (x : List Nat × Nat) : lc (SS ++ [x]) = lc SS ++ x.1 ++ [20000 + x.2] := by
  unfold lc
  rw [List.flatMap_append]
  simp
theorem lr_app (x : List Nat × Nat) : lr (SS ++ [x]) = lr SS ++ x.1 := by
  unfold lr
  rw [List.flatMap_append]
  simp
theorem flt_toks (h : ∀ c, c ∈ toks → c < 11000) : flt toks = toks := by
  unfold flt
  rw [List.filter_eq_self]
  intro a ha
  have := h a ha
  simp
  omega
theorem flt_ap (L M : List Nat) : flt (L ++ M) = flt L ++ flt M := List.filter_append ..
theorem flt_lc (h : wfS SS) : flt (lc SS) = lr SS := by
  induction SS with
  | nil => rfl
  | cons x SS ih =>
    have e1 : lc (x :: SS) = x.1 ++ [20000 + x.2] ++ lc SS := rfl
    have e2 : lr (x :: SS) = x.1 ++ lr SS := rfl
    rw [e1, e2, flt_ap, flt_ap, flt_toks (h x (by simp)).1.1, ih (fun y hy => h y (by simp [hy]))]
    have : flt [20000 + x.2] = [] := by unfold flt; simp
    rw [this, List.append_nil]
theorem SR_un {X : Nat → Nat → Prop} {A C : Nat} (h : SR β A C SS) (hS : Sh β) (u : Un X β β') (hX : ∀ r j, r = 229 ∨ r = 230 ∨ r = 231 → A ≤ j → j < A + SS.length → ¬ X r j) : SR β' A C SS := by
  intro i hi
  obtain ⟨h1, h2, h3⟩ := h i hi
  refine ⟨?_, ?_, ?_⟩
  · rw [u.iA (by omega) (by omega) (by rw [tg_229 hS]; omega) (hX _ _ (by omega) (by omega) (by omega))]; exact h1
  · rw [u.iA (by omega) (by omega) (by rw [tg_230 hS]; omega) (hX _ _ (by omega) (by omega) (by omega))]; exact h2
  · rw [u.iA (by omega) (by omega) (by rw [tg_231 hS]; omega) (hX _ _ (by omega) (by omega) (by omega))]; exact h3
theorem getD_appS (x : List Nat × Nat) (i : Nat) (hi : i < SS.length) : (SS ++ [x]).getD i ([], 0) = SS.getD i ([], 0) := by
  rw [List.getD_eq_getElem?_getD, List.getD_eq_getElem?_getD, List.getElem?_append_left hi]
theorem getD_endS (x : List Nat × Nat) : (SS ++ [x]).getD SS.length ([], 0) = x := by
  rw [List.getD_eq_getElem?_getD, List.getElem?_append_right (Nat.le_refl _)]
  simp
theorem off_app (x : List Nat × Nat) (i : Nat) (hi : i ≤ SS.length) : off (SS ++ [x]) i = off SS i := by
  unfold off
  rw [List.take_append_of_le_length hi]
theorem off_end : off SS SS.length = (lr SS).length := by
  unfold off
  rw [List.take_length]
/-- any number put behind a fault -/
theorem z_putV (v : Int32) (h : CZ t n α α1 st1 L) (hd : ¬ lL st1 = true) : ∃ α', zM 53 [.ref 12, .int v] α1 = some (none, α') ∧ CZ t n α α' st1 L := by
  obtain ⟨h1, h2, ⟨k, hk, h3⟩, h4⟩ := h
  have hS := CS_sh h1
  obtain ⟨α', p1, p2, p3⟩ := c_putD hS v hk h3
  refine ⟨α', p1, ?_, h2.trans p2, p3, fun z => absurd z hd⟩
  have hS' : Sh α' := zM_sh rfl hS p1
  have u : Un (fun r j => (r = 12 ∧ j = 3) ∨ r = 14) α1 α' := by
    rw [q_X6_put] at p1
    simp -implicitDefEqProofs only [tg_sI, ln_sI, tg_sL, ln_sL, tg_sR, ln_sR, tg_sC, ln_sC, ai_sI, ai_sL, gL_sI, gR_sI, gI_sL, gR_sL, gI_sR, gL_sR, gI_sI, gL_sL, gR_sR, zlt_e, zln_e, zli_e, zll_e, zbI_e, zbL_e, zbR_e, zbV_e, zeR_e, zeN_s, zeN_n, Nat.reduceEqDiff, and_self, and_true, true_and, and_false, false_and, ite_true, ite_false, reduceIte, tg_12 hS, h3, gR_12_2 hS] at p1
    split at p1
    · cases p1; exact Un.refl _ _
    · split at p1
      · cases p1
        exact (Un_sI (.inr rfl)).trans (Un_sI (.inl ⟨rfl, rfl⟩))
      · cases p1
  exact CS_un h1 hS' u (fun r j a b => by omega)
/-- a whole test, both -/
theorem J_testW {s e : Nat} (hC : CS α t n (.inl (s, e))) (hD : DR α L) (hR : RS β t n (.inl (s, e))) (hQ : SQ β [] 0 L 0) (hL : L.length + 6 ≤ s) : ∃ α' st' toks, zM 56 [.ref 12, .int 0] α = some (none, α') ∧ CZ t n α α' st' (L ++ toks) ∧ (¬ lL st' = true → ∃ β', zM 229 [.ref 176] β = some (none, β') ∧ SE t n β β' st') ∧ (lL st' = true → EB 24 toks ∧ (L ++ toks).length + 6 ≤ lp st' ∧ s < lp st' ∧ ∃ β', zM 229 [.ref 176] β = some (none, β') ∧ SV t n β β' st' [] 0 (L ++ toks) 0) := by
  have h16 := hC.1.2.1
  obtain ⟨α', st', x, d1, d2, d3, d4⟩ := (J_all (t := t) (n := n) n).2 α β s e 0 0 [] L none (by omega) hC hD hR hQ (by omega) (by simpa using hL) (by simp) (by simp)
  have e1 : zM 229 [.ref 176] β = TL 1 none β := by rw [q_X12_test]; rfl
  rw [e1]
  refine ⟨α', st', x, d1, d2, d3, fun hv => ?_⟩
  obtain ⟨s', e', rfl⟩ := lx_live hv
  obtain ⟨f1, f2, f3, f4, p, L', l2, β1, f5, f6, f7, f8⟩ := d4 hv
  have f2 : (L ++ x).length + 0 + 6 ≤ s' := f2
  have hs' : s' ≤ n := f6.1.2.1.1
  have hsm : sm ([] ++ p.reverse) L' := by
    refine ⟨?_, gD_revL (W := []) (by simp) p (fun y hy => by have := f8 y hy; omega)⟩
    have := congrArg List.length f7
    simp at this f2 ⊢
    omega
  have hno : ∀ j, j < ([] ++ p.reverse).length → ([] ++ p.reverse).getD j 0 ≠ 25 := by
    intro j hj
    rw [List.nil_append] at hj ⊢
    rw [List.getD_eq_getElem?_getD, List.getElem?_eq_getElem hj]
    have := f8 _ (List.mem_reverse.mp (List.getElem_mem hj))
    simp only [Option.getD_some]
    omega
  obtain ⟨β2, k1, k2⟩ := td_end (l2 := l2) f6 hsm hno f4
  rw [List.nil_append] at k2 hsm
  obtain ⟨β3, k3, k4⟩ := TL_end (u2 := some (.int l2)) (st := .inl (s', e')) rfl p L' β2 k2 hsm
  rw [f7] at k4
  refine ⟨EB_mono f1 (by omega), by show (L ++ x).length + 6 ≤ s'; simpa using f2, f3, β3, ?_, k4⟩
  rw [f5, k1, TL_0]
  exact k3
/-- the sizes, also behind a fault -/
theorem J_sizes (hC : CS α t n st) (hR : RS β t n st) : ∃ α' β' st' v w, zM 54 [.ref 12] α = some (some (.int v), α') ∧ zM 232 [.ref 176] β = some (some (.int w), β') ∧ CS α' t n st' ∧ RS β' t n st' ∧ Un (fun r _ => r = 8) α α' ∧ Un XL β β' ∧ (lL st' = true → lL st = true ∧ lp st + 2 ≤ lp st' ∧ ∃ B', B' < 32 ∧ B' ≠ 0 ∧ pc B' ≤ 3 ∧ v = nI B' ∧ w = nI B') := by
  by_cases hv : lL st = true
  · obtain ⟨s, e, rfl⟩ := lx_live hv
    obtain ⟨α', β', st', v, w, k1, k2, k3, k4, k5, k6, k7⟩ := J_szLoop (t := t) (n := n) 4 α β s e 0 0 none none none none rfl (by omega) hC hR (by omega) rfl ⟨fun _ => rfl, fun _ => rfl⟩
    have k1 : zR 3 54 4 [some (.ref 12), some (.int 0), some (.int 0), none] [] α = some (some (.int v), α') := k1
    have k2 : zR 5 232 6 [some (.ref 176), some (.int 0), some (.int 0), some (.int 1), none, none, none] [] β = some (some (.int w), β') := k2
    refine ⟨α', β', st', v, w, by rw [q_X6_readSizes]; exact k1, by rw [q_X12_sizesTold]; exact k2, k3, k4, k5, k6, fun q => ?_⟩
    obtain ⟨j1, j2, j3⟩ := k7 q
    exact ⟨rfl, j2 rfl, j3⟩
  · have hS := CS_sh hC
    have hSb := RS_sh hR
    have hdx := dead_x (t := t) (n := n) hv
    have hat := c_atSize hC
    rw [if_neg (by omega)] at hat
    obtain ⟨α2, f1, f2⟩ := c_failHere hC (f := 1) (by decide) (by decide)
    have f1 : zM 107 [.ref 8, .int 1] α = some (none, α2) := f1
    rw [lf_dead hv] at f2
    refine ⟨α2, β, st, 0, 0, ?_, ?_, f2, hR, Un_tok hS f1 rfl (by decide +kernel), Un.refl _ _, fun z => absurd z hv⟩
    · rw [q_X6_readSizes, q_X6_readSizes_4, if_neg (by decide)]
      simp -implicitDefEqProofs only [tg_sI, ln_sI, tg_sL, ln_sL, tg_sR, ln_sR, tg_sC, ln_sC, ai_sI, ai_sL, gL_sI, gR_sI, gI_sL, gR_sL, gI_sR, gL_sR, gI_sI, gL_sL, gR_sR, zlt_e, zln_e, zli_e, zll_e, zbI_e, zbL_e, zbR_e, zbV_e, zeR_e, zeN_s, zeN_n, Nat.reduceEqDiff, and_self, and_true, true_and, and_false, false_and, ite_true, ite_false, reduceIte, tg_12 hS, hat, gR_12_0 hS, tg_8 hS, f1]
    · rw [q_X12_sizesTold, q_X12_sizesTold_6, if_neg (by decide), tg_176 hSb, if_pos rfl, if_neg (dead_5 hR hv)]
end
