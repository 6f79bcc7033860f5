/-! the reference's sums: where it stands -/
noncomputable def KL (was x : Int32) (β : zS) : zO := zR 6 225 9 [some (.ref 176), some (.int was), some (.int x)] [] β
noncomputable def KC (was : Int32) (β : zS) : zO := if tg β 176 = 13 then if (gI β 176 5) = 0 then (if tg β 176 = 13 then zbI (zM 224 [.ref 176] β) (fun x2 σ2 => if x2 = 0 then KL was 0 σ2 else KL was 1 σ2) else none) else KL was 0 β else none
noncomputable def KA (was : Int32) (u2 u3 u4 : Option Value) (β : zS) : zO := zbV (zR 5 223 2 [some (.ref 176), some (.int 1), u2, u3, u4] [] β) (fun σ1 => KC was σ1)
noncomputable def KB (was : Int32) (u1 : Option Value) (β : zS) : zO := zbI (zR 4 224 0 [some (.ref 176), u1] [] β) (fun x2 σ2 => if x2 = 0 then KL was 0 σ2 else KL was 1 σ2)
section
variable {t : Nat → Nat} {n : Nat} {β β' β1 γ : zS} {st st1 : lx} {L W p : List Nat} {c O b : Nat} {was : Int32} {u1 u2 u3 u4 : Option Value}
theorem KL_1 (hS : Sh β) (h5 : gI β 176 5 = 0) : KL was 1 β = KA was none none none β := by
  unfold KL KA KC KL
  rw [q_X12_sums_9, q_X12_onePart]
  simp -implicitDefEqProofs only [tg_sI, ln_sI, tg_sL, ln_sL, tg_sR, ln_sR, tg_sC, ln_sC, ai_sI, ai_sL, gL_sI, gR_sI, gI_sL, gR_sL, gI_sR, gL_sR, gI_sI, gL_sL, gR_sR, zlt_e, zln_e, zli_e, zll_e, zbI_e, zbL_e, zbR_e, zbV_e, zeR_e, zeN_s, zeN_n, Nat.reduceEqDiff, and_self, and_true, true_and, and_false, false_and, ite_true, ite_false, reduceIte, tg_176 hS, h5]
  rw [if_neg (by decide)]
theorem KL_d (hS : Sh β) (h5 : ¬ gI β 176 5 = 0) (x : Int32) : KL was x β = some (none, sI β 176 69 was) := by
  unfold KL
  rw [q_X12_sums_9, q_X12_sums_27]
  simp -implicitDefEqProofs only [tg_sI, ln_sI, tg_sL, ln_sL, tg_sR, ln_sR, tg_sC, ln_sC, ai_sI, ai_sL, gL_sI, gR_sI, gI_sL, gR_sL, gI_sR, gL_sR, gI_sI, gL_sL, gR_sR, zlt_e, zln_e, zli_e, zll_e, zbI_e, zbL_e, zbR_e, zbV_e, zeR_e, zeN_s, zeN_n, Nat.reduceEqDiff, and_self, and_true, true_and, and_false, false_and, ite_true, ite_false, reduceIte, tg_176 hS]
  rw [if_neg h5]
  split <;> rfl
theorem KC_d (hS : Sh β) (h5 : ¬ gI β 176 5 = 0) : KC was β = some (none, sI β 176 69 was) := by
  unfold KC
  rw [tg_176 hS, if_pos rfl, if_neg h5]
  exact KL_d hS h5 0
theorem KC_B (hS : Sh β) (h5 : gI β 176 5 = 0) : KC was β = KB was none β := by
  unfold KC KB
  rw [tg_176 hS, if_pos rfl, if_pos h5, if_pos rfl, q_X12_goesOn, q_X12_goesOn_0]
theorem dead_5 (h : RS β t n st) (hd : ¬ lL st = true) : ¬ gI β 176 5 = 0 := by
  rw [bad_of h]; exact hd
theorem live_5 (h : RS β t n st) (hd : lL st = true) : gI β 176 5 = 0 := by
  rw [bad_of h]; exact hd
/-- the end of a dead sums -/
theorem SD_was (h : SD t n β β1 st) : SD t n β (sI β1 176 69 was) st := by
  obtain ⟨h1, h2, k, hk, h3⟩ := h
  refine ⟨RS_f h1 (by omega), h2.trans (Un_sI (.inr (.inl ⟨rfl, .inr (.inr (.inr rfl))⟩))), k, hk, ?_⟩
  rw [gI_sI, if_neg (by omega)]; exact h3
theorem RS_at1 {s e : Nat} (h : RS β t n (.inl (s, e))) (hs : s < n) (hk : kO (t s) = 3) : RS (sI β 176 2 (nI (s + 1))) t n (la t n (.inl (s, e))) := by
  obtain ⟨hR, ho, ⟨a, ha, hsa, h2⟩, h4, h5, h6⟩ := h
  have e1 : tkE t n s = s + 1 := by unfold tkE; rw [if_pos hk]
  have e2 : tkG t n s e = e := by unfold tkG; rw [if_pos hk]
  refine ⟨RC_at hR (by decide), lO_la hs ho, ⟨s + 1, by omega, ?_, ?_⟩, ?_, ?_, ?_⟩
  · show ru t n 5 (s + 1) = tkS t n s
    unfold tkS
    rw [e1]
  · rw [gI_sI, if_pos ⟨rfl, rfl⟩]
  · rw [gI_sI, if_neg (by omega), e2]; exact h4
  · rw [gI_sI, if_neg (by omega)]; exact h5
  · rw [gI_sI, if_neg (by omega)]; exact h6
theorem ls_of {s e : Nat} {c : Nat} (hc : c < 256) (h : ls t n (.inl (s, e)) = c) : s < n ∧ kO (t s) = 3 ∧ t s = c := by
  have h1 : sgT t n s = c := h
  obtain ⟨h2, h3⟩ := sgT_lt (t := t) (n := n) (s := s) (by omega)
  rw [sgT_yes h2 h3] at h1
  exact ⟨h2, h3, h1⟩
/-- the byte that look shows, as a test -/
theorem look_is {s e c : Nat} (h256 : ∀ j, t j < 256) (hc : c < 256) (hc3 : kO c = 3) : ((if s < n then nI (t s) else -1) = nI c) ↔ ls t n (.inl (s, e)) = c := by
  have h1 : ls t n (.inl (s, e)) = sgT t n s := rfl
  rw [h1]
  have := h256 s
  by_cases hs : s < n
  · rw [if_pos hs, nI_eq (by omega) (by omega)]
    constructor
    · intro q
      rw [sgT_yes hs (by rw [q]; exact hc3)]; exact q
    · intro q
      obtain ⟨h2, h3⟩ := sgT_lt (t := t) (n := n) (s := s) (by omega)
      rw [sgT_yes h2 h3] at q
      exact q
  · rw [if_neg hs, sgT_no (by omega)]
    constructor
    · intro q
      exact absurd q.symm (nI_nm1 (by omega))
    · intro q
      omega
theorem la_pos {s e : Nat} (h : s < n) (h5 : kO (t s) ≠ 5) : s < lp (la t n (.inl (s, e))) := by
  have := tkE_gt (t := t) (n := n) h h5
  have := tkS_ge (t := t) (n := n) (s := s)
  show s < tkS t n s
  omega
theorem v_opens {q : Nat} (h : SV t n β β1 st W O L b) (hs : sm W L) (ho : O ≤ 6) (c : Nat) (hq : q < 2000) (hl : lL st = true) : (O < 6 → ∃ β', zM 217 [.ref 176, .int (nI c), .int (nI q)] β1 = some (none, β') ∧ SV t n β β' st (W ++ [c]) (O + 1) L b ∧ gI β' 176 2 = gI β1 176 2) ∧ (O = 6 → ∃ β', zM 217 [.ref 176, .int (nI c), .int (nI q)] β1 = some (none, β') ∧ SV t n β β' (lf st 4 q) W O L b) := by
  have hS := RS_sh h.1
  have hs1 := hs.1
  rw [q_X12_opens]
  simp -implicitDefEqProofs only [tg_sI, ln_sI, tg_sL, ln_sL, tg_sR, ln_sR, tg_sC, ln_sC, ai_sI, ai_sL, gL_sI, gR_sI, gI_sL, gR_sL, gI_sR, gL_sR, gI_sI, gL_sL, gR_sR, zlt_e, zln_e, zli_e, zll_e, zbI_e, zbL_e, zbR_e, zbV_e, zeR_e, zeN_s, zeN_n, Nat.reduceEqDiff, and_self, and_true, true_and, and_false, false_and, ite_true, ite_false, reduceIte, tg_176 hS, h.2.2.2.2.1, gR_176_61 hS, h.2.2.1]
  constructor
  · intro h6
    rw [if_neg (show ¬ nI O = 6 from fun z => by have := (nI_eq (b := 6) (by omega) (by omega)).mp z; omega)]
    rw [if_pos (show ai β1 32 32 226 (nI W.length) = true from ai_nI (.inl (tg_226 hS)) (ln_226 hS) (by omega) (by omega)), ixn (by omega), nI_1, nI_1]
    refine ⟨_, rfl, v_push (v_open h (O + 1)) (by omega) c, ?_⟩
    rw [gI_sI, if_neg (by omega), gI_sI, if_neg (by omega), gI_sI, if_neg (by omega)]
  · intro h6
    obtain ⟨β', f1, f2⟩ := r_fail h.1 (f := 4) (p := q) (by decide) (by decide) hq
    have f1 : zM 191 [.ref 176, .int 4, .int (nI q)] β1 = some (none, β') := f1
    rw [if_pos (by rw [h6]; rfl), f1]
    exact ⟨β', rfl, SV_rd h rfl (by decide +kernel) f1 f2⟩
theorem v_mark_in {W0 : List Nat} {m : Nat} (h : SV t n β β1 st (W0 ++ [m] ++ p.reverse) O L b) (hs : sm (W0 ++ [m] ++ p.reverse) L) (hm : isM m) (hb : b ≤ W0.length) (hp : ∀ x, x ∈ p → x < 20) : zM 221 [.ref 176] β1 = some (some (.int (nI m)), β1) := by
  have hS := RS_sh h.1
  have hs1 := hs.1
  rw [q_X12_mark, tg_176 hS, if_pos rfl, h.2.2.1]
  exact mark_in hS hm h.2.2.2.2.2.2.2 hb p _ rfl (by omega) h.2.2.2.1 hp
theorem v_mark_no (h : SV t n β β1 st (W ++ p.reverse) O L W.length) (hs : sm (W ++ p.reverse) L) (hp : ∀ x, x ∈ p → x < 20) : zM 221 [.ref 176] β1 = some (some (.int (-1)), β1) := by
  have hS := RS_sh h.1
  have hs1 := hs.1
  rw [q_X12_mark, tg_176 hS, if_pos rfl, h.2.2.1]
  exact mark_no hS h.2.2.2.2.2.2.2 rfl p _ rfl (by omega) h.2.2.2.1 hp
theorem sm_drop {x : Nat} (h : sm (W ++ [x]) L) : sm W (L ++ [x]) := by
  obtain ⟨h1, h2⟩ := h
  refine ⟨by simp at h1 ⊢; omega, fun i => ?_⟩
  by_cases q : i < W.length
  · have := h2 i; rw [getD_app _ _ _ q] at this; exact this
  · rw [List.getD_eq_getElem?_getD, List.getElem?_eq_none (by omega)]
    simp
theorem rev_c (W : List Nat) (x : Nat) (q : List Nat) : W ++ (x :: q).reverse = W ++ q.reverse ++ [x] := by
  rw [List.reverse_cons, List.append_assoc]
theorem app_c (L : List Nat) (x : Nat) (q : List Nat) : L ++ (x :: q) = L ++ [x] ++ q := by simp
/-- dropsToMark, behind which the mark m (or the base) is on top -/
theorem v_toMark {W0 : List Nat} (hW : W0.length = b ∨ ∃ W1 m, W0 = W1 ++ [m] ∧ isM m ∧ b ≤ W1.length) : ∀ (p L : List Nat) (β1 : zS), SV t n β β1 st (W0 ++ p.reverse) O L b → sm (W0 ++ p.reverse) L → (∀ x, x ∈ p → x < 20) → ∃ β', zR 3 222 0 [some (.ref 176)] [] β1 = some (none, β') ∧ SV t n β β' st W0 O (L ++ p) b := by
  intro p
  induction p with
  | nil =>
    intro L β1 h hs hp
    rw [List.reverse_nil, List.append_nil] at h hs
    rw [List.append_nil]
    have hS := RS_sh h.1
    have hs1 := hs.1
    refine ⟨β1, ?_, h⟩
    rw [q_X12_dropsToMark_0]
    simp -implicitDefEqProofs only [tg_sI, ln_sI, tg_sL, ln_sL, tg_sR, ln_sR, tg_sC, ln_sC, ai_sI, ai_sL, gL_sI, gR_sI, gI_sL, gR_sL, gI_sR, gL_sR, gI_sI, gL_sL, gR_sR, zlt_e, zln_e, zli_e, zll_e, zbI_e, zbL_e, zbR_e, zbV_e, zeR_e, zeN_s, zeN_n, Nat.reduceEqDiff, and_self, and_true, true_and, and_false, false_and, ite_true, ite_false, reduceIte, tg_176 hS, h.2.2.1, h.2.2.2.2.2.2.2, gR_176_61 hS]
    rcases hW with q | ⟨W1, m, rfl, hm, hb⟩
    · rw [if_pos (nI_le (by omega) (by rw [← q]; omega))]
    · have hlen : (W1 ++ [m]).length = W1.length + 1 := by rw [List.length_append]; rfl
      have e := h.2.2.2.1 W1.length (by omega)
      rw [getD_end] at e
      rw [if_neg (nI_ge (by omega) (by omega)), pop_n, if_pos (ai_nI (.inl (tg_226 hS)) (ln_226 hS) (by omega) (by omega)), ixn (by omega), e, r_isMark (by unfold isM at hm; omega), if_pos (show 20 ≤ m ∧ m ≤ 24 from hm)]
      simp -implicitDefEqProofs only [tg_sI, ln_sI, tg_sL, ln_sL, tg_sR, ln_sR, tg_sC, ln_sC, ai_sI, ai_sL, gL_sI, gR_sI, gI_sL, gR_sL, gI_sR, gL_sR, gI_sI, gL_sL, gR_sR, zlt_e, zln_e, zli_e, zll_e, zbI_e, zbL_e, zbR_e, zbV_e, zeR_e, zeN_s, zeN_n, Nat.reduceEqDiff, and_self, and_true, true_and, and_false, false_and, ite_true, ite_false, reduceIte]
      rw [if_neg (by decide)]
  | cons x q ih =>
    intro L β1 h hs hp
    rw [rev_c] at h hs
    have hS := RS_sh h.1
    have hs1 := hs.1
    have hb : b ≤ W0.length := by
      rcases hW with z | ⟨W1, m, rfl, hm, hb⟩
      · omega
      · rw [List.length_append]; omega
    have hlen : (W0 ++ q.reverse ++ [x]).length = (W0 ++ q.reverse).length + 1 := by rw [List.length_append]; rfl
    have hlen2 : (W0 ++ q.reverse).length ≥ W0.length := by simp
    have e := h.2.2.2.1 (W0 ++ q.reverse).length (by omega)
    rw [getD_end] at e
    have hx : x < 20 := hp x (by simp)
    obtain ⟨β2, d1, d2⟩ := v_drops h hs
    obtain ⟨β', i1, i2⟩ := ih (L ++ [x]) β2 d2 (sm_drop hs) (fun y hy => hp y (by simp [hy]))
    refine ⟨β', ?_, by rw [app_c]; exact i2⟩
    rw [q_X12_dropsToMark_0]
    simp -implicitDefEqProofs only [tg_sI, ln_sI, tg_sL, ln_sL, tg_sR, ln_sR, tg_sC, ln_sC, ai_sI, ai_sL, gL_sI, gR_sI, gI_sL, gR_sL, gI_sR, gL_sR, gI_sI, gL_sL, gR_sR, zlt_e, zln_e, zli_e, zll_e, zbI_e, zbL_e, zbR_e, zbV_e, zeR_e, zeN_s, zeN_n, Nat.reduceEqDiff, and_self, and_true, true_and, and_false, false_and, ite_true, ite_false, reduceIte, tg_176 hS, h.2.2.1, h.2.2.2.2.2.2.2, gR_176_61 hS]
    rw [if_neg (nI_ge (by omega) (by omega)), pop_n, if_pos (ai_nI (.inl (tg_226 hS)) (ln_226 hS) (by omega) (by omega)), ixn (by omega), e, r_isMark (by omega), if_neg (by omega)]
    simp -implicitDefEqProofs only [tg_sI, ln_sI, tg_sL, ln_sL, tg_sR, ln_sR, tg_sC, ln_sC, ai_sI, ai_sL, gL_sI, gR_sI, gI_sL, gR_sL, gI_sR, gL_sR, gI_sI, gL_sL, gR_sR, zlt_e, zln_e, zli_e, zll_e, zbI_e, zbL_e, zbR_e, zbV_e, zeR_e, zeN_s, zeN_n, Nat.reduceEqDiff, and_self, and_true, true_and, and_false, false_and, ite_true, ite_false, reduceIte, d1, tg_176 hS]
    exact i1
theorem v_dropsToMark {W0 : List Nat} (hW : W0.length = b ∨ ∃ W1 m, W0 = W1 ++ [m] ∧ isM m ∧ b ≤ W1.length) (h : SV t n β β1 st (W0 ++ p.reverse) O L b) (hs : sm (W0 ++ p.reverse) L) (hp : ∀ x, x ∈ p → x < 20) : ∃ β', zM 222 [.ref 176] β1 = some (none, β') ∧ SV t n β β' st W0 O (L ++ p) b := by
  obtain ⟨β', h1, h2⟩ := v_toMark hW p L β1 h hs hp
  refine ⟨β', ?_, h2⟩
  rw [(q_X12_dropsToMark 176 β1).trans (q_X12_dropsToMark_0 176 β1).symm]
  exact h1
end
