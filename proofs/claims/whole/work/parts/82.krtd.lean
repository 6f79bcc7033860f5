/-! the reference's tests: where it stands -/
noncomputable def TL (x : Int32) (u2 : Option Value) (β : zS) : zO := zR 8 229 2 [some (.ref 176), some (.int x), u2] [] β
noncomputable def TG (l2 : Int32) (o : zO) : zO := zbI o (fun x2 σ2 => if x2 = 0 then TL 0 (some (.int l2)) σ2 else TL 1 (some (.int l2)) σ2)
noncomputable def TB (l2 : Int32) (β : zS) : zO := TG l2 (zR 4 230 0 [some (.ref 176)] [] β)
noncomputable def TE (l2 : Int32) (β : zS) : zO := zR 8 229 42 [some (.ref 176), some (.int 1), some (.int l2)] [] β
def SE (t : Nat → Nat) (n : Nat) (β β' : zS) (st' : lx) : Prop := RS β' t n st' ∧ Un XU β β'
section
variable {t : Nat → Nat} {n : Nat} {α α' α1 β β0 β' β1 γ : zS} {st st1 : lx} {L W V W0 q p toks : List Nat} {c O b f : Nat} {l2 : Int32} {u1 u2 u3 u4 : Option Value}
theorem TL_d (hS : Sh β) (h5 : ¬ gI β 176 5 = 0) (x : Int32) : TL x u2 β = some (none, β) := by
  unfold TL
  rw [q_X12_test_2, q_X12_test_55]
  simp -implicitDefEqProofs only [tg_sI, ln_sI, tg_sL, ln_sL, tg_sR, ln_sR, tg_sC, ln_sC, ai_sI, ai_sL, gL_sI, gR_sI, gI_sL, gR_sL, gI_sR, gL_sR, gI_sI, gL_sL, gR_sR, zlt_e, zln_e, zli_e, zll_e, zbI_e, zbL_e, zbR_e, zbV_e, zeR_e, zeN_s, zeN_n, Nat.reduceEqDiff, and_self, and_true, true_and, and_false, false_and, ite_true, ite_false, reduceIte, tg_176 hS]
  rw [if_neg h5]
  split <;> rfl
theorem TE_d (hS : Sh β) (h5 : ¬ gI β 176 5 = 0) : TE l2 β = some (none, β) := by
  unfold TE
  rw [q_X12_test_42, q_X12_dropsNots]
  simp -implicitDefEqProofs only [tg_sI, ln_sI, tg_sL, ln_sL, tg_sR, ln_sR, tg_sC, ln_sC, ai_sI, ai_sL, gL_sI, gR_sI, gI_sL, gR_sL, gI_sR, gL_sR, gI_sI, gL_sL, gR_sR, zlt_e, zln_e, zli_e, zll_e, zbI_e, zbL_e, zbR_e, zbV_e, zeR_e, zeN_s, zeN_n, Nat.reduceEqDiff, and_self, and_true, true_and, and_false, false_and, ite_true, ite_false, reduceIte, tg_176 hS]
  rw [if_neg h5]
  simp -implicitDefEqProofs only [tg_sI, ln_sI, tg_sL, ln_sL, tg_sR, ln_sR, tg_sC, ln_sC, ai_sI, ai_sL, gL_sI, gR_sI, gI_sL, gR_sL, gI_sR, gL_sR, gI_sI, gL_sL, gR_sR, zlt_e, zln_e, zli_e, zll_e, zbI_e, zbL_e, zbR_e, zbV_e, zeR_e, zeN_s, zeN_n, Nat.reduceEqDiff, and_self, and_true, true_and, and_false, false_and, ite_true, ite_false, reduceIte, tg_176 hS]
  rw [if_neg h5]
  exact TL_d hS h5 0
theorem SE_of (h : SV t n β β1 st W O L b) : SE t n β β1 st := ⟨h.1, h.2.1⟩
theorem SE_t (h : SV t n β β1 st W O L b) (h2 : SE t n β1 β' st1) : SE t n β β' st1 := ⟨h2.1, h.2.1.trans h2.2⟩
/-- dropsNots where none is on top -/
theorem v_nots0 (h : SV t n β0 β st W O L b) (hs : sm W L) (hl : lL st = true) (hW : W.getLast? ≠ some 16) : zM 228 [.ref 176] β = some (none, β) := by
  have hS := RS_sh h.1
  have i1 : zM 218 [.ref 176, .int 16] β = _ := v_isOn h hs (d := 16) (by decide)
  rw [decide_eq_false hW] at i1
  rw [q_X12_dropsNots]
  simp -implicitDefEqProofs only [tg_sI, ln_sI, tg_sL, ln_sL, tg_sR, ln_sR, tg_sC, ln_sC, ai_sI, ai_sL, gL_sI, gR_sI, gI_sL, gR_sL, gI_sR, gL_sR, gI_sI, gL_sL, gR_sR, zlt_e, zln_e, zli_e, zll_e, zbI_e, zbL_e, zbR_e, zbV_e, zeR_e, zeN_s, zeN_n, Nat.reduceEqDiff, and_self, and_true, true_and, and_false, false_and, ite_true, ite_false, reduceIte, tg_176 hS, live_5 h.1 hl, i1, bI_0]
theorem v_nots1 (h : SV t n β0 β st (W ++ [16]) (O + 1) L b) (hs : sm (W ++ [16]) L) (hl : lL st = true) : ∃ β', zM 228 [.ref 176] β = zM 228 [.ref 176] β' ∧ SV t n β0 β' st W O (L ++ [16]) b := by
  have hS := RS_sh h.1
  have i1 : zM 218 [.ref 176, .int 16] β = _ := v_isOn h hs (d := 16) (by decide)
  simp only [last_c] at i1
  obtain ⟨β2, d1, d2⟩ := v_drops (v_open h O) hs
  refine ⟨β2, ?_, d2⟩
  rw [q_X12_dropsNots]
  simp -implicitDefEqProofs only [tg_sI, ln_sI, tg_sL, ln_sL, tg_sR, ln_sR, tg_sC, ln_sC, ai_sI, ai_sL, gL_sI, gR_sI, gI_sL, gR_sL, gI_sR, gL_sR, gI_sI, gL_sL, gR_sR, zlt_e, zln_e, zli_e, zll_e, zbI_e, zbL_e, zbR_e, zbV_e, zeR_e, zeN_s, zeN_n, Nat.reduceEqDiff, and_self, and_true, true_and, and_false, false_and, ite_true, ite_false, reduceIte, tg_176 hS, live_5 h.1 hl, i1, bI_0, h.2.2.2.2.1, nI_pred, d1]
  rw [if_neg (by decide), q_X12_dropsNots, q_X12_dropsNots_0]
/-- behind a fact: a not on top -/
theorem te_not (h : SV t n β0 β st (W ++ [16]) (O + 1) L b) (hs : sm (W ++ [16]) L) (hl : lL st = true) : ∃ β', TE l2 β = TE l2 β' ∧ SV t n β0 β' st W O (L ++ [16]) b := by
  have hS := RS_sh h.1
  obtain ⟨β', h1, h2⟩ := v_nots1 h hs hl
  have hS' := RS_sh h2.1
  refine ⟨β', ?_, h2⟩
  unfold TE
  rw [q_X12_test_42, q_X12_test_42, h1]
  simp -implicitDefEqProofs only [tg_sI, ln_sI, tg_sL, ln_sL, tg_sR, ln_sR, tg_sC, ln_sC, ai_sI, ai_sL, gL_sI, gR_sI, gI_sL, gR_sL, gI_sR, gL_sR, gI_sI, gL_sL, gR_sR, zlt_e, zln_e, zli_e, zll_e, zbI_e, zbL_e, zbR_e, zbV_e, zeR_e, zeN_s, zeN_n, Nat.reduceEqDiff, and_self, and_true, true_and, and_false, false_and, ite_true, ite_false, reduceIte, tg_176 hS, tg_176 hS']
theorem te_td (h : SV t n β0 β st W O L b) (hs : sm W L) (hl : lL st = true) (hW : W.getLast? ≠ some 16) : TE l2 β = TB l2 β := by
  have hS := RS_sh h.1
  unfold TE TB TG TL
  rw [q_X12_test_42, v_nots0 h hs hl hW]
  simp -implicitDefEqProofs only [tg_sI, ln_sI, tg_sL, ln_sL, tg_sR, ln_sR, tg_sC, ln_sC, ai_sI, ai_sL, gL_sI, gR_sI, gI_sL, gR_sL, gI_sR, gL_sR, gI_sI, gL_sL, gR_sR, zlt_e, zln_e, zli_e, zll_e, zbI_e, zbL_e, zbR_e, zbV_e, zeR_e, zeN_s, zeN_n, Nat.reduceEqDiff, and_self, and_true, true_and, and_false, false_and, ite_true, ite_false, reduceIte, tg_176 hS, live_5 h.1 hl]
  rw [q_X12_goesOnTest, q_X12_goesOnTest_0]
theorem sq_no (h : SV t n β0 β st W O L b) (hs : sm W L) (hW : ∀ j, j < W.length → W.getD j 0 ≠ 25) : zM 227 [.ref 176] β = some (some (.int 0), β) := by
  have hS := RS_sh h.1
  have hs1 := hs.1
  rw [q_X12_hasSquare]
  have := lp_seq (G := fun i => zR 1 227 2 [some (.ref 176), some (.int (nI i))] [] β) W.length (fun i hi => by
    have hx := hW i hi
    have hx2 := hs.2 i
    show zR 1 227 2 [some (.ref 176), some (.int (nI i))] [] β = zR 1 227 2 [some (.ref 176), some (.int (nI (i + 1)))] [] β
    rw [q_X12_hasSquare_2]
    simp -implicitDefEqProofs only [tg_sI, ln_sI, tg_sL, ln_sL, tg_sR, ln_sR, tg_sC, ln_sC, ai_sI, ai_sL, gL_sI, gR_sI, gI_sL, gR_sL, gI_sR, gL_sR, gI_sI, gL_sL, gR_sR, zlt_e, zln_e, zli_e, zll_e, zbI_e, zbL_e, zbR_e, zbV_e, zeR_e, zeN_s, zeN_n, Nat.reduceEqDiff, and_self, and_true, true_and, and_false, false_and, ite_true, ite_false, reduceIte, tg_176 hS, h.2.2.1, gR_176_61 hS]
    rw [if_neg (nI_ge hi (by omega)), if_pos (ai_nI (.inl (tg_226 hS)) (ln_226 hS) (by omega) (by omega)), ixn (by omega), h.2.2.2.1 i hi, if_neg (show ¬ nI (W.getD i 0) = 25 from fun z => hx ((nI_eq (b := 25) (by omega) (by omega)).mp z)), nI_1])
  have this : zR 1 227 2 [some (.ref 176), some (.int 0)] [] β = zR 1 227 2 [some (.ref 176), some (.int (nI W.length))] [] β := this
  rw [this, q_X12_hasSquare_2]
  simp -implicitDefEqProofs only [tg_sI, ln_sI, tg_sL, ln_sL, tg_sR, ln_sR, tg_sC, ln_sC, ai_sI, ai_sL, gL_sI, gR_sI, gI_sL, gR_sL, gI_sR, gL_sR, gI_sI, gL_sL, gR_sR, zlt_e, zln_e, zli_e, zll_e, zbI_e, zbL_e, zbR_e, zbV_e, zeR_e, zeN_s, zeN_n, Nat.reduceEqDiff, and_self, and_true, true_and, and_false, false_and, ite_true, ite_false, reduceIte, tg_176 hS, h.2.2.1]
  rw [if_pos (nI_le (Nat.le_refl _) (by omega))]
theorem sq_yes (h : SV t n β0 β st W O L b) (hs : sm W L) {k : Nat} (hk : k < W.length) (hW : W.getD k 0 = 25) : zM 227 [.ref 176] β = some (some (.int 1), β) := by
  have hS := RS_sh h.1
  have hs1 := hs.1
  rw [q_X12_hasSquare]
  have key : ∀ d i, d + i = k → zR 1 227 2 [some (.ref 176), some (.int (nI i))] [] β = some (some (.int 1), β) := by
    intro d
    induction d with
    | zero =>
      intro i hi
      have : i = k := by omega
      subst this
      rw [q_X12_hasSquare_2]
      simp -implicitDefEqProofs only [tg_sI, ln_sI, tg_sL, ln_sL, tg_sR, ln_sR, tg_sC, ln_sC, ai_sI, ai_sL, gL_sI, gR_sI, gI_sL, gR_sL, gI_sR, gL_sR, gI_sI, gL_sL, gR_sR, zlt_e, zln_e, zli_e, zll_e, zbI_e, zbL_e, zbR_e, zbV_e, zeR_e, zeN_s, zeN_n, Nat.reduceEqDiff, and_self, and_true, true_and, and_false, false_and, ite_true, ite_false, reduceIte, tg_176 hS, h.2.2.1, gR_176_61 hS]
      rw [if_neg (nI_ge hk (by omega)), if_pos (ai_nI (.inl (tg_226 hS)) (ln_226 hS) (by omega) (by omega)), ixn (by omega), h.2.2.2.1 i hk, hW, if_pos (show nI 25 = 25 from rfl)]
    | succ d ih =>
      intro i hi
      rw [q_X12_hasSquare_2]
      simp -implicitDefEqProofs only [tg_sI, ln_sI, tg_sL, ln_sL, tg_sR, ln_sR, tg_sC, ln_sC, ai_sI, ai_sL, gL_sI, gR_sI, gI_sL, gR_sL, gI_sR, gL_sR, gI_sI, gL_sL, gR_sR, zlt_e, zln_e, zli_e, zll_e, zbI_e, zbL_e, zbR_e, zbV_e, zeR_e, zeN_s, zeN_n, Nat.reduceEqDiff, and_self, and_true, true_and, and_false, false_and, ite_true, ite_false, reduceIte, tg_176 hS, h.2.2.1, gR_176_61 hS]
      rw [if_neg (nI_ge (show i < W.length by omega) (by omega)), if_pos (ai_nI (.inl (tg_226 hS)) (ln_226 hS) (by omega) (by omega)), nI_1, ih (i + 1) (by omega)]
      split <;> rfl
  exact key k 0 (by omega)
theorem sq_at (W p : List Nat) : (W ++ [25] ++ p.reverse).getD W.length 0 = 25 := by
  rw [List.getD_eq_getElem?_getD, List.getElem?_append_left (by simp), List.getElem?_append_right (Nat.le_refl _)]
  simp
/-- the loop that drops to [ -/
theorem lpSq : ∀ (p L : List Nat) (β : zS), SV t n β0 β st (W ++ [25] ++ p.reverse) (O + 1) L b → sm (W ++ [25] ++ p.reverse) L → (∀ x, x ∈ p → x = 14 ∨ x = 15) → ∃ β', zR 4 230 16 [some (.ref 176)] [] β = zbV (zM 228 [.ref 176] β') (fun σ5 => zR 4 230 0 [some (.ref 176)] [] σ5) ∧ SV t n β0 β' st W O (L ++ p) b := by
  intro p
  induction p with
  | nil =>
    intro L β h hs hp
    rw [List.reverse_nil, List.append_nil] at h hs
    rw [List.append_nil]
    have hS := RS_sh h.1
    have i1 : zM 218 [.ref 176, .int 25] β = _ := v_isOn h hs (d := 25) (by decide)
    simp only [last_c] at i1
    refine ⟨_, ?_, v_open (v_pop h).1 O⟩
    rw [q_X12_goesOnTest_16]
    simp -implicitDefEqProofs only [tg_sI, ln_sI, tg_sL, ln_sL, tg_sR, ln_sR, tg_sC, ln_sC, ai_sI, ai_sL, gL_sI, gR_sI, gI_sL, gR_sL, gI_sR, gL_sR, gI_sI, gL_sL, gR_sR, zlt_e, zln_e, zli_e, zll_e, zbI_e, zbL_e, zbR_e, zbV_e, zeR_e, zeN_s, zeN_n, Nat.reduceEqDiff, and_self, and_true, true_and, and_false, false_and, ite_true, ite_false, reduceIte, tg_176 hS, i1, bI_0, h.2.2.1, pop_n, h.2.2.2.2.1, nI_pred]
    rw [if_neg (by decide)]
  | cons x q ih =>
    intro L β h hs hp
    rw [rev_c] at h hs
    have hS := RS_sh h.1
    have i1 : zM 218 [.ref 176, .int 25] β = _ := v_isOn h hs (d := 25) (by decide)
    have hx := hp x (by simp)
    simp only [last_c] at i1
    rw [decide_eq_false (show ¬ x = 25 by omega)] at i1
    obtain ⟨β2, d1, d2⟩ := v_drops h hs
    obtain ⟨β', k1, k2⟩ := ih (L ++ [x]) β2 d2 (sm_drop hs) (fun y hy => hp y (by simp [hy]))
    refine ⟨β', ?_, by rw [app_c L x q]; exact k2⟩
    rw [q_X12_goesOnTest_16]
    simp -implicitDefEqProofs only [tg_sI, ln_sI, tg_sL, ln_sL, tg_sR, ln_sR, tg_sC, ln_sC, ai_sI, ai_sL, gL_sI, gR_sI, gI_sL, gR_sL, gI_sR, gL_sR, gI_sI, gL_sL, gR_sR, zlt_e, zln_e, zli_e, zll_e, zbI_e, zbL_e, zbR_e, zbV_e, zeR_e, zeN_s, zeN_n, Nat.reduceEqDiff, and_self, and_true, true_and, and_false, false_and, ite_true, ite_false, reduceIte, tg_176 hS, i1, bI_0, d1, k1]
/-- ] that closes -/
theorem td_close {s e : Nat} (h : SV t n β0 β (.inl (s, e)) (W ++ [25] ++ p.reverse) (O + 1) L b) (hs : sm (W ++ [25] ++ p.reverse) L) (hl : ls t n (.inl (s, e)) = 93) (hp : ∀ x, x ∈ p → x = 14 ∨ x = 15) : ∃ β', TB l2 β = TE l2 β' ∧ SV t n β0 β' (la t n (.inl (s, e))) W O (L ++ p) b := by
  have hS := RS_sh h.1
  have h256 := h.1.1.2.2.1
  obtain ⟨hsn, hk3, -⟩ := ls_of (c := 93) (by decide) hl
  have v1 := SV_look h
  have hS1 := RS_sh v1.1
  have sq := sq_yes v1 hs (k := W.length) (by simp) (sq_at W p)
  have v2 : SV t n β0 (sI (sI β 176 2 (nI s)) 176 2 (nI (s + 1))) (la t n (.inl (s, e))) (W ++ [25] ++ p.reverse) (O + 1) L b := SV_at v1 (RS_at1 v1.1 hsn hk3)
  obtain ⟨β3, k1, k2⟩ := lpSq p L _ v2 hs hp
  have hS3 := RS_sh k2.1
  refine ⟨β3, ?_, k2⟩
  have e1 : TB l2 β = TG l2 (zbV (zM 228 [.ref 176] β3) (fun σ5 => zR 4 230 0 [some (.ref 176)] [] σ5)) := by
    unfold TB
    rw [q_X12_goesOnTest_0]
    simp -implicitDefEqProofs only [tg_sI, ln_sI, tg_sL, ln_sL, tg_sR, ln_sR, tg_sC, ln_sC, ai_sI, ai_sL, gL_sI, gR_sI, gI_sL, gR_sL, gI_sR, gL_sR, gI_sI, gL_sL, gR_sR, zlt_e, zln_e, zli_e, zll_e, zbI_e, zbL_e, zbR_e, zbV_e, zeR_e, zeN_s, zeN_n, Nat.reduceEqDiff, and_self, and_true, true_and, and_false, false_and, ite_true, ite_false, reduceIte, tg_176 hS, live_5 h.1 rfl, r_look h.1]
    rw [if_pos (show (if s < n then nI (t s) else -1) = (93 : Int32) from (look_is (c := 93) h256 (by decide) (by decide)).mpr hl), sq]
    simp -implicitDefEqProofs only [tg_sI, ln_sI, tg_sL, ln_sL, tg_sR, ln_sR, tg_sC, ln_sC, ai_sI, ai_sL, gL_sI, gR_sI, gI_sL, gR_sL, gI_sR, gL_sR, gI_sI, gL_sL, gR_sR, zlt_e, zln_e, zli_e, zll_e, zbI_e, zbL_e, zbR_e, zbV_e, zeR_e, zeN_s, zeN_n, Nat.reduceEqDiff, and_self, and_true, true_and, and_false, false_and, ite_true, ite_false, reduceIte, tg_176 hS, nI_1]
    rw [if_neg (by decide), k1]
  rw [e1]
  -- the same from here on, in its own frame
  unfold TE TG
  rw [q_X12_test_42, tg_176 hS3, if_pos rfl]
  cases hz : zM 228 [.ref 176] β3 with
  | none => rfl
  | some r =>
    obtain ⟨v, σ⟩ := r
    have hS4 : Sh σ := zM_sh rfl hS3 hz
    have h5 : gI σ 176 5 = 0 := by
      have := zM_ke hz
      rw [this.gI (tg_176 hS3) (by decide) rfl]
      exact live_5 k2.1 rfl
    cases v with
    | some w => rfl
    | none =>
      simp -implicitDefEqProofs only [tg_sI, ln_sI, tg_sL, ln_sL, tg_sR, ln_sR, tg_sC, ln_sC, ai_sI, ai_sL, gL_sI, gR_sI, gI_sL, gR_sL, gI_sR, gL_sR, gI_sI, gL_sL, gR_sR, zlt_e, zln_e, zli_e, zll_e, zbI_e, zbL_e, zbR_e, zbV_e, zeR_e, zeN_s, zeN_n, Nat.reduceEqDiff, and_self, and_true, true_and, and_false, false_and, ite_true, ite_false, reduceIte, tg_176 hS4, h5]
      rw [q_X12_goesOnTest, q_X12_goesOnTest_0]
      rfl
/-- past ] where it closes nothing or isn't there, and past the words -/
theorem td_past {s e : Nat} (h : SV t n β0 β (.inl (s, e)) W O L b) (hc : ls t n (.inl (s, e)) ≠ 93 ∨ zM 227 [.ref 176] (sI β 176 2 (nI s)) = some (some (.int 0), sI β 176 2 (nI s))) : TB l2 β = TG l2 (if tg (sI β 176 2 (nI s)) 176 = 13 then zeR none (gR (sI β 176 2 (nI s)) 176 32) (fun q6 => if tg (sI β 176 2 (nI s)) 176 = 13 then zbI (zM 196 [.ref 176, .ref q6] (sI β 176 2 (nI s))) (fun x7 σ7 => if x7 = 0 then (zR 4 230 64 [some (.ref 176)] [] σ7) else (zR 4 230 43 [some (.ref 176)] [] σ7)) else none) else none) := by
  have hS := RS_sh h.1
  have h256 := h.1.1.2.2.1
  unfold TB
  rw [q_X12_goesOnTest_0]
  simp -implicitDefEqProofs only [tg_sI, ln_sI, tg_sL, ln_sL, tg_sR, ln_sR, tg_sC, ln_sC, ai_sI, ai_sL, gL_sI, gR_sI, gI_sL, gR_sL, gI_sR, gL_sR, gI_sI, gL_sL, gR_sR, zlt_e, zln_e, zli_e, zll_e, zbI_e, zbL_e, zbR_e, zbV_e, zeR_e, zeN_s, zeN_n, Nat.reduceEqDiff, and_self, and_true, true_and, and_false, false_and, ite_true, ite_false, reduceIte, tg_176 hS, live_5 h.1 rfl, r_look h.1]
  by_cases q : ls t n (.inl (s, e)) = 93
  · rcases hc with z | z
    · exact absurd q z
    · rw [if_pos (show (if s < n then nI (t s) else -1) = (93 : Int32) from (look_is (c := 93) h256 (by decide) (by decide)).mpr q), z]
      simp -implicitDefEqProofs only [tg_sI, ln_sI, tg_sL, ln_sL, tg_sR, ln_sR, tg_sC, ln_sC, ai_sI, ai_sL, gL_sI, gR_sI, gI_sL, gR_sL, gI_sR, gL_sR, gI_sI, gL_sL, gR_sR, zlt_e, zln_e, zli_e, zll_e, zbI_e, zbL_e, zbR_e, zbV_e, zeR_e, zeN_s, zeN_n, Nat.reduceEqDiff, and_self, and_true, true_and, and_false, false_and, ite_true, ite_false, reduceIte, tg_176 hS]
  · rw [if_neg (show ¬ (if s < n then nI (t s) else -1) = (93 : Int32) from fun z => q ((look_is (c := 93) h256 (by decide) (by decide)).mp z))]
end
