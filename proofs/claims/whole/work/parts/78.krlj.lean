/-! parts of a sum, both at once: the theorem -/
section
variable {t : Nat → Nat} {n : Nat} {α α' α1 β β0 β' β1 γ : zS} {st st1 : lx} {L W p : List Nat} {c O b f : Nat} {was : Int32} {u1 u2 u3 u4 : Option Value}
/-- the reference opens ( -/
theorem ka_open {s e : Nat} (h : RS β t n (.inl (s, e))) (hQ : SQ β W O L b) (hs : sm W L) (ho : O ≤ 6) (hl : ls t n (.inl (s, e)) = 40) : (O < 6 → ∃ u2' β', KA was u2 u3 u4 β = KA was u2' u3 u4 β' ∧ SV t n β β' (la t n (.inl (s, e))) (W ++ [20]) (O + 1) L b) ∧ (O = 6 → ∃ β', KA was u2 u3 u4 β = some (none, β') ∧ SD t n β β' (.inr (4, s))) := by
  have hS := RS_sh h
  have h256 := h.1.2.2.1
  have h16 := h.1.2.1
  obtain ⟨hsn, hk3, -⟩ := ls_of (c := 40) (by decide) hl
  have v1 := SV_look (SV_0 h hQ)
  have hS1 := RS_sh v1.1
  obtain ⟨k1, k2⟩ := v_opens (q := s) v1 hs ho 20 (by omega) rfl
  have hk : (if s < n then nI (t s) else -1) = (40 : Int32) := (look_is (c := 40) h256 (by decide) (by decide)).mpr hl
  constructor
  · intro h6
    obtain ⟨β2, a1, a2, a3⟩ := k1 h6
    have hS2 := RS_sh a2.1
    have a1 : zM 217 [.ref 176, .int 20, .int (nI s)] (sI β 176 2 (nI s)) = some (none, β2) := a1
    rw [gI_sI, if_pos ⟨rfl, rfl⟩] at a3
    refine ⟨some (.int 40), sI β2 176 2 (nI (s + 1)), ?_, SV_at a2 (RS_at1 a2.1 hsn hk3)⟩
    unfold KA
    rw [q_X12_onePart_2, if_neg (by decide)]
    simp -implicitDefEqProofs only [tg_sI, ln_sI, tg_sL, ln_sL, tg_sR, ln_sR, tg_sC, ln_sC, ai_sI, ai_sL, gL_sI, gR_sI, gI_sL, gR_sL, gI_sR, gL_sR, gI_sI, gL_sL, gR_sR, zlt_e, zln_e, zli_e, zll_e, zbI_e, zbL_e, zbR_e, zbV_e, zeR_e, zeN_s, zeN_n, Nat.reduceEqDiff, and_self, and_true, true_and, and_false, false_and, ite_true, ite_false, reduceIte, tg_176 hS, bad_live h, r_look h]
    rw [hk, if_pos rfl, a1]
    simp -implicitDefEqProofs only [tg_sI, ln_sI, tg_sL, ln_sL, tg_sR, ln_sR, tg_sC, ln_sC, ai_sI, ai_sL, gL_sI, gR_sI, gI_sL, gR_sL, gI_sR, gL_sR, gI_sI, gL_sL, gR_sR, zlt_e, zln_e, zli_e, zll_e, zbI_e, zbL_e, zbR_e, zbV_e, zeR_e, zeN_s, zeN_n, Nat.reduceEqDiff, and_self, and_true, true_and, and_false, false_and, ite_true, ite_false, reduceIte, tg_176 hS2, a3, nI_1]
  · intro h6
    obtain ⟨β2, a1, a2⟩ := k2 h6
    have hS2 := RS_sh a2.1
    have a1 : zM 217 [.ref 176, .int 20, .int (nI s)] (sI β 176 2 (nI s)) = some (none, β2) := a1
    have a2 : SV t n β β2 (.inr (4, s)) W O L b := a2
    have hd5 : ∀ v, ¬ gI (sI β2 176 2 v) 176 5 = 0 := fun v => by
      rw [gI_sI, if_neg (by omega)]
      exact dead_5 a2.1 (fun q => by cases q)
    have a4 : SV t n β (sI β2 176 2 ((gI β2 176 2) + 1)) (.inr (4, s)) W O L b := by
      refine SV_at a2 ?_
      obtain ⟨r1, r2, r3⟩ := a2.1
      refine ⟨RC_at r1 (by decide), r2, ?_, ?_⟩
      · rw [gI_sI, if_neg (by omega)]; exact r3.1
      · rw [gI_sI, if_neg (by omega)]; exact r3.2
    have hS4 := RS_sh a4.1
    refine ⟨sI (sI β2 176 2 ((gI β2 176 2) + 1)) 176 69 was, ?_, SD_was (SD_of a4 hs)⟩
    unfold KA
    rw [q_X12_onePart_2, if_neg (by decide)]
    simp -implicitDefEqProofs only [tg_sI, ln_sI, tg_sL, ln_sL, tg_sR, ln_sR, tg_sC, ln_sC, ai_sI, ai_sL, gL_sI, gR_sI, gI_sL, gR_sL, gI_sR, gL_sR, gI_sI, gL_sL, gR_sR, zlt_e, zln_e, zli_e, zll_e, zbI_e, zbL_e, zbR_e, zbV_e, zeR_e, zeN_s, zeN_n, Nat.reduceEqDiff, and_self, and_true, true_and, and_false, false_and, ite_true, ite_false, reduceIte, tg_176 hS, bad_live h, r_look h]
    rw [hk, if_pos rfl, a1]
    simp -implicitDefEqProofs only [tg_sI, ln_sI, tg_sL, ln_sL, tg_sR, ln_sR, tg_sC, ln_sC, ai_sI, ai_sL, gL_sI, gR_sI, gI_sL, gR_sL, gI_sR, gL_sR, gI_sI, gL_sL, gR_sR, zlt_e, zln_e, zli_e, zll_e, zbI_e, zbL_e, zbR_e, zbV_e, zeR_e, zeN_s, zeN_n, Nat.reduceEqDiff, and_self, and_true, true_and, and_false, false_and, ite_true, ite_false, reduceIte, tg_176 hS2]
    rw [q_X12_onePart_2, if_neg (by decide), tg_176 hS4, if_pos rfl, if_neg (hd5 _), q_X12_onePart_73, tg_176 hS4, if_pos rfl, if_neg (hd5 _)]
    simp -implicitDefEqProofs only [tg_sI, ln_sI, tg_sL, ln_sL, tg_sR, ln_sR, tg_sC, ln_sC, ai_sI, ai_sL, gL_sI, gR_sI, gI_sL, gR_sL, gI_sR, gL_sR, gI_sI, gL_sL, gR_sR, zlt_e, zln_e, zli_e, zll_e, zbI_e, zbL_e, zbR_e, zbV_e, zeR_e, zeN_s, zeN_n, Nat.reduceEqDiff, and_self, and_true, true_and, and_false, false_and, ite_true, ite_false, reduceIte]
    exact KC_d hS4 (hd5 _)
/-- the reference at min or max, and the bracket behind -/
theorem ka_mm {s e w : Nat} (h : RS β t n (.inl (s, e))) (hQ : SQ β W O L b) (hs : sm W L) (ho : O ≤ 6) (hw : lw t n (.inl (s, e)) = w) (hw2 : w = 33 ∨ w = 34) : (ls t n (la t n (.inl (s, e))) ≠ 40 → ∃ β', KA was u2 u3 u4 β = some (none, β') ∧ SD t n β β' (.inr (1, lp (la t n (.inl (s, e)))))) ∧ (ls t n (la t n (.inl (s, e))) = 40 → (O < 6 → ∃ u2' u3' u4' β', KA was u2 u3 u4 β = KA was u2' u3' u4' β' ∧ SV t n β β' (la t n (la t n (.inl (s, e)))) (W ++ [w - 12]) (O + 1) L b) ∧ (O = 6 → ∃ β', KA was u2 u3 u4 β = some (none, β') ∧ SD t n β β' (.inr (4, lp (la t n (.inl (s, e))))))) := by
  have hS := RS_sh h
  have h256 := h.1.2.2.1
  have h16 := h.1.2.1
  have hno := own_not (t := t) (n := n) (s := s) (e := e) (by omega)
  have hk : ¬ (if s < n then nI (t s) else -1) = (40 : Int32) := fun z => by have := (look_is (s := s) (e := e) (c := 40) h256 (by decide) (by decide)).mp z; omega
  have v1 := SV_look (SV_0 h hQ)
  have hS1 := RS_sh v1.1
  have k1 := r_isHere (w := 33) (by decide) v1.1
  have k1 : zM 195 [.ref 176, .ref 211] (sI β 176 2 (nI s)) = some (some (.int (if owT t n s e = 33 then 1 else 0)), sI (sI β 176 2 (nI s)) 176 2 (nI s)) := k1
  have k2 := r_isHere (w := 34) (by decide) v1.1
  have k2 : zM 195 [.ref 176, .ref 212] (sI β 176 2 (nI s)) = some (some (.int (if owT t n s e = 34 then 1 else 0)), sI (sI β 176 2 (nI s)) 176 2 (nI s)) := k2
  rw [sI_same] at k1 k2
  have how : owT t n s e = w := hw
  rw [how] at k1 k2
  -- the word is taken: where that leads
  have key : ∃ β2 x, KA was u2 u3 u4 β = zbV (zbI (zM 194 [.ref 176] β2) (fun x6 σ6 => if x6 = 40 then (if tg σ6 176 = 13 then zR 5 223 54 [some (.ref 176), some (.int 1), some (.int (if s < n then nI (t s) else -1)), some (.int x), u4] [.int (gI σ6 176 2)] σ6 else none) else (zR 5 223 54 [some (.ref 176), some (.int 1), some (.int (if s < n then nI (t s) else -1)), some (.int x), u4] [.int (-1)] σ6))) (fun σ1 => KC was σ1) ∧ SV t n β β2 (la t n (.inl (s, e))) W O L b ∧ ((x = 0 ∧ w = 34) ∨ (x = 1 ∧ w = 33)) := by
    rcases hw2 with rfl | rfl
    · obtain ⟨β2, r1, r2, r3, r4⟩ := r_yes (w := 33) (by decide) v1.1 hw
      have r1 : zM 196 [.ref 176, .ref 211] (sI β 176 2 (nI s)) = some (some (.int 1), β2) := r1
      refine ⟨β2, 1, ?_, SV_rd v1 rfl (by decide +kernel) r1 r2, .inr ⟨rfl, rfl⟩⟩
      unfold KA
      rw [q_X12_onePart_2, if_neg (by decide)]
      simp -implicitDefEqProofs only [tg_sI, ln_sI, tg_sL, ln_sL, tg_sR, ln_sR, tg_sC, ln_sC, ai_sI, ai_sL, gL_sI, gR_sI, gI_sL, gR_sL, gI_sR, gL_sR, gI_sI, gL_sL, gR_sR, zlt_e, zln_e, zli_e, zll_e, zbI_e, zbL_e, zbR_e, zbV_e, zeR_e, zeN_s, zeN_n, Nat.reduceEqDiff, and_self, and_true, true_and, and_false, false_and, ite_true, ite_false, reduceIte, tg_176 hS, bad_live h, r_look h]
      rw [if_neg hk]
      simp -implicitDefEqProofs only [tg_sI, ln_sI, tg_sL, ln_sL, tg_sR, ln_sR, tg_sC, ln_sC, ai_sI, ai_sL, gL_sI, gR_sI, gI_sL, gR_sL, gI_sR, gL_sR, gI_sI, gL_sL, gR_sR, zlt_e, zln_e, zli_e, zll_e, zbI_e, zbL_e, zbR_e, zbV_e, zeR_e, zeN_s, zeN_n, Nat.reduceEqDiff, and_self, and_true, true_and, and_false, false_and, ite_true, ite_false, reduceIte, gR_176_43 hS]
      rw [k1]
      simp -implicitDefEqProofs only [tg_sI, ln_sI, tg_sL, ln_sL, tg_sR, ln_sR, tg_sC, ln_sC, ai_sI, ai_sL, gL_sI, gR_sI, gI_sL, gR_sL, gI_sR, gL_sR, gI_sI, gL_sL, gR_sR, zlt_e, zln_e, zli_e, zll_e, zbI_e, zbL_e, zbR_e, zbV_e, zeR_e, zeN_s, zeN_n, Nat.reduceEqDiff, and_self, and_true, true_and, and_false, false_and, ite_true, ite_false, reduceIte]
      rw [if_neg (by decide), q_X12_onePart_35]
      simp -implicitDefEqProofs only [tg_sI, ln_sI, tg_sL, ln_sL, tg_sR, ln_sR, tg_sC, ln_sC, ai_sI, ai_sL, gL_sI, gR_sI, gI_sL, gR_sL, gI_sR, gL_sR, gI_sI, gL_sL, gR_sR, zlt_e, zln_e, zli_e, zll_e, zbI_e, zbL_e, zbR_e, zbV_e, zeR_e, zeN_s, zeN_n, Nat.reduceEqDiff, and_self, and_true, true_and, and_false, false_and, ite_true, ite_false, reduceIte, tg_176 hS, gR_176_43 hS]
      rw [r1]
      simp -implicitDefEqProofs only [tg_sI, ln_sI, tg_sL, ln_sL, tg_sR, ln_sR, tg_sC, ln_sC, ai_sI, ai_sL, gL_sI, gR_sI, gI_sL, gR_sL, gI_sR, gL_sR, gI_sI, gL_sL, gR_sR, zlt_e, zln_e, zli_e, zll_e, zbI_e, zbL_e, zbR_e, zbV_e, zeR_e, zeN_s, zeN_n, Nat.reduceEqDiff, and_self, and_true, true_and, and_false, false_and, ite_true, ite_false, reduceIte, tg_176 r4]
      rw [if_neg (by decide)]
    · obtain ⟨b1, x1, x2, x3, x4, x5⟩ := r_no (w := 33) (by decide) v1.1 (by rw [hw]; decide)
      have x1 : zM 196 [.ref 176, .ref 211] (sI β 176 2 (nI s)) = some (some (.int 0), b1) := x1
      have v2 := SV_rd v1 rfl (by decide +kernel) x1 x2
      obtain ⟨β2, r1, r2⟩ := r_asks (w := 34) (by decide) x2
      have r1 : zM 197 [.ref 176, .ref 212] b1 = some (none, β2) := r1
      have hla : lW t n 34 (.inl (s, e)) = la t n (.inl (s, e)) := by unfold lW; rw [if_pos hw]
      rw [hla] at r2
      refine ⟨β2, 0, ?_, SV_rd v2 rfl (by decide +kernel) r1 r2, .inl ⟨rfl, rfl⟩⟩
      unfold KA
      rw [q_X12_onePart_2, if_neg (by decide)]
      simp -implicitDefEqProofs only [tg_sI, ln_sI, tg_sL, ln_sL, tg_sR, ln_sR, tg_sC, ln_sC, ai_sI, ai_sL, gL_sI, gR_sI, gI_sL, gR_sL, gI_sR, gL_sR, gI_sI, gL_sL, gR_sR, zlt_e, zln_e, zli_e, zll_e, zbI_e, zbL_e, zbR_e, zbV_e, zeR_e, zeN_s, zeN_n, Nat.reduceEqDiff, and_self, and_true, true_and, and_false, false_and, ite_true, ite_false, reduceIte, tg_176 hS, bad_live h, r_look h]
      rw [if_neg hk]
      simp -implicitDefEqProofs only [tg_sI, ln_sI, tg_sL, ln_sL, tg_sR, ln_sR, tg_sC, ln_sC, ai_sI, ai_sL, gL_sI, gR_sI, gI_sL, gR_sL, gI_sR, gL_sR, gI_sI, gL_sL, gR_sR, zlt_e, zln_e, zli_e, zll_e, zbI_e, zbL_e, zbR_e, zbV_e, zeR_e, zeN_s, zeN_n, Nat.reduceEqDiff, and_self, and_true, true_and, and_false, false_and, ite_true, ite_false, reduceIte, gR_176_43 hS]
      rw [k1]
      simp -implicitDefEqProofs only [tg_sI, ln_sI, tg_sL, ln_sL, tg_sR, ln_sR, tg_sC, ln_sC, ai_sI, ai_sL, gL_sI, gR_sI, gI_sL, gR_sL, gI_sR, gL_sR, gI_sI, gL_sL, gR_sR, zlt_e, zln_e, zli_e, zll_e, zbI_e, zbL_e, zbR_e, zbV_e, zeR_e, zeN_s, zeN_n, Nat.reduceEqDiff, and_self, and_true, true_and, and_false, false_and, ite_true, ite_false, reduceIte]
      simp -implicitDefEqProofs only [tg_sI, ln_sI, tg_sL, ln_sL, tg_sR, ln_sR, tg_sC, ln_sC, ai_sI, ai_sL, gL_sI, gR_sI, gI_sL, gR_sL, gI_sR, gL_sR, gI_sI, gL_sL, gR_sR, zlt_e, zln_e, zli_e, zll_e, zbI_e, zbL_e, zbR_e, zbV_e, zeR_e, zeN_s, zeN_n, Nat.reduceEqDiff, and_self, and_true, true_and, and_false, false_and, ite_true, ite_false, reduceIte, q_X12_onePart_30, tg_176 hS, gR_176_44 hS]
      rw [k2]
      simp -implicitDefEqProofs only [tg_sI, ln_sI, tg_sL, ln_sL, tg_sR, ln_sR, tg_sC, ln_sC, ai_sI, ai_sL, gL_sI, gR_sI, gI_sL, gR_sL, gI_sR, gL_sR, gI_sI, gL_sL, gR_sR, zlt_e, zln_e, zli_e, zll_e, zbI_e, zbL_e, zbR_e, zbV_e, zeR_e, zeN_s, zeN_n, Nat.reduceEqDiff, and_self, and_true, true_and, and_false, false_and, ite_true, ite_false, reduceIte]
      rw [if_neg (by decide), q_X12_onePart_35]
      simp -implicitDefEqProofs only [tg_sI, ln_sI, tg_sL, ln_sL, tg_sR, ln_sR, tg_sC, ln_sC, ai_sI, ai_sL, gL_sI, gR_sI, gI_sL, gR_sL, gI_sR, gL_sR, gI_sI, gL_sL, gR_sR, zlt_e, zln_e, zli_e, zll_e, zbI_e, zbL_e, zbR_e, zbV_e, zeR_e, zeN_s, zeN_n, Nat.reduceEqDiff, and_self, and_true, true_and, and_false, false_and, ite_true, ite_false, reduceIte, tg_176 hS, gR_176_43 hS]
      rw [x1]
      simp -implicitDefEqProofs only [tg_sI, ln_sI, tg_sL, ln_sL, tg_sR, ln_sR, tg_sC, ln_sC, ai_sI, ai_sL, gL_sI, gR_sI, gI_sL, gR_sL, gI_sR, gL_sR, gI_sI, gL_sL, gR_sR, zlt_e, zln_e, zli_e, zll_e, zbI_e, zbL_e, zbR_e, zbV_e, zeR_e, zeN_s, zeN_n, Nat.reduceEqDiff, and_self, and_true, true_and, and_false, false_and, ite_true, ite_false, reduceIte, tg_176 x5, gR_176_44 x5, r1, tg_176 (RS_sh r2)]
  obtain ⟨β2, x, e1, v2, hx⟩ := key
  obtain ⟨s2, e2, hla⟩ : ∃ s2 e2, la t n (.inl (s, e)) = .inl (s2, e2) := ⟨_, _, rfl⟩
  rw [hla] at v2 ⊢
  have hS2 := RS_sh v2.1
  have hs2 : s2 ≤ n := v2.1.2.1.1
  have v3 := SV_look v2
  have hS3 := RS_sh v3.1
  rw [e1, r_look v2.1]
  simp -implicitDefEqProofs only [tg_sI, ln_sI, tg_sL, ln_sL, tg_sR, ln_sR, tg_sC, ln_sC, ai_sI, ai_sL, gL_sI, gR_sI, gI_sL, gR_sL, gI_sR, gL_sR, gI_sI, gL_sL, gR_sR, zlt_e, zln_e, zli_e, zll_e, zbI_e, zbL_e, zbR_e, zbV_e, zeR_e, zeN_s, zeN_n, Nat.reduceEqDiff, and_self, and_true, true_and, and_false, false_and, ite_true, ite_false, reduceIte, tg_176 hS2]
  constructor
  · intro hl
    have hk2 : ¬ (if s2 < n then nI (t s2) else -1) = (40 : Int32) := fun z => by exact hl ((look_is (s := s2) (e := e2) (c := 40) h256 (by decide) (by decide)).mp z)
    obtain ⟨β3, f1, f2⟩ := r_asksSign (c := 40) (by decide) (by decide) v3.1
    have f1 : zM 199 [.ref 176, .int 40] (sI β2 176 2 (nI s2)) = some (none, β3) := f1
    have hlg : lG t n 40 (.inl (s2, e2)) = .inr (1, s2) := by unfold lG; rw [if_neg hl]; rfl
    rw [hlg] at f2
    have v4 := SV_rd v3 rfl (by decide +kernel) f1 f2
    have hS4 := RS_sh f2
    have hd := dead_5 f2 (fun q => by cases q)
    refine ⟨sI β3 176 69 was, ?_, SD_was (SD_of v4 hs)⟩
    rw [if_neg hk2, q_X12_onePart_54, if_pos rfl, tg_176 hS3, if_pos rfl, f1]
    simp -implicitDefEqProofs only [tg_sI, ln_sI, tg_sL, ln_sL, tg_sR, ln_sR, tg_sC, ln_sC, ai_sI, ai_sL, gL_sI, gR_sI, gI_sL, gR_sL, gI_sR, gL_sR, gI_sI, gL_sL, gR_sR, zlt_e, zln_e, zli_e, zll_e, zbI_e, zbL_e, zbR_e, zbV_e, zeR_e, zeN_s, zeN_n, Nat.reduceEqDiff, and_self, and_true, true_and, and_false, false_and, ite_true, ite_false, reduceIte]
    rw [q_X12_onePart_2, if_neg (by decide), tg_176 hS4, if_pos rfl, if_neg hd, q_X12_onePart_73, tg_176 hS4, if_pos rfl, if_neg hd]
    simp -implicitDefEqProofs only [tg_sI, ln_sI, tg_sL, ln_sL, tg_sR, ln_sR, tg_sC, ln_sC, ai_sI, ai_sL, gL_sI, gR_sI, gI_sL, gR_sL, gI_sR, gL_sR, gI_sI, gL_sL, gR_sR, zlt_e, zln_e, zli_e, zll_e, zbI_e, zbL_e, zbR_e, zbV_e, zeR_e, zeN_s, zeN_n, Nat.reduceEqDiff, and_self, and_true, true_and, and_false, false_and, ite_true, ite_false, reduceIte]
    exact KC_d hS4 hd
  · intro hl
    obtain ⟨hsn, hk3, -⟩ := ls_of (c := 40) (by decide) hl
    have hk2 : (if s2 < n then nI (t s2) else -1) = (40 : Int32) := (look_is (s := s2) (e := e2) (c := 40) h256 (by decide) (by decide)).mpr hl
    rw [if_pos hk2, q_X12_onePart_54, if_neg (nI_nm1 (by omega))]
    obtain ⟨o1, o2⟩ := v_opens (q := s2) v3 hs ho (w - 12) (by omega) rfl
    have hx2 : (if x = 0 then (if tg (sI β2 176 2 (nI s2)) 176 = 13 then zbV (zM 217 [.ref 176, .int 22, .int (nI s2)] (sI β2 176 2 (nI s2))) (fun σ2 => if tg σ2 176 = 13 then zbV (zM 199 [.ref 176, .int 40] σ2) (fun σ3 => zR 5 223 2 [some (.ref 176), some (.int 1), some (.int (if s < n then nI (t s) else -1)), some (.int x), some (.int (nI s2))] [] σ3) else none) else none) else (if tg (sI β2 176 2 (nI s2)) 176 = 13 then zbV (zM 217 [.ref 176, .int 21, .int (nI s2)] (sI β2 176 2 (nI s2))) (fun σ4 => if tg σ4 176 = 13 then zbV (zM 199 [.ref 176, .int 40] σ4) (fun σ5 => zR 5 223 2 [some (.ref 176), some (.int 1), some (.int (if s < n then nI (t s) else -1)), some (.int x), some (.int (nI s2))] [] σ5) else none) else none)) = zbV (zM 217 [.ref 176, .int (nI (w - 12)), .int (nI s2)] (sI β2 176 2 (nI s2))) (fun σ4 => if tg σ4 176 = 13 then zbV (zM 199 [.ref 176, .int 40] σ4) (fun σ5 => zR 5 223 2 [some (.ref 176), some (.int 1), some (.int (if s < n then nI (t s) else -1)), some (.int x), some (.int (nI s2))] [] σ5) else none) := by
      rw [tg_176 hS3, if_pos rfl, if_pos rfl]
      rcases hx with ⟨rfl, rfl⟩ | ⟨rfl, rfl⟩
      · rw [if_pos rfl]
        rfl
      · rw [if_neg (by decide)]
        rfl
    rw [hx2]
    constructor
    · intro h6
      obtain ⟨β3, a1, a2, a3⟩ := o1 h6
      have hS4 := RS_sh a2.1
      obtain ⟨β4, f1, f2⟩ := r_asksSign (c := 40) (by decide) (by decide) a2.1
      have f1 : zM 199 [.ref 176, .int 40] β3 = some (none, β4) := f1
      have hlg : lG t n 40 (.inl (s2, e2)) = la t n (.inl (s2, e2)) := by unfold lG; rw [if_pos hl]
      rw [hlg] at f2
      refine ⟨some (.int (if s < n then nI (t s) else -1)), some (.int x), some (.int (nI s2)), β4, ?_, SV_rd a2 rfl (by decide +kernel) f1 f2⟩
      rw [a1]
      simp -implicitDefEqProofs only [tg_sI, ln_sI, tg_sL, ln_sL, tg_sR, ln_sR, tg_sC, ln_sC, ai_sI, ai_sL, gL_sI, gR_sI, gI_sL, gR_sL, gI_sR, gL_sR, gI_sI, gL_sL, gR_sR, zlt_e, zln_e, zli_e, zll_e, zbI_e, zbL_e, zbR_e, zbV_e, zeR_e, zeN_s, zeN_n, Nat.reduceEqDiff, and_self, and_true, true_and, and_false, false_and, ite_true, ite_false, reduceIte, tg_176 hS4, f1]
      rfl
    · intro h6
      obtain ⟨β3, a1, a2⟩ := o2 h6
      have a2 : SV t n β β3 (.inr (4, s2)) W O L b := a2
      have hS4 := RS_sh a2.1
      obtain ⟨β4, f1, f2⟩ := r_asksSign (c := 40) (by decide) (by decide) a2.1
      have f1 : zM 199 [.ref 176, .int 40] β3 = some (none, β4) := f1
      have hlg : lG t n 40 (.inr (4, s2)) = .inr (4, s2) := by unfold lG; split <;> rfl
      rw [hlg] at f2
      have v4 := SV_rd a2 rfl (by decide +kernel) f1 f2
      have hS5 := RS_sh f2
      have hd := dead_5 f2 (fun q => by cases q)
      refine ⟨sI β4 176 69 was, ?_, SD_was (SD_of v4 hs)⟩
      rw [a1]
      simp -implicitDefEqProofs only [tg_sI, ln_sI, tg_sL, ln_sL, tg_sR, ln_sR, tg_sC, ln_sC, ai_sI, ai_sL, gL_sI, gR_sI, gI_sL, gR_sL, gI_sR, gL_sR, gI_sI, gL_sL, gR_sR, zlt_e, zln_e, zli_e, zll_e, zbI_e, zbL_e, zbR_e, zbV_e, zeR_e, zeN_s, zeN_n, Nat.reduceEqDiff, and_self, and_true, true_and, and_false, false_and, ite_true, ite_false, reduceIte, tg_176 hS4, f1]
      rw [q_X12_onePart_2, if_neg (by decide), tg_176 hS5, if_pos rfl, if_neg hd, q_X12_onePart_73, tg_176 hS5, if_pos rfl, if_neg hd]
      simp -implicitDefEqProofs only [tg_sI, ln_sI, tg_sL, ln_sL, tg_sR, ln_sR, tg_sC, ln_sC, ai_sI, ai_sL, gL_sI, gR_sI, gI_sL, gR_sL, gI_sR, gL_sR, gI_sI, gL_sL, gR_sR, zlt_e, zln_e, zli_e, zll_e, zbI_e, zbL_e, zbR_e, zbV_e, zeR_e, zeN_s, zeN_n, Nat.reduceEqDiff, and_self, and_true, true_and, and_false, false_and, ite_true, ite_false, reduceIte]
      exact KC_d hS5 hd
end
