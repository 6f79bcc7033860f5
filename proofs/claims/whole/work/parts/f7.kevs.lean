/-! rules reckoned: the stack of the class, the pile of the reference -/
def CSt (σ : zS) (S : List Int) : Prop := gI σ 12 5 = nI S.length ∧ S.length ≤ 64 ∧ ∀ i, i < S.length → gI σ 15 (S.length - 1 - i) = eI (S.getD i 0)
def RPi (σ : zS) (S : List Int) : Prop := gI σ 176 88 = nI S.length ∧ S.length ≤ 64 ∧ ∀ i, i < S.length → gL σ 245 (S.length - 1 - i) = eL (S.getD i 0)
def XSt (r j : Nat) : Prop := r = 15 ∨ (r = 12 ∧ j = 5)
def XPi (r j : Nat) : Prop := r = 245 ∨ (r = 176 ∧ j = 88)
section
variable {σ : zS} {S : List Int} {a b x : Int}
theorem litu : (1 : Int64) = eL 1 := by decide +kernel
theorem c_psh (x : Int) (hS : Sh σ) (h : CSt σ S) (hl : S.length < 64) : ∃ σ', zM 48 [.ref 12, .int (eI x)] σ = some (none, σ') ∧ Sh σ' ∧ Un XSt σ σ' ∧ CSt σ' (x :: S) := by
  obtain ⟨h1, h2, h3⟩ := h
  have S1 : Sh (sI σ 15 S.length (eI x)) := hS.sI (by omega)
  have g5 : gI (sI σ 15 S.length (eI x)) 12 5 = nI S.length := by rw [gI_sI, if_neg (by omega)]; exact h1
  have r1 := ai_nI (σ := σ) (t := 32) (u := 32) (.inl (tg_15 hS)) (ln_15 hS) hl (by omega)
  refine ⟨sI (sI σ 15 S.length (eI x)) 12 5 (nI (S.length + 1)), ?_, S1.sI (by omega), (Un_sI (.inl rfl)).trans (Un_sI (.inr ⟨rfl, rfl⟩)), ?_, ?_, ?_⟩
  · have n64 : ¬ (64 : Int32) ≤ nI S.length := by rw [nI_leL (n := 64) (by omega) (by omega)]; omega
    rw [q_X6_push, tg_12 hS, if_pos rfl, h1, if_neg n64, if_pos rfl, gR_12_4 hS, zeR_e, if_pos rfl, if_pos r1, ixn (by omega), zlt_e, tg_12 S1, if_pos rfl, if_pos rfl, g5, nI_1, zlt_e]
  · rw [gI_sI, if_pos ⟨rfl, rfl⟩]
    rfl
  · show S.length + 1 ≤ 64
    omega
  · intro i hi
    cases i with
    | zero =>
      show gI _ 15 (S.length + 1 - 1 - 0) = eI x
      rw [show S.length + 1 - 1 - 0 = S.length by omega, gI_sI, if_neg (by omega), gI_sI, if_pos ⟨rfl, rfl⟩]
    | succ i =>
      have hi' : i + 1 < S.length + 1 := hi
      show gI _ 15 (S.length + 1 - 1 - (i + 1)) = eI (S.getD i 0)
      rw [show S.length + 1 - 1 - (i + 1) = S.length - 1 - i by omega, gI_sI, if_neg (by omega), gI_sI, if_neg (by omega)]
      exact h3 i (by omega)
theorem c_pp (hS : Sh σ) (h : CSt σ (x :: S)) : ∃ σ', zM 49 [.ref 12] σ = some (some (.int (eI x)), σ') ∧ Sh σ' ∧ Un XSt σ σ' ∧ CSt σ' S := by
  obtain ⟨h1, h2, h3⟩ := h
  have h1 : gI σ 12 5 = nI (S.length + 1) := h1
  have h2 : S.length + 1 ≤ 64 := h2
  have S1 : Sh (sI σ 12 5 (nI S.length)) := hS.sI (by omega)
  have g5 : gI (sI σ 12 5 (nI S.length)) 12 5 = nI S.length := by rw [gI_sI, if_pos ⟨rfl, rfl⟩]
  have r1 := ai_nI (σ := sI σ 12 5 (nI S.length)) (t := 32) (u := 48) (.inl (tg_15 S1)) (ln_15 S1) (k := S.length) (by omega) (by omega)
  have gx : gI (sI σ 12 5 (nI S.length)) 15 S.length = eI x := by
    rw [gI_sI, if_neg (by omega)]
    exact h3 0 (Nat.succ_pos _)
  refine ⟨sI σ 12 5 (nI S.length), ?_, S1, Un_sI (.inr ⟨rfl, rfl⟩), g5, by omega, ?_⟩
  · have n0 : ¬ nI (S.length + 1) = 0 := by
      intro z
      have e0 : (0 : Int32).toInt = 0 := rfl
      have := congrArg Int32.toInt z
      rw [nI_toInt (by omega), e0] at this
      omega
    rw [q_X6_pop, tg_12 hS, if_pos rfl, h1, if_neg n0, if_pos rfl, if_pos rfl, nI_subR (n := 1) (by omega), show S.length + 1 - 1 = S.length by omega, zlt_e, tg_12 S1, if_pos rfl, gR_12_4 S1, zeR_e, if_pos rfl, g5, if_pos r1, ixn (by omega), gx]
  · intro i hi
    have := h3 (i + 1) (Nat.succ_lt_succ hi)
    rw [gI_sI, if_neg (by omega)]
    have e : (x :: S).length - 1 - (i + 1) = S.length - 1 - i := by
      show S.length + 1 - 1 - (i + 1) = S.length - 1 - i
      omega
    rw [e] at this
    exact this
theorem r_pt (x : Int) (hS : Sh σ) (h : RPi σ S) (hl : S.length < 64) : ∃ σ', zM 266 [.ref 176, .long (eL x)] σ = some (none, σ') ∧ Sh σ' ∧ Un XPi σ σ' ∧ RPi σ' (x :: S) := by
  obtain ⟨h1, h2, h3⟩ := h
  have S1 : Sh (sL σ 245 S.length (eL x)) := hS.sL
  have g5 : gI (sL σ 245 S.length (eL x)) 176 88 = nI S.length := h1
  have r1 := ai_nI (σ := σ) (t := 36) (u := 36) (.inl (tg_245 hS)) (ln_245 hS) (k := S.length) (by omega) (by omega)
  refine ⟨sI (sL σ 245 S.length (eL x)) 176 88 (nI (S.length + 1)), ?_, S1.sI (by omega), (Un_sL (.inl rfl)).trans (Un_sI (.inr ⟨rfl, rfl⟩)), ?_, ?_, ?_⟩
  · rw [q_X12_puts, tg_176 hS, if_pos rfl, gR_176_87 hS, zeR_e, if_pos rfl, h1, if_pos r1, ixn (by omega), zlt_e, tg_176 S1, if_pos rfl, if_pos rfl, g5, nI_1, zlt_e]
  · rw [gI_sI, if_pos ⟨rfl, rfl⟩]
    rfl
  · show S.length + 1 ≤ 64
    omega
  · intro i hi
    cases i with
    | zero =>
      show gL _ 245 (S.length + 1 - 1 - 0) = eL x
      rw [show S.length + 1 - 1 - 0 = S.length by omega, gL_sI, gL_sL, if_pos ⟨rfl, rfl⟩]
    | succ i =>
      have hi' : i + 1 < S.length + 1 := hi
      show gL _ 245 (S.length + 1 - 1 - (i + 1)) = eL (S.getD i 0)
      rw [show S.length + 1 - 1 - (i + 1) = S.length - 1 - i by omega, gL_sI, gL_sL, if_neg (by omega)]
      exact h3 i (by omega)
/-- two numbers off the pile -/
theorem r_dn (h : RPi σ (b :: a :: S)) : RPi (sI σ 176 88 (nI S.length)) S := by
  obtain ⟨h1, h2, h3⟩ := h
  have h2 : S.length + 1 + 1 ≤ 64 := h2
  refine ⟨by rw [gI_sI, if_pos ⟨rfl, rfl⟩], by omega, fun i hi => ?_⟩
  have := h3 (i + 2) (Nat.succ_lt_succ (Nat.succ_lt_succ hi))
  have e : (b :: a :: S).length - 1 - (i + 2) = S.length - 1 - i := by
    show S.length + 1 + 1 - 1 - (i + 2) = S.length - 1 - i
    omega
  rw [e] at this
  exact this
/-- what joins finds -/
theorem r_jf (hS : Sh σ) (h : RPi σ (b :: a :: S)) : S.length + 2 ≤ 64 ∧ gI σ 176 88 = nI (S.length + 2) ∧ nI (S.length + 2) - 1 = nI (S.length + 1) ∧ nI (S.length + 2) - 2 = nI S.length ∧ ai σ 36 36 245 (nI (S.length + 1)) = true ∧ ai σ 36 36 245 (nI S.length) = true ∧ gL σ 245 (S.length + 1) = eL b ∧ gL σ 245 S.length = eL a := by
  obtain ⟨h1, h2, h3⟩ := h
  have h2 : S.length + 1 + 1 ≤ 64 := h2
  refine ⟨h2, h1, ?_, ?_, ai_nI (.inl (tg_245 hS)) (ln_245 hS) (by omega) (by omega), ai_nI (.inl (tg_245 hS)) (ln_245 hS) (by omega) (by omega), h3 0 (Nat.succ_pos _), h3 1 (Nat.succ_lt_succ (Nat.succ_pos _))⟩
  · rw [nI_subR (n := 1) (by omega), show S.length + 2 - 1 = S.length + 1 by omega]
  · rw [nI_subR (n := 2) (by omega), show S.length + 2 - 2 = S.length by omega]
/-- the truth on top turned -/
theorem r_nt (hS : Sh σ) (h : RPi σ (x :: S)) : RPi (sL σ 245 S.length (1 - eL x)) ((1 - x) :: S) ∧ gL σ 245 S.length = eL x ∧ nI (S.length + 1) - 1 = nI S.length ∧ ai σ 36 36 245 (nI S.length) = true ∧ gI σ 176 88 = nI (S.length + 1) := by
  obtain ⟨h1, h2, h3⟩ := h
  have h2 : S.length + 1 ≤ 64 := h2
  have e1 : 1 - eL x = eL (1 - x) := by
    rw [litu]
    exact (Int64.ofInt_sub 1 x).symm
  refine ⟨⟨h1, h2, fun i hi => ?_⟩, h3 0 (Nat.succ_pos _), ?_, ai_nI (.inl (tg_245 hS)) (ln_245 hS) (by omega) (by omega), h1⟩
  · cases i with
    | zero =>
      show gL _ 245 (S.length + 1 - 1 - 0) = eL (1 - x)
      rw [show S.length + 1 - 1 - 0 = S.length by omega, gL_sL, if_pos ⟨rfl, rfl⟩, e1]
    | succ i =>
      have hi' : i + 1 < S.length + 1 := hi
      have := h3 (i + 1) hi
      show gL _ 245 (S.length + 1 - 1 - (i + 1)) = eL (S.getD i 0)
      rw [gL_sL, if_neg (by omega)]
      exact this
  · rw [nI_subR (n := 1) (by omega), show S.length + 1 - 1 = S.length by omega]
theorem r_j1 (hS : Sh σ) (h : RPi σ (b :: a :: S)) (ha : okN a) (hb : okN b) : ∃ σ', zM 267 [.ref 176, .int 1] σ = some (none, σ') ∧ Sh σ' ∧ Un XPi σ σ' ∧ RPi σ' (opN 1 a b :: S) := by
  obtain ⟨l, h1, i1, i2, r1, r2, gb, ga⟩ := r_jf hS h
  have x1 : ix (nI (S.length + 1)) = S.length + 1 := ixn (by omega)
  have x2 : ix (nI S.length) = S.length := ixn (by omega)
  have S3 : Sh (sI σ 176 88 (nI S.length)) := hS.sI (by omega)
  obtain ⟨σ', p1, p2, p3, p4⟩ := r_pt (opN 1 a b) S3 (r_dn h) (by omega)
  refine ⟨σ', ?_, p2, (Un_sI (.inr ⟨rfl, rfl⟩)).trans p3, p4⟩
  rw [q_X12_joins]
  simp -implicitDefEqProofs only [tg_sI, ln_sI, tg_sL, ln_sL, tg_sR, ln_sR, tg_sC, ln_sC, ai_sI, ai_sL, gL_sI, gR_sI, gI_sL, gR_sL, gI_sR, gL_sR, gI_sI, gL_sL, gR_sR, zlt_e, zln_e, zli_e, zll_e, zbI_e, zbL_e, zbR_e, zbV_e, zeR_e, zeN_s, zeN_n, Nat.reduceEqDiff, and_self, and_true, true_and, and_false, false_and, ite_true, ite_false, reduceIte, tg_176 hS, gR_176_87 hS, h1, i1, i2, r1, r2, x1, x2, gb, ga]
  rw [show eL a + eL b = eL (a + b) from (Int64.ofInt_add a b).symm, r_clip (show wdN (a + b) by unfold wdN; unfold okN at ha hb; omega), zbL_e, tg_176 S3, if_pos rfl, ← opN_1 a b, p1, zbV_e, q_X12_joins_30, q_X12_joins_118]
theorem r_j2 (hS : Sh σ) (h : RPi σ (b :: a :: S)) (ha : okN a) (hb : okN b) : ∃ σ', zM 267 [.ref 176, .int 2] σ = some (none, σ') ∧ Sh σ' ∧ Un XPi σ σ' ∧ RPi σ' (opN 2 a b :: S) := by
  obtain ⟨l, h1, i1, i2, r1, r2, gb, ga⟩ := r_jf hS h
  have x1 : ix (nI (S.length + 1)) = S.length + 1 := ixn (by omega)
  have x2 : ix (nI S.length) = S.length := ixn (by omega)
  have S3 : Sh (sI σ 176 88 (nI S.length)) := hS.sI (by omega)
  obtain ⟨σ', p1, p2, p3, p4⟩ := r_pt (opN 2 a b) S3 (r_dn h) (by omega)
  refine ⟨σ', ?_, p2, (Un_sI (.inr ⟨rfl, rfl⟩)).trans p3, p4⟩
  rw [q_X12_joins]
  simp -implicitDefEqProofs only [tg_sI, ln_sI, tg_sL, ln_sL, tg_sR, ln_sR, tg_sC, ln_sC, ai_sI, ai_sL, gL_sI, gR_sI, gI_sL, gR_sL, gI_sR, gL_sR, gI_sI, gL_sL, gR_sR, zlt_e, zln_e, zli_e, zll_e, zbI_e, zbL_e, zbR_e, zbV_e, zeR_e, zeN_s, zeN_n, Nat.reduceEqDiff, and_self, and_true, true_and, and_false, false_and, ite_true, ite_false, reduceIte, tg_176 hS, gR_176_87 hS, h1, i1, i2, r1, r2, x1, x2, gb, ga]
  rw [if_neg (show ¬ (2 : Int32) = 1 by decide), show eL a - eL b = eL (a - b) from (Int64.ofInt_sub a b).symm, r_clip (show wdN (a - b) by unfold wdN; unfold okN at ha hb; omega), zbL_e, tg_176 S3, if_pos rfl, ← opN_2 a b, p1, zbV_e, q_X12_joins_37, q_X12_joins_118]
theorem r_j3 (hS : Sh σ) (h : RPi σ (b :: a :: S)) (ha : okN a) (hb : okN b) : ∃ σ', zM 267 [.ref 176, .int 3] σ = some (none, σ') ∧ Sh σ' ∧ Un XPi σ σ' ∧ RPi σ' (opN 3 a b :: S) := by
  obtain ⟨l, h1, i1, i2, r1, r2, gb, ga⟩ := r_jf hS h
  have x1 : ix (nI (S.length + 1)) = S.length + 1 := ixn (by omega)
  have x2 : ix (nI S.length) = S.length := ixn (by omega)
  have S3 : Sh (sI σ 176 88 (nI S.length)) := hS.sI (by omega)
  obtain ⟨σ', p1, p2, p3, p4⟩ := r_pt (opN 3 a b) S3 (r_dn h) (by omega)
  refine ⟨σ', ?_, p2, (Un_sI (.inr ⟨rfl, rfl⟩)).trans p3, p4⟩
  rw [q_X12_joins]
  simp -implicitDefEqProofs only [tg_sI, ln_sI, tg_sL, ln_sL, tg_sR, ln_sR, tg_sC, ln_sC, ai_sI, ai_sL, gL_sI, gR_sI, gI_sL, gR_sL, gI_sR, gL_sR, gI_sI, gL_sL, gR_sR, zlt_e, zln_e, zli_e, zll_e, zbI_e, zbL_e, zbR_e, zbV_e, zeR_e, zeN_s, zeN_n, Nat.reduceEqDiff, and_self, and_true, true_and, and_false, false_and, ite_true, ite_false, reduceIte, tg_176 hS, gR_176_87 hS, h1, i1, i2, r1, r2, x1, x2, gb, ga]
  rw [if_neg (show ¬ (3 : Int32) = 1 by decide), if_neg (show ¬ (3 : Int32) = 2 by decide), show eL a * eL b = eL (a * b) from (Int64.ofInt_mul a b).symm, r_clip (mul_wd ha hb), zbL_e, tg_176 S3, if_pos rfl, ← opN_3 a b, p1, zbV_e, q_X12_joins_44, q_X12_joins_118]
theorem r_j4 (hS : Sh σ) (h : RPi σ (b :: a :: S)) (ha : okN a) (hb : okN b) : ∃ σ', zM 267 [.ref 176, .int 4] σ = some (none, σ') ∧ Sh σ' ∧ Un XPi σ σ' ∧ RPi σ' (opN 4 a b :: S) := by
  obtain ⟨l, h1, i1, i2, r1, r2, gb, ga⟩ := r_jf hS h
  have x1 : ix (nI (S.length + 1)) = S.length + 1 := ixn (by omega)
  have x2 : ix (nI S.length) = S.length := ixn (by omega)
  have S3 : Sh (sI σ 176 88 (nI S.length)) := hS.sI (by omega)
  obtain ⟨σ', p1, p2, p3, p4⟩ := r_pt (opN 4 a b) S3 (r_dn h) (by omega)
  refine ⟨σ', ?_, p2, (Un_sI (.inr ⟨rfl, rfl⟩)).trans p3, p4⟩
  rw [q_X12_joins]
  simp -implicitDefEqProofs only [tg_sI, ln_sI, tg_sL, ln_sL, tg_sR, ln_sR, tg_sC, ln_sC, ai_sI, ai_sL, gL_sI, gR_sI, gI_sL, gR_sL, gI_sR, gL_sR, gI_sI, gL_sL, gR_sR, zlt_e, zln_e, zli_e, zll_e, zbI_e, zbL_e, zbR_e, zbV_e, zeR_e, zeN_s, zeN_n, Nat.reduceEqDiff, and_self, and_true, true_and, and_false, false_and, ite_true, ite_false, reduceIte, tg_176 hS, gR_176_87 hS, h1, i1, i2, r1, r2, x1, x2, gb, ga]
  rw [if_neg (show ¬ (4 : Int32) = 1 by decide), if_neg (show ¬ (4 : Int32) = 2 by decide), if_neg (show ¬ (4 : Int32) = 3 by decide), r_floor ha hb, zbL_e, tg_176 S3, if_pos rfl, ← opN_4 a b, p1, zbV_e, q_X12_joins_50, q_X12_joins_118]
theorem r_j5 (hS : Sh σ) (h : RPi σ (b :: a :: S)) (ha : okN a) (hb : okN b) : ∃ σ', zM 267 [.ref 176, .int 5] σ = some (none, σ') ∧ Sh σ' ∧ Un XPi σ σ' ∧ RPi σ' (opN 5 a b :: S) := by
  obtain ⟨l, h1, i1, i2, r1, r2, gb, ga⟩ := r_jf hS h
  have x1 : ix (nI (S.length + 1)) = S.length + 1 := ixn (by omega)
  have x2 : ix (nI S.length) = S.length := ixn (by omega)
  have S3 : Sh (sI σ 176 88 (nI S.length)) := hS.sI (by omega)
  obtain ⟨σ', p1, p2, p3, p4⟩ := r_pt (opN 5 a b) S3 (r_dn h) (by omega)
  refine ⟨σ', ?_, p2, (Un_sI (.inr ⟨rfl, rfl⟩)).trans p3, p4⟩
  rw [q_X12_joins]
  simp -implicitDefEqProofs only [tg_sI, ln_sI, tg_sL, ln_sL, tg_sR, ln_sR, tg_sC, ln_sC, ai_sI, ai_sL, gL_sI, gR_sI, gI_sL, gR_sL, gI_sR, gL_sR, gI_sI, gL_sL, gR_sR, zlt_e, zln_e, zli_e, zll_e, zbI_e, zbL_e, zbR_e, zbV_e, zeR_e, zeN_s, zeN_n, Nat.reduceEqDiff, and_self, and_true, true_and, and_false, false_and, ite_true, ite_false, reduceIte, tg_176 hS, gR_176_87 hS, h1, i1, i2, r1, r2, x1, x2, gb, ga]
  by_cases q : a < b
  · have e : opN 5 a b = a := by rw [opN_5, if_pos q]
    rw [e] at p1
    rw [if_neg (show ¬ (5 : Int32) = 1 by decide), if_neg (show ¬ (5 : Int32) = 2 by decide), if_neg (show ¬ (5 : Int32) = 3 by decide), if_neg (show ¬ (5 : Int32) = 4 by decide), if_neg (show ¬ 0 ≤ lg_cmp (eL a) (eL b) by rw [cmp_ge, eL_le (okN_wd hb) (okN_wd ha)]; omega), p1, zbV_e, q_X12_joins_118]
  · have e : opN 5 a b = b := by rw [opN_5, if_neg q]
    rw [e] at p1
    rw [if_neg (show ¬ (5 : Int32) = 1 by decide), if_neg (show ¬ (5 : Int32) = 2 by decide), if_neg (show ¬ (5 : Int32) = 3 by decide), if_neg (show ¬ (5 : Int32) = 4 by decide), if_pos (show 0 ≤ lg_cmp (eL a) (eL b) by rw [cmp_ge, eL_le (okN_wd hb) (okN_wd ha)]; omega), p1, zbV_e, q_X12_joins_118]
theorem r_j6 (hS : Sh σ) (h : RPi σ (b :: a :: S)) (ha : okN a) (hb : okN b) : ∃ σ', zM 267 [.ref 176, .int 6] σ = some (none, σ') ∧ Sh σ' ∧ Un XPi σ σ' ∧ RPi σ' (opN 6 a b :: S) := by
  obtain ⟨l, h1, i1, i2, r1, r2, gb, ga⟩ := r_jf hS h
  have x1 : ix (nI (S.length + 1)) = S.length + 1 := ixn (by omega)
  have x2 : ix (nI S.length) = S.length := ixn (by omega)
  have S3 : Sh (sI σ 176 88 (nI S.length)) := hS.sI (by omega)
  obtain ⟨σ', p1, p2, p3, p4⟩ := r_pt (opN 6 a b) S3 (r_dn h) (by omega)
  refine ⟨σ', ?_, p2, (Un_sI (.inr ⟨rfl, rfl⟩)).trans p3, p4⟩
  rw [q_X12_joins]
  simp -implicitDefEqProofs only [tg_sI, ln_sI, tg_sL, ln_sL, tg_sR, ln_sR, tg_sC, ln_sC, ai_sI, ai_sL, gL_sI, gR_sI, gI_sL, gR_sL, gI_sR, gL_sR, gI_sI, gL_sL, gR_sR, zlt_e, zln_e, zli_e, zll_e, zbI_e, zbL_e, zbR_e, zbV_e, zeR_e, zeN_s, zeN_n, Nat.reduceEqDiff, and_self, and_true, true_and, and_false, false_and, ite_true, ite_false, reduceIte, tg_176 hS, gR_176_87 hS, h1, i1, i2, r1, r2, x1, x2, gb, ga]
  by_cases q : b < a
  · have e : opN 6 a b = a := by rw [opN_6, if_pos q]
    rw [e] at p1
    rw [if_neg (show ¬ (6 : Int32) = 1 by decide), if_neg (show ¬ (6 : Int32) = 2 by decide), if_neg (show ¬ (6 : Int32) = 3 by decide), if_neg (show ¬ (6 : Int32) = 4 by decide), if_neg (show ¬ (6 : Int32) = 5 by decide), if_neg (show ¬ lg_cmp (eL a) (eL b) ≤ 0 by rw [cmp_le, eL_le (okN_wd ha) (okN_wd hb)]; omega), p1, zbV_e, q_X12_joins_118]
  · have e : opN 6 a b = b := by rw [opN_6, if_neg q]
    rw [e] at p1
    rw [if_neg (show ¬ (6 : Int32) = 1 by decide), if_neg (show ¬ (6 : Int32) = 2 by decide), if_neg (show ¬ (6 : Int32) = 3 by decide), if_neg (show ¬ (6 : Int32) = 4 by decide), if_neg (show ¬ (6 : Int32) = 5 by decide), if_pos (show lg_cmp (eL a) (eL b) ≤ 0 by rw [cmp_le, eL_le (okN_wd ha) (okN_wd hb)]; omega), p1, zbV_e, q_X12_joins_118]
theorem r_j11 (hS : Sh σ) (h : RPi σ (b :: a :: S)) (ha : okN a) (hb : okN b) : ∃ σ', zM 267 [.ref 176, .int 11] σ = some (none, σ') ∧ Sh σ' ∧ Un XPi σ σ' ∧ RPi σ' (opN 11 a b :: S) := by
  obtain ⟨l, h1, i1, i2, r1, r2, gb, ga⟩ := r_jf hS h
  have x1 : ix (nI (S.length + 1)) = S.length + 1 := ixn (by omega)
  have x2 : ix (nI S.length) = S.length := ixn (by omega)
  have S3 : Sh (sI σ 176 88 (nI S.length)) := hS.sI (by omega)
  obtain ⟨σ', p1, p2, p3, p4⟩ := r_pt (opN 11 a b) S3 (r_dn h) (by omega)
  refine ⟨σ', ?_, p2, (Un_sI (.inr ⟨rfl, rfl⟩)).trans p3, p4⟩
  rw [q_X12_joins]
  simp -implicitDefEqProofs only [tg_sI, ln_sI, tg_sL, ln_sL, tg_sR, ln_sR, tg_sC, ln_sC, ai_sI, ai_sL, gL_sI, gR_sI, gI_sL, gR_sL, gI_sR, gL_sR, gI_sI, gL_sL, gR_sR, zlt_e, zln_e, zli_e, zll_e, zbI_e, zbL_e, zbR_e, zbV_e, zeR_e, zeN_s, zeN_n, Nat.reduceEqDiff, and_self, and_true, true_and, and_false, false_and, ite_true, ite_false, reduceIte, tg_176 hS, gR_176_87 hS, h1, i1, i2, r1, r2, x1, x2, gb, ga]
  by_cases q : a < b
  · have e : opN 11 a b = 1 := by rw [opN_11, if_pos q]
    rw [e, ← litu] at p1
    rw [if_neg (show ¬ (11 : Int32) = 1 by decide), if_neg (show ¬ (11 : Int32) = 2 by decide), if_neg (show ¬ (11 : Int32) = 3 by decide), if_neg (show ¬ (11 : Int32) = 4 by decide), if_neg (show ¬ (11 : Int32) = 5 by decide), if_neg (show ¬ (11 : Int32) = 6 by decide), if_neg (show ¬ (11 : Int32) = 7 by decide), if_neg (show ¬ (11 : Int32) = 8 by decide), if_neg (show ¬ (11 : Int32) = 9 by decide), if_neg (show ¬ (11 : Int32) = 10 by decide), if_neg (show ¬ 0 ≤ lg_cmp (eL a) (eL b) by rw [cmp_ge, eL_le (okN_wd hb) (okN_wd ha)]; omega), p1, zbV_e, q_X12_joins_118]
  · have e : opN 11 a b = 0 := by rw [opN_11, if_neg q]
    rw [e, ← litz] at p1
    rw [if_neg (show ¬ (11 : Int32) = 1 by decide), if_neg (show ¬ (11 : Int32) = 2 by decide), if_neg (show ¬ (11 : Int32) = 3 by decide), if_neg (show ¬ (11 : Int32) = 4 by decide), if_neg (show ¬ (11 : Int32) = 5 by decide), if_neg (show ¬ (11 : Int32) = 6 by decide), if_neg (show ¬ (11 : Int32) = 7 by decide), if_neg (show ¬ (11 : Int32) = 8 by decide), if_neg (show ¬ (11 : Int32) = 9 by decide), if_neg (show ¬ (11 : Int32) = 10 by decide), if_pos (show 0 ≤ lg_cmp (eL a) (eL b) by rw [cmp_ge, eL_le (okN_wd hb) (okN_wd ha)]; omega), p1, zbV_e, q_X12_joins_118]
theorem r_j12 (hS : Sh σ) (h : RPi σ (b :: a :: S)) (ha : okN a) (hb : okN b) : ∃ σ', zM 267 [.ref 176, .int 12] σ = some (none, σ') ∧ Sh σ' ∧ Un XPi σ σ' ∧ RPi σ' (opN 12 a b :: S) := by
  obtain ⟨l, h1, i1, i2, r1, r2, gb, ga⟩ := r_jf hS h
  have x1 : ix (nI (S.length + 1)) = S.length + 1 := ixn (by omega)
  have x2 : ix (nI S.length) = S.length := ixn (by omega)
  have S3 : Sh (sI σ 176 88 (nI S.length)) := hS.sI (by omega)
  obtain ⟨σ', p1, p2, p3, p4⟩ := r_pt (opN 12 a b) S3 (r_dn h) (by omega)
  refine ⟨σ', ?_, p2, (Un_sI (.inr ⟨rfl, rfl⟩)).trans p3, p4⟩
  rw [q_X12_joins]
  simp -implicitDefEqProofs only [tg_sI, ln_sI, tg_sL, ln_sL, tg_sR, ln_sR, tg_sC, ln_sC, ai_sI, ai_sL, gL_sI, gR_sI, gI_sL, gR_sL, gI_sR, gL_sR, gI_sI, gL_sL, gR_sR, zlt_e, zln_e, zli_e, zll_e, zbI_e, zbL_e, zbR_e, zbV_e, zeR_e, zeN_s, zeN_n, Nat.reduceEqDiff, and_self, and_true, true_and, and_false, false_and, ite_true, ite_false, reduceIte, tg_176 hS, gR_176_87 hS, h1, i1, i2, r1, r2, x1, x2, gb, ga]
  by_cases q : b < a
  · have e : opN 12 a b = 1 := by rw [opN_12, if_pos q]
    rw [e, ← litu] at p1
    rw [if_neg (show ¬ (12 : Int32) = 1 by decide), if_neg (show ¬ (12 : Int32) = 2 by decide), if_neg (show ¬ (12 : Int32) = 3 by decide), if_neg (show ¬ (12 : Int32) = 4 by decide), if_neg (show ¬ (12 : Int32) = 5 by decide), if_neg (show ¬ (12 : Int32) = 6 by decide), if_neg (show ¬ (12 : Int32) = 7 by decide), if_neg (show ¬ (12 : Int32) = 8 by decide), if_neg (show ¬ (12 : Int32) = 9 by decide), if_neg (show ¬ (12 : Int32) = 10 by decide), if_neg (show ¬ (12 : Int32) = 11 by decide), if_neg (show ¬ lg_cmp (eL a) (eL b) ≤ 0 by rw [cmp_le, eL_le (okN_wd ha) (okN_wd hb)]; omega), p1, zbV_e, q_X12_joins_118]
  · have e : opN 12 a b = 0 := by rw [opN_12, if_neg q]
    rw [e, ← litz] at p1
    rw [if_neg (show ¬ (12 : Int32) = 1 by decide), if_neg (show ¬ (12 : Int32) = 2 by decide), if_neg (show ¬ (12 : Int32) = 3 by decide), if_neg (show ¬ (12 : Int32) = 4 by decide), if_neg (show ¬ (12 : Int32) = 5 by decide), if_neg (show ¬ (12 : Int32) = 6 by decide), if_neg (show ¬ (12 : Int32) = 7 by decide), if_neg (show ¬ (12 : Int32) = 8 by decide), if_neg (show ¬ (12 : Int32) = 9 by decide), if_neg (show ¬ (12 : Int32) = 10 by decide), if_neg (show ¬ (12 : Int32) = 11 by decide), if_pos (show lg_cmp (eL a) (eL b) ≤ 0 by rw [cmp_le, eL_le (okN_wd ha) (okN_wd hb)]; omega), p1, zbV_e, q_X12_joins_118]
theorem r_j13 (hS : Sh σ) (h : RPi σ (b :: a :: S)) (ha : okN a) (hb : okN b) : ∃ σ', zM 267 [.ref 176, .int 13] σ = some (none, σ') ∧ Sh σ' ∧ Un XPi σ σ' ∧ RPi σ' (opN 13 a b :: S) := by
  obtain ⟨l, h1, i1, i2, r1, r2, gb, ga⟩ := r_jf hS h
  have x1 : ix (nI (S.length + 1)) = S.length + 1 := ixn (by omega)
  have x2 : ix (nI S.length) = S.length := ixn (by omega)
  have S3 : Sh (sI σ 176 88 (nI S.length)) := hS.sI (by omega)
  obtain ⟨σ', p1, p2, p3, p4⟩ := r_pt (opN 13 a b) S3 (r_dn h) (by omega)
  refine ⟨σ', ?_, p2, (Un_sI (.inr ⟨rfl, rfl⟩)).trans p3, p4⟩
  rw [q_X12_joins]
  simp -implicitDefEqProofs only [tg_sI, ln_sI, tg_sL, ln_sL, tg_sR, ln_sR, tg_sC, ln_sC, ai_sI, ai_sL, gL_sI, gR_sI, gI_sL, gR_sL, gI_sR, gL_sR, gI_sI, gL_sL, gR_sR, zlt_e, zln_e, zli_e, zll_e, zbI_e, zbL_e, zbR_e, zbV_e, zeR_e, zeN_s, zeN_n, Nat.reduceEqDiff, and_self, and_true, true_and, and_false, false_and, ite_true, ite_false, reduceIte, tg_176 hS, gR_176_87 hS, h1, i1, i2, r1, r2, x1, x2, gb, ga]
  by_cases q : a = b
  · have e : opN 13 a b = 1 := by rw [opN_13, if_pos q]
    rw [e, ← litu] at p1
    rw [if_neg (show ¬ (13 : Int32) = 1 by decide), if_neg (show ¬ (13 : Int32) = 2 by decide), if_neg (show ¬ (13 : Int32) = 3 by decide), if_neg (show ¬ (13 : Int32) = 4 by decide), if_neg (show ¬ (13 : Int32) = 5 by decide), if_neg (show ¬ (13 : Int32) = 6 by decide), if_neg (show ¬ (13 : Int32) = 7 by decide), if_neg (show ¬ (13 : Int32) = 8 by decide), if_neg (show ¬ (13 : Int32) = 9 by decide), if_neg (show ¬ (13 : Int32) = 10 by decide), if_neg (show ¬ (13 : Int32) = 11 by decide), if_neg (show ¬ (13 : Int32) = 12 by decide), if_pos (show lg_cmp (eL a) (eL b) = 0 by rw [cmp_eq, eL_eq (okN_wd ha) (okN_wd hb)]; omega), p1, zbV_e, q_X12_joins_118]
  · have e : opN 13 a b = 0 := by rw [opN_13, if_neg q]
    rw [e, ← litz] at p1
    rw [if_neg (show ¬ (13 : Int32) = 1 by decide), if_neg (show ¬ (13 : Int32) = 2 by decide), if_neg (show ¬ (13 : Int32) = 3 by decide), if_neg (show ¬ (13 : Int32) = 4 by decide), if_neg (show ¬ (13 : Int32) = 5 by decide), if_neg (show ¬ (13 : Int32) = 6 by decide), if_neg (show ¬ (13 : Int32) = 7 by decide), if_neg (show ¬ (13 : Int32) = 8 by decide), if_neg (show ¬ (13 : Int32) = 9 by decide), if_neg (show ¬ (13 : Int32) = 10 by decide), if_neg (show ¬ (13 : Int32) = 11 by decide), if_neg (show ¬ (13 : Int32) = 12 by decide), if_neg (show ¬ lg_cmp (eL a) (eL b) = 0 by rw [cmp_eq, eL_eq (okN_wd ha) (okN_wd hb)]; omega), p1, zbV_e, q_X12_joins_118]
theorem r_j14 (hS : Sh σ) (h : RPi σ (b :: a :: S)) (ha : okB a) (hb : okB b) : ∃ σ', zM 267 [.ref 176, .int 14] σ = some (none, σ') ∧ Sh σ' ∧ Un XPi σ σ' ∧ RPi σ' (opN 14 a b :: S) := by
  obtain ⟨l, h1, i1, i2, r1, r2, gb, ga⟩ := r_jf hS h
  have x1 : ix (nI (S.length + 1)) = S.length + 1 := ixn (by omega)
  have x2 : ix (nI S.length) = S.length := ixn (by omega)
  have S3 : Sh (sI σ 176 88 (nI S.length)) := hS.sI (by omega)
  obtain ⟨σ', p1, p2, p3, p4⟩ := r_pt (opN 14 a b) S3 (r_dn h) (by omega)
  refine ⟨σ', ?_, p2, (Un_sI (.inr ⟨rfl, rfl⟩)).trans p3, p4⟩
  rw [q_X12_joins]
  simp -implicitDefEqProofs only [tg_sI, ln_sI, tg_sL, ln_sL, tg_sR, ln_sR, tg_sC, ln_sC, ai_sI, ai_sL, gL_sI, gR_sI, gI_sL, gR_sL, gI_sR, gL_sR, gI_sI, gL_sL, gR_sR, zlt_e, zln_e, zli_e, zll_e, zbI_e, zbL_e, zbR_e, zbV_e, zeR_e, zeN_s, zeN_n, Nat.reduceEqDiff, and_self, and_true, true_and, and_false, false_and, ite_true, ite_false, reduceIte, tg_176 hS, gR_176_87 hS, h1, i1, i2, r1, r2, x1, x2, gb, ga]
  rw [if_neg (show ¬ (14 : Int32) = 1 by decide), if_neg (show ¬ (14 : Int32) = 2 by decide), if_neg (show ¬ (14 : Int32) = 3 by decide), if_neg (show ¬ (14 : Int32) = 4 by decide), if_neg (show ¬ (14 : Int32) = 5 by decide), if_neg (show ¬ (14 : Int32) = 6 by decide), if_neg (show ¬ (14 : Int32) = 7 by decide), if_neg (show ¬ (14 : Int32) = 8 by decide), if_neg (show ¬ (14 : Int32) = 9 by decide), if_neg (show ¬ (14 : Int32) = 10 by decide), if_neg (show ¬ (14 : Int32) = 11 by decide), if_neg (show ¬ (14 : Int32) = 12 by decide), if_neg (show ¬ (14 : Int32) = 13 by decide), show eL a * eL b = eL (a * b) from (Int64.ofInt_mul a b).symm, ← opN_14 a b, p1, zbV_e, q_X12_joins_118]
theorem r_j15 (hS : Sh σ) (h : RPi σ (b :: a :: S)) (ha : okB a) (hb : okB b) : ∃ σ', zM 267 [.ref 176, .int 15] σ = some (none, σ') ∧ Sh σ' ∧ Un XPi σ σ' ∧ RPi σ' (opN 15 a b :: S) := by
  obtain ⟨l, h1, i1, i2, r1, r2, gb, ga⟩ := r_jf hS h
  have x1 : ix (nI (S.length + 1)) = S.length + 1 := ixn (by omega)
  have x2 : ix (nI S.length) = S.length := ixn (by omega)
  have S3 : Sh (sI σ 176 88 (nI S.length)) := hS.sI (by omega)
  obtain ⟨σ', p1, p2, p3, p4⟩ := r_pt (opN 15 a b) S3 (r_dn h) (by omega)
  refine ⟨σ', ?_, p2, (Un_sI (.inr ⟨rfl, rfl⟩)).trans p3, p4⟩
  rw [q_X12_joins]
  simp -implicitDefEqProofs only [tg_sI, ln_sI, tg_sL, ln_sL, tg_sR, ln_sR, tg_sC, ln_sC, ai_sI, ai_sL, gL_sI, gR_sI, gI_sL, gR_sL, gI_sR, gL_sR, gI_sI, gL_sL, gR_sR, zlt_e, zln_e, zli_e, zll_e, zbI_e, zbL_e, zbR_e, zbV_e, zeR_e, zeN_s, zeN_n, Nat.reduceEqDiff, and_self, and_true, true_and, and_false, false_and, ite_true, ite_false, reduceIte, tg_176 hS, gR_176_87 hS, h1, i1, i2, r1, r2, x1, x2, gb, ga]
  have sm : eL a + eL b = eL (a + b) := (Int64.ofInt_add a b).symm
  have ws : wdN (a + b) := by unfold wdN; unfold okB at ha hb; omega
  have g0 : (lg_cmp (eL (a + b)) 0 ≤ 0) = (a + b ≤ 0) := by rw [cmp_le, litz, eL_le ws wd_0]
  by_cases q : 0 < a + b
  · have e : opN 15 a b = 1 := by rw [opN_15, if_pos q]
    rw [e, ← litu] at p1
    rw [if_neg (show ¬ (15 : Int32) = 1 by decide), if_neg (show ¬ (15 : Int32) = 2 by decide), if_neg (show ¬ (15 : Int32) = 3 by decide), if_neg (show ¬ (15 : Int32) = 4 by decide), if_neg (show ¬ (15 : Int32) = 5 by decide), if_neg (show ¬ (15 : Int32) = 6 by decide), if_neg (show ¬ (15 : Int32) = 7 by decide), if_neg (show ¬ (15 : Int32) = 8 by decide), if_neg (show ¬ (15 : Int32) = 9 by decide), if_neg (show ¬ (15 : Int32) = 10 by decide), if_neg (show ¬ (15 : Int32) = 11 by decide), if_neg (show ¬ (15 : Int32) = 12 by decide), if_neg (show ¬ (15 : Int32) = 13 by decide), if_neg (show ¬ (15 : Int32) = 14 by decide), sm, if_neg (show ¬ lg_cmp (eL (a + b)) 0 ≤ 0 by rw [g0]; omega), q_X12_joins_117, tg_176 S3, if_pos rfl, p1, zbV_e, q_X12_joins_118]
  · have e : opN 15 a b = 0 := by rw [opN_15, if_neg q]
    rw [e, ← litz] at p1
    rw [if_neg (show ¬ (15 : Int32) = 1 by decide), if_neg (show ¬ (15 : Int32) = 2 by decide), if_neg (show ¬ (15 : Int32) = 3 by decide), if_neg (show ¬ (15 : Int32) = 4 by decide), if_neg (show ¬ (15 : Int32) = 5 by decide), if_neg (show ¬ (15 : Int32) = 6 by decide), if_neg (show ¬ (15 : Int32) = 7 by decide), if_neg (show ¬ (15 : Int32) = 8 by decide), if_neg (show ¬ (15 : Int32) = 9 by decide), if_neg (show ¬ (15 : Int32) = 10 by decide), if_neg (show ¬ (15 : Int32) = 11 by decide), if_neg (show ¬ (15 : Int32) = 12 by decide), if_neg (show ¬ (15 : Int32) = 13 by decide), if_neg (show ¬ (15 : Int32) = 14 by decide), sm, if_pos (show lg_cmp (eL (a + b)) 0 ≤ 0 by rw [g0]; omega), q_X12_joins_117, tg_176 S3, if_pos rfl, p1, zbV_e, q_X12_joins_118]
end
