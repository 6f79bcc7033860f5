/-! the guards of both; calls that only read -/
def Al (B : Nat) (σ : zS) (c mC : Nat) (aC : List Value) (mR : Nat) (aR : List Value) : Prop := ∃ v σ1 σ2, zM mC aC σ = some (some (.int v), σ1) ∧ Sh σ1 ∧ zM mR aR σ1 = some (some (.int v), σ2) ∧ RX B σ2 (c + 1)
section
variable {σ σ' σ1 σ2 α α' β β' : zS} {X : Nat → Nat → Prop} {u : Option Value} {B P S N M K np c k n m i mC mR : Nat} {aC aR : List Value} {t : Nat → Nat} {st : lx}
theorem Al_rd (h : RR B σ c P S N M K np t n) (v : Int32) (h1 : zM mC aC σ = some (some (.int v), σ)) (h2 : zM mR aR σ = some (some (.int v), σ)) : Al B σ c mC aC mR aR := ⟨v, σ, σ, h1, h.1, h2, P, S, N, M, K, np, t, n, RR_mono h (by omega)⟩
theorem isInL {a x y : Int32} {X Y : Int64} {s : zS} (hX : x.toInt64 = X) (hY : y.toInt64 = Y) : zM 188 [.long a.toInt64, .long X, .long Y] s = some (some (.int (if x ≤ a ∧ a ≤ y then 1 else 0)), s) := by
  rw [← hX, ← hY]; exact r_isIn a x y s
theorem rng_no (a : Int32) (hN : N < 2 ^ 31) : ¬ (0 ≤ a ∧ a < nI N) ∨ ∃ k, k < N ∧ a = nI k := by
  rcases pk_ix a (n := N) hN with q | q | ⟨k, hk, rfl⟩
  · exact .inl (fun z => by
      have z1 := Int32.le_iff_toInt_le.mp z.1
      rw [Int32.lt_iff_toInt_lt] at q
      omega)
  · exact .inl (fun z => by
      have z1 := Int32.lt_iff_toInt_lt.mp z.2
      rw [Int32.le_iff_toInt_le] at q
      omega)
  · exact .inr ⟨k, hk, rfl⟩
theorem rng_ok (hk : k < N) (hN : N < 2 ^ 31) : 0 ≤ nI k ∧ nI k < nI N := ⟨nI_pos' (by omega), nI_lt hk hN⟩
theorem rng_c (a : Int32) {A C : zO} : (if a < 0 then A else (if nI N ≤ a then A else C)) = if 0 ≤ a ∧ a < nI N then C else A := by
  have e0 : (0 : Int32).toInt = 0 := rfl
  by_cases q : a < 0
  · rw [if_pos q, if_neg (fun z => by
      have z1 := Int32.le_iff_toInt_le.mp z.1
      rw [Int32.lt_iff_toInt_lt] at q
      omega)]
  · rw [if_neg q]
    by_cases p : nI N ≤ a
    · rw [if_pos p, if_neg (fun z => by
        have z1 := Int32.lt_iff_toInt_lt.mp z.2
        rw [Int32.le_iff_toInt_le] at p
        omega)]
    · rw [if_neg p, if_pos ⟨by
        rw [Int32.lt_iff_toInt_lt] at q
        rw [Int32.le_iff_toInt_le]
        omega, by
        rw [Int32.le_iff_toInt_le] at p
        rw [Int32.lt_iff_toInt_lt]
        omega⟩]
theorem rng_r (a : Int32) (hN : N < 2 ^ 31) (s : zS) : zM 188 [.long a.toInt64, .long 0, .long (nI N - 1).toInt64] s = some (some (.int (if 0 ≤ a ∧ a < nI N then 1 else 0)), s) := by
  rw [isInL (x := 0) (y := nI N - 1) t64_0 rfl]
  have e : (0 ≤ a ∧ a ≤ nI N - 1) ↔ (0 ≤ a ∧ a < nI N) := by
    cases N with
    | zero =>
      have h1 : (nI 0 - 1 : Int32).toInt = -1 := by decide
      have h2 : (nI 0).toInt = 0 := by decide
      simp only [Int32.le_iff_toInt_le, Int32.lt_iff_toInt_lt, h1, h2]
      have e0 : (0 : Int32).toInt = 0 := rfl
      omega
    | succ m =>
      rw [nI_subR (n := 1) (by omega)]
      simp only [Int32.le_iff_toInt_le, Int32.lt_iff_toInt_lt]
      rw [nI_toInt (show m + 1 - 1 < 2 ^ 31 by omega), nI_toInt hN]
      omega
  by_cases q : 0 ≤ a ∧ a < nI N
  · rw [if_pos (e.mpr q), if_pos q]
  · rw [if_neg (fun z => q (e.mp z)), if_neg q]
def bq (p : Prop) [Decidable p] : Int32 := if p then 1 else 0
theorem c_isLast (hS : Sh σ) (hP : HP P) (h65 : gR σ 6 5 = some P) (h5 : gI σ P 5 = nI N) (a : Int32) : zM 125 [.ref 6, .int a] σ = some (some (.int (if 0 ≤ a ∧ a < nI N then 1 else 0)), σ) := by
  rw [q_X11_isLast]
  simp -implicitDefEqProofs only [tg_sI, ln_sI, tg_sL, ln_sL, tg_sR, ln_sR, tg_sC, ln_sC, ai_sI, ai_sL, gL_sI, gR_sI, gI_sL, gR_sL, gI_sR, gL_sR, gI_sI, gL_sL, gR_sR, zlt_e, zln_e, zli_e, zll_e, zbI_e, zbL_e, zbR_e, zbV_e, zeR_e, zeN_s, zeN_n, Nat.reduceEqDiff, and_self, and_true, true_and, and_false, false_and, ite_true, ite_false, reduceIte, tg_6 hS, h65, tg_P hS hP, h5]
  rw [rng_c]
  split <;> rfl
theorem c_isSort (hS : Sh σ) (hP : HP P) (h65 : gR σ 6 5 = some P) (h5 : gI σ P 6 = nI N) (a : Int32) : zM 126 [.ref 6, .int a] σ = some (some (.int (if 0 ≤ a ∧ a < nI N then 1 else 0)), σ) := by
  rw [q_X11_isSort]
  simp -implicitDefEqProofs only [tg_sI, ln_sI, tg_sL, ln_sL, tg_sR, ln_sR, tg_sC, ln_sC, ai_sI, ai_sL, gL_sI, gR_sI, gI_sL, gR_sL, gI_sR, gL_sR, gI_sI, gL_sL, gR_sR, zlt_e, zln_e, zli_e, zll_e, zbI_e, zbL_e, zbR_e, zbV_e, zeR_e, zeN_s, zeN_n, Nat.reduceEqDiff, and_self, and_true, true_and, and_false, false_and, ite_true, ite_false, reduceIte, tg_6 hS, h65, tg_P hS hP, h5]
  rw [rng_c]
  split <;> rfl
theorem c_isQuestion (hS : Sh σ) (hP : HP P) (h65 : gR σ 6 5 = some P) (h5 : gI σ P 7 = nI N) (a : Int32) : zM 127 [.ref 6, .int a] σ = some (some (.int (if 0 ≤ a ∧ a < nI N then 1 else 0)), σ) := by
  rw [q_X11_isQuestion]
  simp -implicitDefEqProofs only [tg_sI, ln_sI, tg_sL, ln_sL, tg_sR, ln_sR, tg_sC, ln_sC, ai_sI, ai_sL, gL_sI, gR_sI, gI_sL, gR_sL, gI_sR, gL_sR, gI_sI, gL_sL, gR_sR, zlt_e, zln_e, zli_e, zll_e, zbI_e, zbL_e, zbR_e, zbV_e, zeR_e, zeN_s, zeN_n, Nat.reduceEqDiff, and_self, and_true, true_and, and_false, false_and, ite_true, ite_false, reduceIte, tg_6 hS, h65, tg_P hS hP, h5]
  rw [rng_c]
  split <;> rfl
theorem c_isPerson (hS : Sh σ) (h5 : gI σ 6 10 = nI N) (a : Int32) : zM 128 [.ref 6, .int a] σ = some (some (.int (if 0 ≤ a ∧ a < nI N then 1 else 0)), σ) := by
  rw [q_X11_isPerson]
  simp -implicitDefEqProofs only [tg_sI, ln_sI, tg_sL, ln_sL, tg_sR, ln_sR, tg_sC, ln_sC, ai_sI, ai_sL, gL_sI, gR_sI, gI_sL, gR_sL, gI_sR, gL_sR, gI_sI, gL_sL, gR_sR, zlt_e, zln_e, zli_e, zll_e, zbI_e, zbL_e, zbR_e, zbV_e, zeR_e, zeN_s, zeN_n, Nat.reduceEqDiff, and_self, and_true, true_and, and_false, false_and, ite_true, ite_false, reduceIte, tg_6 hS, h5]
  rw [rng_c]
  split <;> rfl
theorem zf4 (p : Prop) [Decidable p] : zfit 4 (if p then 1 else 0) = true := by split <;> decide
theorem r_lasts (hS : Sh σ) (h : gI σ 214 3 = nI N) : zM 236 [.ref 176] σ = some (some (.int (nI N)), σ) := by
  rw [q_X12_lasts]
  simp -implicitDefEqProofs only [tg_sI, ln_sI, tg_sL, ln_sL, tg_sR, ln_sR, tg_sC, ln_sC, ai_sI, ai_sL, gL_sI, gR_sI, gI_sL, gR_sL, gI_sR, gL_sR, gI_sI, gL_sL, gR_sR, zlt_e, zln_e, zli_e, zll_e, zbI_e, zbL_e, zbR_e, zbV_e, zeR_e, zeN_s, zeN_n, Nat.reduceEqDiff, and_self, and_true, true_and, and_false, false_and, ite_true, ite_false, reduceIte, tg_176 hS, gR_176_47 hS]
  rw [if_pos (show ai σ 32 48 214 3 = true from ai_nI (k := 3) (.inl (tg_214 hS)) (ln_214 hS) (by omega) (by omega)), show ix (3 : Int32) = 3 from rfl, h]
theorem r_isLast (hS : Sh σ) (h : gI σ 214 3 = nI N) (hN : N < 2 ^ 31) (a : Int32) : zM 240 [.ref 176, .int a] σ = some (some (.int (if 0 ≤ a ∧ a < nI N then 1 else 0)), σ) := by
  rw [q_X12_isLast]
  simp -implicitDefEqProofs only [tg_sI, ln_sI, tg_sL, ln_sL, tg_sR, ln_sR, tg_sC, ln_sC, ai_sI, ai_sL, gL_sI, gR_sI, gI_sL, gR_sL, gI_sR, gL_sR, gI_sI, gL_sL, gR_sR, zlt_e, zln_e, zli_e, zll_e, zbI_e, zbL_e, zbR_e, zbV_e, zeR_e, zeN_s, zeN_n, Nat.reduceEqDiff, and_self, and_true, true_and, and_false, false_and, ite_true, ite_false, reduceIte, tg_176 hS, r_lasts hS h, rng_r a hN, zf4]
theorem r_isPerson (hS : Sh σ) (h : gI σ 176 70 = nI N) (hN : N < 2 ^ 31) (a : Int32) : zM 239 [.ref 176, .int a] σ = some (some (.int (if 0 ≤ a ∧ a < nI N then 1 else 0)), σ) := by
  rw [q_X12_isPerson]
  simp -implicitDefEqProofs only [tg_sI, ln_sI, tg_sL, ln_sL, tg_sR, ln_sR, tg_sC, ln_sC, ai_sI, ai_sL, gL_sI, gR_sI, gI_sL, gR_sL, gI_sR, gL_sR, gI_sI, gL_sL, gR_sR, zlt_e, zln_e, zli_e, zll_e, zbI_e, zbL_e, zbR_e, zbV_e, zeR_e, zeN_s, zeN_n, Nat.reduceEqDiff, and_self, and_true, true_and, and_false, false_and, ite_true, ite_false, reduceIte, tg_176 hS, h, rng_r a hN, zf4]
/-- the simplest calls -/
theorem op_fault (h : RR B σ c P S N M K np t n) (a : Int32) : Al B σ c 120 [.ref 6, .int a] 235 [.ref 176, .int a] := by
  have hS := h.1
  obtain ⟨f1, f2⟩ := h.2.2.2.2.1
  refine Al_rd h (if a = 0 then gI σ 176 7 else if a = 1 then gI σ 176 8 else -1) ?_ ?_
  · rw [q_X11_fault]
    simp -implicitDefEqProofs only [tg_sI, ln_sI, tg_sL, ln_sL, tg_sR, ln_sR, tg_sC, ln_sC, ai_sI, ai_sL, gL_sI, gR_sI, gI_sL, gR_sL, gI_sR, gL_sR, gI_sI, gL_sL, gR_sR, zlt_e, zln_e, zli_e, zll_e, zbI_e, zbL_e, zbR_e, zbV_e, zeR_e, zeN_s, zeN_n, Nat.reduceEqDiff, and_self, and_true, true_and, and_false, false_and, ite_true, ite_false, reduceIte, tg_6 hS, f1, f2]
    split
    · rfl
    · split <;> rfl
  · rw [q_X12_fault]
    simp -implicitDefEqProofs only [tg_sI, ln_sI, tg_sL, ln_sL, tg_sR, ln_sR, tg_sC, ln_sC, ai_sI, ai_sL, gL_sI, gR_sI, gI_sL, gR_sL, gI_sR, gL_sR, gI_sI, gL_sL, gR_sR, zlt_e, zln_e, zli_e, zll_e, zbI_e, zbL_e, zbR_e, zbV_e, zeR_e, zeN_s, zeN_n, Nat.reduceEqDiff, and_self, and_true, true_and, and_false, false_and, ite_true, ite_false, reduceIte, tg_176 hS]
    split
    · rfl
    · split <;> rfl
theorem op_earned (h : RR B σ c P S N M K np t n) : Al B σ c 164 [.ref 6] 289 [.ref 176] := by
  have hS := h.1
  have hM : MS σ := h.2.2.2.2.2.2.2.2.2.2.1
  refine Al_rd h (gI σ 176 83) ?_ ?_
  · rw [q_X11_earned, tg_6 hS, if_pos rfl, hM.1]
  · rw [q_X12_earned, tg_176 hS, if_pos rfl]
end
