/-! calls that read a number, and the end of the tape -/
section
variable {σ σ' σ1 σ2 α α' β β' : zS} {X : Nat → Nat → Prop} {u : Option Value} {B P S N M K np c k n m i mC mR : Nat} {aC aR : List Value} {t : Nat → Nat} {st : lx}
theorem op_end (h : RR B σ c P S N M K np t n) (a : Int32) : Al B σ c 115 [.ref 6, .int a] 190 [.ref 176, .int a] := by
  have hRP := RR_rp h
  have hS := h.1
  obtain ⟨hn, h256, ht7, ht177, h61, h1761⟩ := h.2.2.1
  have hF : Ft σ := h.2.2.2.2.1
  have hM : rm B σ c := h.2.2.2.2.2.2.2.2.2.2.2.2
  by_cases q : a < 0
  · refine Al_rd h 0 ?_ ?_
    · rw [q_X11_end, if_pos q]
    · rw [q_X12_end, if_pos q]
  by_cases p : a ≤ nI n
  · have hm : ∃ m, m ≤ n ∧ a = nI m := by
      rcases pk_ix a (n := n + 1) (by omega) with z | z | ⟨m, hm, e⟩
      · exact absurd z q
      · exfalso
        rw [Int32.le_iff_toInt_le, nI_toInt (by omega)] at z p
        omega
      · exact ⟨m, by omega, e⟩
    obtain ⟨m, hm, rfl⟩ := hm
    have hS1 : Sh (sI σ 6 1 (nI m)) := hS.sI (by omega)
    have w : Un Xz σ (sI (sI σ 6 1 (nI m)) 176 1 (nI m)) := (Un_sI (.inr (.inl ⟨rfl, .inl rfl⟩))).trans (Un_sI (.inr (.inr (.inl ⟨rfl, .inl rfl⟩))))
    refine ⟨1, sI σ 6 1 (nI m), sI (sI σ 6 1 (nI m)) 176 1 (nI m), ?_, hS1, ?_, P, S, N, M, K, np, t, m, RR_mono (RP_rr (RP_zs hRP w (hS1.sI (by omega))) ⟨by omega, h256, fun j => ht7 j, fun j hj => ht177 j hj, rfl, rfl⟩ hF (rm_z hM w)) (by omega)⟩
    · rw [q_X11_end, if_neg q]
      simp -implicitDefEqProofs only [tg_sI, ln_sI, tg_sL, ln_sL, tg_sR, ln_sR, tg_sC, ln_sC, ai_sI, ai_sL, gL_sI, gR_sI, gI_sL, gR_sL, gI_sR, gL_sR, gI_sI, gL_sL, gR_sR, zlt_e, zln_e, zli_e, zll_e, zbI_e, zbL_e, zbR_e, zbV_e, zeR_e, zeN_s, zeN_n, Nat.reduceEqDiff, and_self, and_true, true_and, and_false, false_and, ite_true, ite_false, reduceIte, tg_6 hS, h61]
      rw [if_pos p]
    · rw [q_X12_end, if_neg q]
      simp -implicitDefEqProofs only [tg_sI, ln_sI, tg_sL, ln_sL, tg_sR, ln_sR, tg_sC, ln_sC, ai_sI, ai_sL, gL_sI, gR_sI, gI_sL, gR_sL, gI_sR, gL_sR, gI_sI, gL_sL, gR_sR, zlt_e, zln_e, zli_e, zll_e, zbI_e, zbL_e, zbR_e, zbV_e, zeR_e, zeN_s, zeN_n, Nat.reduceEqDiff, and_self, and_true, true_and, and_false, false_and, ite_true, ite_false, reduceIte, tg_176 hS, h1761]
      simp -implicitDefEqProofs only [tg_sI, ln_sI, tg_sL, ln_sL, tg_sR, ln_sR, tg_sC, ln_sC, ai_sI, ai_sL, gL_sI, gR_sI, gI_sL, gR_sL, gI_sR, gL_sR, gI_sI, gL_sL, gR_sR, zlt_e, zln_e, zli_e, zll_e, zbI_e, zbL_e, zbR_e, zbV_e, zeR_e, zeN_s, zeN_n, Nat.reduceEqDiff, and_self, and_true, true_and, and_false, false_and, ite_true, ite_false, reduceIte, tg_176 hS, h1761, if_pos p]
  · refine Al_rd h 0 ?_ ?_
    · rw [q_X11_end, if_neg q, tg_6 hS, if_pos rfl, h61, if_neg p]
    · rw [q_X12_end, if_neg q, tg_176 hS, if_pos rfl, h1761, if_neg p]
theorem sg_c (a : Int32) (s : zS) : zM 130 [.int a] s = some (some (.int (if -2 ≤ a ∧ a ≤ 2 then 1 else 0)), s) := by
  rw [q_X11_isFoot]
  by_cases q : -2 ≤ a ∧ a ≤ 2
  · rw [if_pos q, if_neg (Int32.not_lt.mpr q.1), if_neg (Int32.not_lt.mpr q.2)]
  · rw [if_neg q]
    by_cases p : a < -2
    · rw [if_pos p]
    · rw [if_neg p, if_pos (Int32.not_le.mp (fun z => q ⟨Int32.not_lt.mp p, z⟩))]
theorem sr_c (a : Int32) (s : zS) : zM 131 [.int a] s = some (some (.int (if -1 ≤ a ∧ a ≤ 1 then 1 else 0)), s) := by
  rw [q_X11_isRun]
  by_cases q : -1 ≤ a ∧ a ≤ 1
  · rw [if_pos q, if_neg (Int32.not_lt.mpr q.1), if_neg (Int32.not_lt.mpr q.2)]
  · rw [if_neg q]
    by_cases p : a < -1
    · rw [if_pos p]
    · rw [if_neg p, if_pos (Int32.not_le.mp (fun z => q ⟨Int32.not_lt.mp p, z⟩))]
theorem sz_c (a : Int32) (s : zS) : zM 129 [.int a] s = some (some (.int (if 30 ≤ a ∧ a ≤ 49 then 1 else 0)), s) := by
  rw [q_X11_isSize]
  by_cases q : 30 ≤ a ∧ a ≤ 49
  · rw [if_pos q, if_neg (Int32.not_lt.mpr q.1), if_neg (Int32.not_lt.mpr q.2)]
  · rw [if_neg q]
    by_cases p : a < 30
    · rw [if_pos p]
    · rw [if_neg p, if_pos (Int32.not_le.mp (fun z => q ⟨Int32.not_lt.mp p, z⟩))]
theorem sg_r (a : Int32) (s : zS) : zM 188 [.long a.toInt64, .long (-2), .long 2] s = some (some (.int (if -2 ≤ a ∧ a ≤ 2 then 1 else 0)), s) := isInL (by decide +kernel) (by decide +kernel)
theorem sr_r (a : Int32) (s : zS) : zM 188 [.long a.toInt64, .long (-1), .long 1] s = some (some (.int (if -1 ≤ a ∧ a ≤ 1 then 1 else 0)), s) := isInL (by decide +kernel) (by decide +kernel)
theorem sz_r (a : Int32) (s : zS) : zM 188 [.long a.toInt64, .long 30, .long 49] s = some (some (.int (if 30 ≤ a ∧ a ≤ 49 then 1 else 0)), s) := isInL (by decide +kernel) (by decide +kernel)
/-- a number between two, told from the first -/
theorem sh_ix (a : Int32) (l h : Int32) (d : Nat) (hl : l.toInt = -(d : Int)) (hd : d < 100) (hh : h.toInt < 1000) (q : l ≤ a ∧ a ≤ h) : ∃ k : Nat, a + nI d = nI k ∧ (k : Int) = a.toInt + d ∧ (k : Int) ≤ h.toInt + d := by
  have q1 := Int32.le_iff_toInt_le.mp q.1
  have q2 := Int32.le_iff_toInt_le.mp q.2
  refine ⟨(a.toInt + d).toNat, ?_, by omega, by omega⟩
  apply Int32.toInt_inj.mp
  rw [nI_toInt (by omega), Int32.toInt_add, nI_toInt (by omega)]
  rw [Int.bmod_eq_of_le (by omega) (by omega)]
  omega
end
