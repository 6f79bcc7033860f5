/-! names -/
/-- one name as class and reference keep it -/
def NM (x : Int32) (y : Int64) : Prop := ∃ L v, 1 ≤ L ∧ L ≤ 6 ∧ 27 ^ (L - 1) ≤ v ∧ v < 27 ^ L ∧ v % 27 ≠ 0 ∧ x = nI (v * 27 ^ (6 - L)) ∧ y = lN v
theorem NM_eq {x x' : Int32} {y y' : Int64} (h : NM x y) (h' : NM x' y') : x = x' ↔ y = y' := by
  obtain ⟨L, v, a1, a2, a3, a4, a5, rfl, rfl⟩ := h
  obtain ⟨L', v', b1, b2, b3, b4, b5, rfl, rfl⟩ := h'
  have hL : L = 1 ∨ L = 2 ∨ L = 3 ∨ L = 4 ∨ L = 5 ∨ L = 6 := by omega
  have hL' : L' = 1 ∨ L' = 2 ∨ L' = 3 ∨ L' = 4 ∨ L' = 5 ∨ L' = 6 := by omega
  rcases hL with rfl | rfl | rfl | rfl | rfl | rfl <;> rcases hL' with rfl | rfl | rfl | rfl | rfl | rfl <;>
    simp only [Nat.reducePow, Nat.reduceSub] at a3 a4 b3 b4 ⊢ <;>
    rw [nI_eq (by omega) (by omega), pk_lEQ (by omega) (by omega)] <;> omega
theorem NM_pos {x : Int32} {y : Int64} (h : NM x y) : x ≠ 0 := by
  obtain ⟨L, v, a1, a2, a3, a4, a5, rfl, rfl⟩ := h
  have hL : L = 1 ∨ L = 2 ∨ L = 3 ∨ L = 4 ∨ L = 5 ∨ L = 6 := by omega
  rcases hL with rfl | rfl | rfl | rfl | rfl | rfl <;> simp only [Nat.reducePow, Nat.reduceSub] at a3 a4 ⊢ <;> exact nI_ne0 (by omega) (by omega)
section
variable {t : Nat → Nat}
theorem nmp_bd {s : Nat} : ∀ i, (∀ j, j < i → kO (t (s + j)) = 1) → nmp t s i < 27 ^ i ∧ (1 ≤ i → 27 ^ (i - 1) ≤ nmp t s i ∧ nmp t s i % 27 ≠ 0)
  | 0, _ => ⟨by simp [nmp], by omega⟩
  | i + 1, h => by
    obtain ⟨h1, h2⟩ := nmp_bd i (fun j hj => h j (by omega))
    have hk := kO1 (h i (by omega))
    have e : nmp t s (i + 1) = 27 * nmp t s i + (t (s + i) - 96) := rfl
    have e2 : 27 ^ (i + 1) = 27 * 27 ^ i := by rw [Nat.pow_succ, Nat.mul_comm]
    rw [e, e2]
    refine ⟨by omega, fun _ => ⟨?_, by omega⟩⟩
    rw [Nat.add_sub_cancel]
    match i, h2 with
    | 0, _ => simp only [nmp, Nat.pow_zero]; omega
    | k + 1, h2 =>
      have h3 := (h2 (by omega)).1
      rw [Nat.add_sub_cancel] at h3
      have e3 : 27 ^ (k + 1) = 27 * 27 ^ k := by rw [Nat.pow_succ, Nat.mul_comm]
      omega
theorem wv_nmp {s m : Nat} (h1 : s < m) (h6 : m ≤ s + 6) : wv t s m = nmp t s (m - s) * 27 ^ (6 - (m - s)) := by
  obtain ⟨L, hL⟩ : ∃ L, m = s + L := ⟨m - s, by omega⟩
  subst hL
  have hL : L = 1 ∨ L = 2 ∨ L = 3 ∨ L = 4 ∨ L = 5 ∨ L = 6 := by omega
  rw [wv_D]
  rcases hL with rfl | rfl | rfl | rfl | rfl | rfl
  · have d0 : dg t s (s + 1) 0 = (t (s + 0) - 96) := by unfold dg; rw [if_pos (by omega)]
    have d1 : dg t s (s + 1) 1 = 0 := by unfold dg; rw [if_neg (by omega)]
    have d2 : dg t s (s + 1) 2 = 0 := by unfold dg; rw [if_neg (by omega)]
    have d3 : dg t s (s + 1) 3 = 0 := by unfold dg; rw [if_neg (by omega)]
    have d4 : dg t s (s + 1) 4 = 0 := by unfold dg; rw [if_neg (by omega)]
    have d5 : dg t s (s + 1) 5 = 0 := by unfold dg; rw [if_neg (by omega)]
    rw [d0, d1, d2, d3, d4, d5, show s + 1 - s = 1 by omega]
    simp only [nmp, Nat.reducePow, Nat.reduceSub]
    omega
  · have d0 : dg t s (s + 2) 0 = (t (s + 0) - 96) := by unfold dg; rw [if_pos (by omega)]
    have d1 : dg t s (s + 2) 1 = (t (s + 1) - 96) := by unfold dg; rw [if_pos (by omega)]
    have d2 : dg t s (s + 2) 2 = 0 := by unfold dg; rw [if_neg (by omega)]
    have d3 : dg t s (s + 2) 3 = 0 := by unfold dg; rw [if_neg (by omega)]
    have d4 : dg t s (s + 2) 4 = 0 := by unfold dg; rw [if_neg (by omega)]
    have d5 : dg t s (s + 2) 5 = 0 := by unfold dg; rw [if_neg (by omega)]
    rw [d0, d1, d2, d3, d4, d5, show s + 2 - s = 2 by omega]
    simp only [nmp, Nat.reducePow, Nat.reduceSub]
    omega
  · have d0 : dg t s (s + 3) 0 = (t (s + 0) - 96) := by unfold dg; rw [if_pos (by omega)]
    have d1 : dg t s (s + 3) 1 = (t (s + 1) - 96) := by unfold dg; rw [if_pos (by omega)]
    have d2 : dg t s (s + 3) 2 = (t (s + 2) - 96) := by unfold dg; rw [if_pos (by omega)]
    have d3 : dg t s (s + 3) 3 = 0 := by unfold dg; rw [if_neg (by omega)]
    have d4 : dg t s (s + 3) 4 = 0 := by unfold dg; rw [if_neg (by omega)]
    have d5 : dg t s (s + 3) 5 = 0 := by unfold dg; rw [if_neg (by omega)]
    rw [d0, d1, d2, d3, d4, d5, show s + 3 - s = 3 by omega]
    simp only [nmp, Nat.reducePow, Nat.reduceSub]
    omega
  · have d0 : dg t s (s + 4) 0 = (t (s + 0) - 96) := by unfold dg; rw [if_pos (by omega)]
    have d1 : dg t s (s + 4) 1 = (t (s + 1) - 96) := by unfold dg; rw [if_pos (by omega)]
    have d2 : dg t s (s + 4) 2 = (t (s + 2) - 96) := by unfold dg; rw [if_pos (by omega)]
    have d3 : dg t s (s + 4) 3 = (t (s + 3) - 96) := by unfold dg; rw [if_pos (by omega)]
    have d4 : dg t s (s + 4) 4 = 0 := by unfold dg; rw [if_neg (by omega)]
    have d5 : dg t s (s + 4) 5 = 0 := by unfold dg; rw [if_neg (by omega)]
    rw [d0, d1, d2, d3, d4, d5, show s + 4 - s = 4 by omega]
    simp only [nmp, Nat.reducePow, Nat.reduceSub]
    omega
  · have d0 : dg t s (s + 5) 0 = (t (s + 0) - 96) := by unfold dg; rw [if_pos (by omega)]
    have d1 : dg t s (s + 5) 1 = (t (s + 1) - 96) := by unfold dg; rw [if_pos (by omega)]
    have d2 : dg t s (s + 5) 2 = (t (s + 2) - 96) := by unfold dg; rw [if_pos (by omega)]
    have d3 : dg t s (s + 5) 3 = (t (s + 3) - 96) := by unfold dg; rw [if_pos (by omega)]
    have d4 : dg t s (s + 5) 4 = (t (s + 4) - 96) := by unfold dg; rw [if_pos (by omega)]
    have d5 : dg t s (s + 5) 5 = 0 := by unfold dg; rw [if_neg (by omega)]
    rw [d0, d1, d2, d3, d4, d5, show s + 5 - s = 5 by omega]
    simp only [nmp, Nat.reducePow, Nat.reduceSub]
    omega
  · have d0 : dg t s (s + 6) 0 = (t (s + 0) - 96) := by unfold dg; rw [if_pos (by omega)]
    have d1 : dg t s (s + 6) 1 = (t (s + 1) - 96) := by unfold dg; rw [if_pos (by omega)]
    have d2 : dg t s (s + 6) 2 = (t (s + 2) - 96) := by unfold dg; rw [if_pos (by omega)]
    have d3 : dg t s (s + 6) 3 = (t (s + 3) - 96) := by unfold dg; rw [if_pos (by omega)]
    have d4 : dg t s (s + 6) 4 = (t (s + 4) - 96) := by unfold dg; rw [if_pos (by omega)]
    have d5 : dg t s (s + 6) 5 = (t (s + 5) - 96) := by unfold dg; rw [if_pos (by omega)]
    rw [d0, d1, d2, d3, d4, d5, show s + 6 - s = 6 by omega]
    simp only [nmp, Nat.reducePow, Nat.reduceSub]
    omega
theorem NM_text {s m : Nat} (h1 : s < m) (h6 : m ≤ s + 6) (hl : ∀ j, s ≤ j → j < m → kO (t j) = 1) : NM (nI (wv t s m)) (lN (nmp t s (m - s))) := by
  have hb := nmp_bd (t := t) (s := s) (m - s) (fun j hj => hl (s + j) (by omega) (by omega))
  have hb2 := hb.2 (by omega)
  exact ⟨m - s, nmp t s (m - s), by omega, by omega, hb2.1, hb.1, hb2.2, by rw [wv_nmp h1 h6], rfl⟩
end
/-- the first of i, i + 1 .. (d of them) -/
def fnd (p : Nat → Bool) : Nat → Nat → Option Nat
  | 0, _ => none
  | d + 1, i => if p i = true then some i else fnd p d (i + 1)
theorem fnd_t {p : Nat → Bool} {d i : Nat} (h : p i = true) : fnd p (d + 1) i = some i := by simp only [fnd]; rw [if_pos h]
theorem fnd_f {p : Nat → Bool} {d i : Nat} (h : ¬ p i = true) : fnd p (d + 1) i = fnd p d (i + 1) := by simp only [fnd]; rw [if_neg h]
def oI (o : Option Nat) : Int32 := match o with
  | some k => nI k
  | none => -1
theorem fnd_congr {p q : Nat → Bool} : ∀ d i, (∀ k, i ≤ k → k < i + d → p k = q k) → fnd p d i = fnd q d i
  | 0, _, _ => rfl
  | d + 1, i, h => by
    simp only [fnd]
    rw [h i (Nat.le_refl _) (by omega), fnd_congr d (i + 1) (fun k h1 h2 => h k (by omega) (by omega))]
theorem fnd_lt {p : Nat → Bool} : ∀ d i k, fnd p d i = some k → i ≤ k ∧ k < i + d ∧ p k = true
  | 0, _, _, h => by cases h
  | d + 1, i, k, h => by
    simp only [fnd] at h
    split at h
    · cases h; rename_i q; exact ⟨Nat.le_refl _, by omega, q⟩
    · have := fnd_lt d (i + 1) k h
      exact ⟨by omega, by omega, this.2.2⟩
theorem oI_m1 {o : Option Nat} (h : ∀ k, o = some k → k < 1000) : (oI o = -1) = (o = none) := by
  cases o with
  | none => simp [oI]
  | some k =>
    have hk := h k rfl
    refine propext ⟨fun q => ?_, fun q => by cases q⟩
    have q : nI k = -1 := q
    exact absurd (nI_pos' (n := k) (by omega)) (by rw [q]; decide)
section
variable {α : zS} {S : Nat}
theorem HPb (hP : HP S) : 16 ≤ S ∧ S ≤ 60 := by rcases hP with rfl | rfl <;> omega
theorem c_lastNamed (hS : Sh α) (hP : HP S) (x : Int32) {N : Nat} (hN : N ≤ 8) (h5 : gI α S 5 = nI N) : zM 2 [.ref S, .int x] α = some (some (.int (oI (fnd (fun k => decide (gI α (S + 8 + 2 * k) 0 = x)) N 0))), α) := by
  have loop : ∀ d i, d + i = N → zR 1 2 2 [some (.ref S), some (.int x), some (.int (nI i))] [] α = some (some (.int (oI (fnd (fun k => decide (gI α (S + 8 + 2 * k) 0 = x)) d i))), α) := by
    intro d
    induction d with
    | zero =>
      intro i hi
      rw [q_X0_lastNamed_2]
      simp -implicitDefEqProofs only [tg_sI, ln_sI, tg_sL, ln_sL, tg_sR, ln_sR, tg_sC, ln_sC, ai_sI, ai_sL, gL_sI, gR_sI, gI_sL, gR_sL, gI_sR, gL_sR, gI_sI, gL_sL, gR_sR, zlt_e, zln_e, zli_e, zll_e, zbI_e, zbL_e, zbR_e, zbV_e, zeR_e, zeN_s, zeN_n, Nat.reduceEqDiff, and_self, and_true, true_and, and_false, false_and, ite_true, ite_false, reduceIte, tg_P hS hP, h5]
      rw [if_pos (nI_le (by omega) (by omega))]
      rfl
    | succ d ih =>
      intro i hi
      rw [q_X0_lastNamed_2]
      simp -implicitDefEqProofs only [tg_sI, ln_sI, tg_sL, ln_sL, tg_sR, ln_sR, tg_sC, ln_sC, ai_sI, ai_sL, gL_sI, gR_sI, gI_sL, gR_sL, gI_sR, gL_sR, gI_sI, gL_sL, gR_sR, zlt_e, zln_e, zli_e, zll_e, zbI_e, zbL_e, zbR_e, zbV_e, zeR_e, zeN_s, zeN_n, Nat.reduceEqDiff, and_self, and_true, true_and, and_false, false_and, ite_true, ite_false, reduceIte, tg_P hS hP, h5, gR_P_0 hS hP]
      rw [if_neg (nI_ge (by omega) (by omega)), if_pos (ai_nI (.inl (tg_P1 hS hP)) (ln_P1 hS hP) (by omega) (by omega)), ixn (by omega)]
      simp -implicitDefEqProofs only [tg_sI, ln_sI, tg_sL, ln_sL, tg_sR, ln_sR, tg_sC, ln_sC, ai_sI, ai_sL, gL_sI, gR_sI, gI_sL, gR_sL, gI_sR, gL_sR, gI_sI, gL_sL, gR_sR, zlt_e, zln_e, zli_e, zll_e, zbI_e, zbL_e, zbR_e, zbV_e, zeR_e, zeN_s, zeN_n, Nat.reduceEqDiff, and_self, and_true, true_and, and_false, false_and, ite_true, ite_false, reduceIte, gR_Plast hS hP (show i < 8 by omega), tg_Plast hS hP (show i < 8 by omega)]
      rw [nI_1, ih (i + 1) (by omega)]
      simp only [fnd]
      by_cases q : gI α (S + 8 + 2 * i) 0 = x
      · rw [if_pos q, if_pos (by simp [q])]; rfl
      · rw [if_neg q, if_neg (by simp [q])]
  rw [q_X0_lastNamed]
  exact loop N 0 (by omega)
theorem c_hasName (hS : Sh α) (hP : HP S) (x : Int32) {N M K : Nat} (hN : N ≤ 8) (hM : M ≤ 4) (hK : K ≤ 6) (h5 : gI α S 5 = nI N) (h6 : gI α S 6 = nI M) (h7 : gI α S 7 = nI K) : zM 3 [.ref S, .int x] α = some (some (.int (bI ((fnd (fun k => decide (gI α (S + 24 + 2 * k) 0 = x)) M 0).isSome || (fnd (fun k => decide (gI α (S + 32 + 2 * k) 0 = x)) K 0).isSome || (fnd (fun k => decide (gI α (S + 8 + 2 * k) 0 = x)) N 0).isSome))), α) := by
  have loop2 : ∀ d i, d + i = K → zR 2 3 19 [some (.ref S), some (.int x), some (.int (nI i))] [] α = some (some (.int (bI ((fnd (fun k => decide (gI α (S + 32 + 2 * k) 0 = x)) d i).isSome || (fnd (fun k => decide (gI α (S + 8 + 2 * k) 0 = x)) N 0).isSome))), α) := by
    intro d
    induction d with
    | zero =>
      intro i hi
      rw [q_X0_hasName_19]
      simp -implicitDefEqProofs only [tg_sI, ln_sI, tg_sL, ln_sL, tg_sR, ln_sR, tg_sC, ln_sC, ai_sI, ai_sL, gL_sI, gR_sI, gI_sL, gR_sL, gI_sR, gL_sR, gI_sI, gL_sL, gR_sR, zlt_e, zln_e, zli_e, zll_e, zbI_e, zbL_e, zbR_e, zbV_e, zeR_e, zeN_s, zeN_n, Nat.reduceEqDiff, and_self, and_true, true_and, and_false, false_and, ite_true, ite_false, reduceIte, tg_P hS hP, h7, c_lastNamed hS hP x hN h5]
      rw [if_pos (nI_le (by omega) (by omega))]
      have hm := oI_m1 (o := fnd (fun k => decide (gI α (S + 8 + 2 * k) 0 = x)) N 0) (fun k hk => by have := fnd_lt _ _ _ hk; omega)
      simp only [hm]
      cases fnd (fun k => decide (gI α (S + 8 + 2 * k) 0 = x)) N 0 <;> rfl
    | succ d ih =>
      intro i hi
      rw [q_X0_hasName_19]
      simp -implicitDefEqProofs only [tg_sI, ln_sI, tg_sL, ln_sL, tg_sR, ln_sR, tg_sC, ln_sC, ai_sI, ai_sL, gL_sI, gR_sI, gI_sL, gR_sL, gI_sR, gL_sR, gI_sI, gL_sL, gR_sR, zlt_e, zln_e, zli_e, zll_e, zbI_e, zbL_e, zbR_e, zbV_e, zeR_e, zeN_s, zeN_n, Nat.reduceEqDiff, and_self, and_true, true_and, and_false, false_and, ite_true, ite_false, reduceIte, tg_P hS hP, h7, gR_P_2 hS hP]
      rw [if_neg (nI_ge (by omega) (by omega)), if_pos (ai_nI (.inl (tg_P3 hS hP)) (ln_P3 hS hP) (by omega) (by omega)), ixn (by omega)]
      simp -implicitDefEqProofs only [tg_sI, ln_sI, tg_sL, ln_sL, tg_sR, ln_sR, tg_sC, ln_sC, ai_sI, ai_sL, gL_sI, gR_sI, gI_sL, gR_sL, gI_sR, gL_sR, gI_sI, gL_sL, gR_sR, zlt_e, zln_e, zli_e, zll_e, zbI_e, zbL_e, zbR_e, zbV_e, zeR_e, zeN_s, zeN_n, Nat.reduceEqDiff, and_self, and_true, true_and, and_false, false_and, ite_true, ite_false, reduceIte, gR_Pquest hS hP (show i < 6 by omega), tg_Pquest hS hP (show i < 6 by omega)]
      rw [nI_1, ih (i + 1) (by omega)]
      by_cases q : gI α (S + 32 + 2 * i) 0 = x
      · rw [if_pos q, fnd_t (p := fun k => decide (gI α (S + 32 + 2 * k) 0 = x)) (by simp [q])]; rfl
      · rw [if_neg q, fnd_f (p := fun k => decide (gI α (S + 32 + 2 * k) 0 = x)) (by simp [q])]
  have loop : ∀ d i, d + i = M → zR 2 3 2 [some (.ref S), some (.int x), some (.int (nI i))] [] α = some (some (.int (bI ((fnd (fun k => decide (gI α (S + 24 + 2 * k) 0 = x)) d i).isSome || ((fnd (fun k => decide (gI α (S + 32 + 2 * k) 0 = x)) K 0).isSome || (fnd (fun k => decide (gI α (S + 8 + 2 * k) 0 = x)) N 0).isSome)))), α) := by
    intro d
    induction d with
    | zero =>
      intro i hi
      rw [q_X0_hasName_2]
      simp -implicitDefEqProofs only [tg_sI, ln_sI, tg_sL, ln_sL, tg_sR, ln_sR, tg_sC, ln_sC, ai_sI, ai_sL, gL_sI, gR_sI, gI_sL, gR_sL, gI_sR, gL_sR, gI_sI, gL_sL, gR_sR, zlt_e, zln_e, zli_e, zll_e, zbI_e, zbL_e, zbR_e, zbV_e, zeR_e, zeN_s, zeN_n, Nat.reduceEqDiff, and_self, and_true, true_and, and_false, false_and, ite_true, ite_false, reduceIte, tg_P hS hP, h6]
      rw [if_pos (nI_le (by omega) (by omega)), show (some (Value.int 0) : Option Value) = some (.int (nI 0)) from rfl, loop2 K 0 (by omega)]
      rfl
    | succ d ih =>
      intro i hi
      rw [q_X0_hasName_2]
      simp -implicitDefEqProofs only [tg_sI, ln_sI, tg_sL, ln_sL, tg_sR, ln_sR, tg_sC, ln_sC, ai_sI, ai_sL, gL_sI, gR_sI, gI_sL, gR_sL, gI_sR, gL_sR, gI_sI, gL_sL, gR_sR, zlt_e, zln_e, zli_e, zll_e, zbI_e, zbL_e, zbR_e, zbV_e, zeR_e, zeN_s, zeN_n, Nat.reduceEqDiff, and_self, and_true, true_and, and_false, false_and, ite_true, ite_false, reduceIte, tg_P hS hP, h6, gR_P_1 hS hP]
      rw [if_neg (nI_ge (by omega) (by omega)), if_pos (ai_nI (.inl (tg_P2 hS hP)) (ln_P2 hS hP) (by omega) (by omega)), ixn (by omega)]
      simp -implicitDefEqProofs only [tg_sI, ln_sI, tg_sL, ln_sL, tg_sR, ln_sR, tg_sC, ln_sC, ai_sI, ai_sL, gL_sI, gR_sI, gI_sL, gR_sL, gI_sR, gL_sR, gI_sI, gL_sL, gR_sR, zlt_e, zln_e, zli_e, zll_e, zbI_e, zbL_e, zbR_e, zbV_e, zeR_e, zeN_s, zeN_n, Nat.reduceEqDiff, and_self, and_true, true_and, and_false, false_and, ite_true, ite_false, reduceIte, gR_Psort hS hP (show i < 4 by omega), tg_Psort hS hP (show i < 4 by omega)]
      rw [nI_1, ih (i + 1) (by omega)]
      by_cases q : gI α (S + 24 + 2 * i) 0 = x
      · rw [if_pos q, fnd_t (p := fun k => decide (gI α (S + 24 + 2 * k) 0 = x)) (by simp [q])]; rfl
      · rw [if_neg q, fnd_f (p := fun k => decide (gI α (S + 24 + 2 * k) 0 = x)) (by simp [q])]
  rw [q_X0_hasName, show (some (Value.int 0) : Option Value) = some (.int (nI 0)) from rfl, loop M 0 (by omega), Bool.or_assoc]
theorem r_nameOf {β : zS} (hS : Sh β) (y : Int64) {kd N : Nat} (hk : kd < 3) (hN : N ≤ 8) (hm : gI β 214 kd = nI N) : zM 204 [.ref 176, .int (nI kd), .long y] β = some (some (.int (oI (fnd (fun k => decide (gL β 213 (8 * kd + k) = y)) N 0))), β) := by
  have loop : ∀ d i, d + i = N → zR 1 204 2 [some (.ref 176), some (.int (nI kd)), some (.long y), none, some (.int (nI i))] [] β = some (some (.int (oI (fnd (fun k => decide (gL β 213 (8 * kd + k) = y)) d i))), β) := by
    intro d
    induction d with
    | zero =>
      intro i hi
      rw [q_X12_nameOf_2]
      simp -implicitDefEqProofs only [tg_sI, ln_sI, tg_sL, ln_sL, tg_sR, ln_sR, tg_sC, ln_sC, ai_sI, ai_sL, gL_sI, gR_sI, gI_sL, gR_sL, gI_sR, gL_sR, gI_sI, gL_sL, gR_sR, zlt_e, zln_e, zli_e, zll_e, zbI_e, zbL_e, zbR_e, zbV_e, zeR_e, zeN_s, zeN_n, Nat.reduceEqDiff, and_self, and_true, true_and, and_false, false_and, ite_true, ite_false, reduceIte, tg_176 hS, gR_176_47 hS]
      rw [if_pos (ai_nI (.inl (tg_214 hS)) (ln_214 hS) (by omega) (by omega)), ixn (by omega), hm, if_pos (nI_le (by omega) (by omega))]
      rfl
    | succ d ih =>
      intro i hi
      rw [q_X12_nameOf_2]
      simp -implicitDefEqProofs only [tg_sI, ln_sI, tg_sL, ln_sL, tg_sR, ln_sR, tg_sC, ln_sC, ai_sI, ai_sL, gL_sI, gR_sI, gI_sL, gR_sL, gI_sR, gL_sR, gI_sI, gL_sL, gR_sR, zlt_e, zln_e, zli_e, zll_e, zbI_e, zbL_e, zbR_e, zbV_e, zeR_e, zeN_s, zeN_n, Nat.reduceEqDiff, and_self, and_true, true_and, and_false, false_and, ite_true, ite_false, reduceIte, tg_176 hS, gR_176_47 hS, gR_176_46 hS]
      rw [if_pos (ai_nI (.inl (tg_214 hS)) (ln_214 hS) (by omega) (by omega)), ixn (by omega), hm, if_neg (nI_ge (by omega) (by omega)), show (8 : Int32) = nI 8 from rfl, pk_mul, nI_add, if_pos (ai_nI (.inl (tg_213 hS)) (ln_213 hS) (by omega) (by omega)), ixn (by omega), nI_1, ih (i + 1) (by omega)]
      simp only [fnd, cmp_eq]
      by_cases q : gL β 213 (8 * kd + i) = y
      · rw [if_pos q, if_pos (by simp [q])]; rfl
      · rw [if_neg q, if_neg (by simp [q])]
  rw [q_X12_nameOf]
  exact loop N 0 (by omega)
end
