/-! house: the reference lets the house that it read stand -/
/-- half of a row of the reference's houses -/
def hf (r : Nat) : Nat := [24, 3, 8, 24, 20, 4, 4, 4, 30, 5, 3, 160].getD (r - 213) 0
def CPd (l : List Nat) (σ σ' : zS) : Prop := Sh σ' ∧ Un (fun r j => r ∈ l ∧ hf r ≤ j ∧ j < 2 * hf r) σ σ' ∧ ∀ r, r ∈ l → 214 ≤ r → r < 225 → ∀ j, j < hf r → gI σ' r (hf r + j) = gI σ r j
section
variable {σ σ' σ1 σ2 α α' β β' : zS} {X : Nat → Nat → Prop} {l l' : List Nat} {u : Option Value} {B P S N M K np c k n m i : Nat} {t : Nat → Nat} {st : lx}
theorem tg_hf (hS : Sh σ) {r : Nat} (h1 : 213 ≤ r) (h2 : r < 225) : 32 ≤ tg σ r := by
  rw [tg_zT hS (by omega) (by omega)]
  have : ∀ d, d < 12 → 32 ≤ zT (213 + d) := by decide +kernel
  have e := this (r - 213) (by omega)
  rw [show 213 + (r - 213) = r by omega] at e
  exact e
theorem CPd.trans (hS : Sh σ) (h1 : CPd l σ σ1) (h2 : CPd l' σ1 σ2) (hd : ∀ r, r ∈ l → ¬ r ∈ l') : CPd (l ++ l') σ σ2 := by
  refine ⟨h2.1, (h1.2.1.mono (fun r j _ _ q => ⟨List.mem_append_left _ q.1, q.2⟩)).trans (h2.2.1.mono (fun r j _ _ q => ⟨List.mem_append_right _ q.1, q.2⟩)), fun r hr a b j hj => ?_⟩
  rcases List.mem_append.mp hr with q | q
  · rw [h2.2.1.iA (by omega) (by omega) (tg_hf h1.1 (by omega) (by omega)) (fun z => hd r q z.1)]; exact h1.2.2 r q a b j hj
  · rw [h2.2.2 r q a b j hj, h1.2.1.iA (by omega) (by omega) (tg_hf hS (by omega) (by omega)) (fun z => hd r z.1 q)]
theorem lp_cp {F : Nat → zS → zO} (l : List Nat) (m : Nat) (hl : ∀ r, r ∈ l → hf r = m ∧ 214 ≤ r ∧ r < 225) (hs : ∀ i σ, i < m → Sh σ → ∃ σ', F i σ = F (i + 1) σ' ∧ Sh σ' ∧ Un (fun r j => r ∈ l ∧ j = m + i) σ σ' ∧ ∀ r, r ∈ l → gI σ' r (m + i) = gI σ r i) (hS : Sh σ) : ∃ σ', F 0 σ = F m σ' ∧ CPd l σ σ' := by
  obtain ⟨σ1, e1, h1, h2, h3⟩ := lp_run (F := F) (fun i σ' => Sh σ' ∧ Un (fun r j => r ∈ l ∧ hf r ≤ j ∧ j < 2 * hf r) σ σ' ∧ ∀ r, r ∈ l → ∀ j, j < i → gI σ' r (m + j) = gI σ r j) m (by
    intro i g hi ⟨a, b, d⟩
    obtain ⟨g', f1, f2, f3, f4⟩ := hs i g hi a
    refine ⟨g', f1, f2, b.trans (f3.mono (fun r j _ _ q => ⟨q.1, by
      have := (hl r q.1).1
      have := q.2
      omega⟩)), fun r hr j hj => ?_⟩
    obtain ⟨l1, l2, l3⟩ := hl r hr
    rcases Nat.lt_or_ge j i with q | q
    · rw [f3.iA (by omega) (by omega) (tg_hf a (by omega) (by omega)) (fun z => by have := z.2; omega)]; exact d r hr j q
    · have e : j = i := by omega
      subst e
      rw [f4 r hr, b.iA (by omega) (by omega) (tg_hf hS (by omega) (by omega)) (fun z => by have := z.2; omega)]) σ ⟨hS, Un.refl _ _, fun r hr j hj => by omega⟩
  exact ⟨σ1, e1, h1, h2, fun r hr _ _ j hj => by
    have := (hl r hr).1
    rw [this] at hj ⊢
    exact h3 r hr j hj⟩
theorem r_st46 (hS : Sh σ) : ∃ σ', zR 1 215 46 [some (.ref 176), some (.int 0), u] [] σ = zR 1 215 63 [some (.ref 176), some (.int 0), u] [] σ' ∧ CPd [215] σ σ' := by
  obtain ⟨σ1, e1, h1⟩ := lp_cp (F := fun i (σ : zS) => zR 1 215 46 [some (.ref 176), some (.int (nI i)), u] [] σ) [215] 8 (fun r hr => by
    rw [List.mem_singleton] at hr
    subst hr
    exact ⟨rfl, by omega, by omega⟩) (fun i σ hi hS => by
    refine ⟨sI σ 215 (8 + i) (gI σ 215 i), ?_, hS.sI (by omega), Un_sI ⟨List.mem_singleton.mpr rfl, rfl⟩, fun r hr => ?_⟩
    · rw [q_X12_stands_46, if_neg (show ¬ (8 : Int32) ≤ nI i from nI_ge (b := 8) hi (by omega))]
      simp -implicitDefEqProofs only [tg_sI, ln_sI, tg_sL, ln_sL, tg_sR, ln_sR, tg_sC, ln_sC, ai_sI, ai_sL, gL_sI, gR_sI, gI_sL, gR_sL, gI_sR, gL_sR, gI_sI, gL_sL, gR_sR, zlt_e, zln_e, zli_e, zll_e, zbI_e, zbL_e, zbR_e, zbV_e, zeR_e, zeN_s, zeN_n, Nat.reduceEqDiff, and_self, and_true, true_and, and_false, false_and, ite_true, ite_false, reduceIte, tg_176 hS, gR_176_48 hS]
      rw [nI_addL 8 i, if_pos (ai_nI (.inl (tg_215 hS)) (ln_215 hS) (show i < 16 by omega) (by omega)), if_pos (ai_nI (.inl (tg_215 hS)) (ln_215 hS) (show 8 + i < 16 by omega) (by omega)), ixn (show 8 + i < 2 ^ 31 by omega), ixn (show i < 2 ^ 31 by omega), nI_1]
    · rw [List.mem_singleton] at hr
      subst hr
      rw [gI_sI, if_pos ⟨rfl, rfl⟩]) hS
  refine ⟨σ1, ?_, h1⟩
  have e1 : zR 1 215 46 [some (.ref 176), some (.int 0), u] [] σ = zR 1 215 46 [some (.ref 176), some (.int 8), u] [] σ1 := e1
  rw [e1, q_X12_stands_46, if_pos (by decide)]
theorem r_st63 (hS : Sh σ) : ∃ σ', zR 1 215 63 [some (.ref 176), some (.int 0), u] [] σ = zR 1 215 80 [some (.ref 176), some (.int 0), u] [] σ' ∧ CPd [216] σ σ' := by
  obtain ⟨σ1, e1, h1⟩ := lp_cp (F := fun i (σ : zS) => zR 1 215 63 [some (.ref 176), some (.int (nI i)), u] [] σ) [216] 24 (fun r hr => by
    rw [List.mem_singleton] at hr
    subst hr
    exact ⟨rfl, by omega, by omega⟩) (fun i σ hi hS => by
    refine ⟨sI σ 216 (24 + i) (gI σ 216 i), ?_, hS.sI (by omega), Un_sI ⟨List.mem_singleton.mpr rfl, rfl⟩, fun r hr => ?_⟩
    · rw [q_X12_stands_63, if_neg (show ¬ (24 : Int32) ≤ nI i from nI_ge (b := 24) hi (by omega))]
      simp -implicitDefEqProofs only [tg_sI, ln_sI, tg_sL, ln_sL, tg_sR, ln_sR, tg_sC, ln_sC, ai_sI, ai_sL, gL_sI, gR_sI, gI_sL, gR_sL, gI_sR, gL_sR, gI_sI, gL_sL, gR_sR, zlt_e, zln_e, zli_e, zll_e, zbI_e, zbL_e, zbR_e, zbV_e, zeR_e, zeN_s, zeN_n, Nat.reduceEqDiff, and_self, and_true, true_and, and_false, false_and, ite_true, ite_false, reduceIte, tg_176 hS, gR_176_49 hS]
      rw [nI_addL 24 i, if_pos (ai_nI (.inl (tg_216 hS)) (ln_216 hS) (show i < 48 by omega) (by omega)), if_pos (ai_nI (.inl (tg_216 hS)) (ln_216 hS) (show 24 + i < 48 by omega) (by omega)), ixn (show 24 + i < 2 ^ 31 by omega), ixn (show i < 2 ^ 31 by omega), nI_1]
    · rw [List.mem_singleton] at hr
      subst hr
      rw [gI_sI, if_pos ⟨rfl, rfl⟩]) hS
  refine ⟨σ1, ?_, h1⟩
  have e1 : zR 1 215 63 [some (.ref 176), some (.int 0), u] [] σ = zR 1 215 63 [some (.ref 176), some (.int 24), u] [] σ1 := e1
  rw [e1, q_X12_stands_63, if_pos (by decide)]
theorem r_st80 (hS : Sh σ) : ∃ σ', zR 1 215 80 [some (.ref 176), some (.int 0), u] [] σ = zR 1 215 97 [some (.ref 176), some (.int 0), u] [] σ' ∧ CPd [217] σ σ' := by
  obtain ⟨σ1, e1, h1⟩ := lp_cp (F := fun i (σ : zS) => zR 1 215 80 [some (.ref 176), some (.int (nI i)), u] [] σ) [217] 20 (fun r hr => by
    rw [List.mem_singleton] at hr
    subst hr
    exact ⟨rfl, by omega, by omega⟩) (fun i σ hi hS => by
    refine ⟨sI σ 217 (20 + i) (gI σ 217 i), ?_, hS.sI (by omega), Un_sI ⟨List.mem_singleton.mpr rfl, rfl⟩, fun r hr => ?_⟩
    · rw [q_X12_stands_80, if_neg (show ¬ (20 : Int32) ≤ nI i from nI_ge (b := 20) hi (by omega))]
      simp -implicitDefEqProofs only [tg_sI, ln_sI, tg_sL, ln_sL, tg_sR, ln_sR, tg_sC, ln_sC, ai_sI, ai_sL, gL_sI, gR_sI, gI_sL, gR_sL, gI_sR, gL_sR, gI_sI, gL_sL, gR_sR, zlt_e, zln_e, zli_e, zll_e, zbI_e, zbL_e, zbR_e, zbV_e, zeR_e, zeN_s, zeN_n, Nat.reduceEqDiff, and_self, and_true, true_and, and_false, false_and, ite_true, ite_false, reduceIte, tg_176 hS, gR_176_50 hS]
      rw [nI_addL 20 i, if_pos (ai_nI (.inl (tg_217 hS)) (ln_217 hS) (show i < 40 by omega) (by omega)), if_pos (ai_nI (.inl (tg_217 hS)) (ln_217 hS) (show 20 + i < 40 by omega) (by omega)), ixn (show 20 + i < 2 ^ 31 by omega), ixn (show i < 2 ^ 31 by omega), nI_1]
    · rw [List.mem_singleton] at hr
      subst hr
      rw [gI_sI, if_pos ⟨rfl, rfl⟩]) hS
  refine ⟨σ1, ?_, h1⟩
  have e1 : zR 1 215 80 [some (.ref 176), some (.int 0), u] [] σ = zR 1 215 80 [some (.ref 176), some (.int 20), u] [] σ1 := e1
  rw [e1, q_X12_stands_80, if_pos (by decide)]
theorem r_st134 (hS : Sh σ) : ∃ σ', zR 1 215 134 [some (.ref 176), some (.int 0), u] [] σ = zR 1 215 151 [some (.ref 176), some (.int 0), u] [] σ' ∧ CPd [221] σ σ' := by
  obtain ⟨σ1, e1, h1⟩ := lp_cp (F := fun i (σ : zS) => zR 1 215 134 [some (.ref 176), some (.int (nI i)), u] [] σ) [221] 30 (fun r hr => by
    rw [List.mem_singleton] at hr
    subst hr
    exact ⟨rfl, by omega, by omega⟩) (fun i σ hi hS => by
    refine ⟨sI σ 221 (30 + i) (gI σ 221 i), ?_, hS.sI (by omega), Un_sI ⟨List.mem_singleton.mpr rfl, rfl⟩, fun r hr => ?_⟩
    · rw [q_X12_stands_134, if_neg (show ¬ (30 : Int32) ≤ nI i from nI_ge (b := 30) hi (by omega))]
      simp -implicitDefEqProofs only [tg_sI, ln_sI, tg_sL, ln_sL, tg_sR, ln_sR, tg_sC, ln_sC, ai_sI, ai_sL, gL_sI, gR_sI, gI_sL, gR_sL, gI_sR, gL_sR, gI_sI, gL_sL, gR_sR, zlt_e, zln_e, zli_e, zll_e, zbI_e, zbL_e, zbR_e, zbV_e, zeR_e, zeN_s, zeN_n, Nat.reduceEqDiff, and_self, and_true, true_and, and_false, false_and, ite_true, ite_false, reduceIte, tg_176 hS, gR_176_54 hS]
      rw [nI_addL 30 i, if_pos (ai_nI (.inl (tg_221 hS)) (ln_221 hS) (show i < 60 by omega) (by omega)), if_pos (ai_nI (.inl (tg_221 hS)) (ln_221 hS) (show 30 + i < 60 by omega) (by omega)), ixn (show 30 + i < 2 ^ 31 by omega), ixn (show i < 2 ^ 31 by omega), nI_1]
    · rw [List.mem_singleton] at hr
      subst hr
      rw [gI_sI, if_pos ⟨rfl, rfl⟩]) hS
  refine ⟨σ1, ?_, h1⟩
  have e1 : zR 1 215 134 [some (.ref 176), some (.int 0), u] [] σ = zR 1 215 134 [some (.ref 176), some (.int 30), u] [] σ1 := e1
  rw [e1, q_X12_stands_134, if_pos (by decide)]
theorem r_st151 (hS : Sh σ) : ∃ σ', zR 1 215 151 [some (.ref 176), some (.int 0), u] [] σ = zR 1 215 168 [some (.ref 176), some (.int 0), u] [] σ' ∧ CPd [222] σ σ' := by
  obtain ⟨σ1, e1, h1⟩ := lp_cp (F := fun i (σ : zS) => zR 1 215 151 [some (.ref 176), some (.int (nI i)), u] [] σ) [222] 5 (fun r hr => by
    rw [List.mem_singleton] at hr
    subst hr
    exact ⟨rfl, by omega, by omega⟩) (fun i σ hi hS => by
    refine ⟨sI σ 222 (5 + i) (gI σ 222 i), ?_, hS.sI (by omega), Un_sI ⟨List.mem_singleton.mpr rfl, rfl⟩, fun r hr => ?_⟩
    · rw [q_X12_stands_151, if_neg (show ¬ (5 : Int32) ≤ nI i from nI_ge (b := 5) hi (by omega))]
      simp -implicitDefEqProofs only [tg_sI, ln_sI, tg_sL, ln_sL, tg_sR, ln_sR, tg_sC, ln_sC, ai_sI, ai_sL, gL_sI, gR_sI, gI_sL, gR_sL, gI_sR, gL_sR, gI_sI, gL_sL, gR_sR, zlt_e, zln_e, zli_e, zll_e, zbI_e, zbL_e, zbR_e, zbV_e, zeR_e, zeN_s, zeN_n, Nat.reduceEqDiff, and_self, and_true, true_and, and_false, false_and, ite_true, ite_false, reduceIte, tg_176 hS, gR_176_55 hS]
      rw [nI_addL 5 i, if_pos (ai_nI (.inl (tg_222 hS)) (ln_222 hS) (show i < 10 by omega) (by omega)), if_pos (ai_nI (.inl (tg_222 hS)) (ln_222 hS) (show 5 + i < 10 by omega) (by omega)), ixn (show 5 + i < 2 ^ 31 by omega), ixn (show i < 2 ^ 31 by omega), nI_1]
    · rw [List.mem_singleton] at hr
      subst hr
      rw [gI_sI, if_pos ⟨rfl, rfl⟩]) hS
  refine ⟨σ1, ?_, h1⟩
  have e1 : zR 1 215 151 [some (.ref 176), some (.int 0), u] [] σ = zR 1 215 151 [some (.ref 176), some (.int 5), u] [] σ1 := e1
  rw [e1, q_X12_stands_151, if_pos (by decide)]
theorem r_st168 (hS : Sh σ) : ∃ σ', zR 1 215 168 [some (.ref 176), some (.int 0), u] [] σ = zR 1 215 185 [some (.ref 176), some (.int 0), u] [] σ' ∧ CPd [224] σ σ' := by
  obtain ⟨σ1, e1, h1⟩ := lp_cp (F := fun i (σ : zS) => zR 1 215 168 [some (.ref 176), some (.int (nI i)), u] [] σ) [224] 160 (fun r hr => by
    rw [List.mem_singleton] at hr
    subst hr
    exact ⟨rfl, by omega, by omega⟩) (fun i σ hi hS => by
    refine ⟨sI σ 224 (160 + i) (gI σ 224 i), ?_, hS.sI (by omega), Un_sI ⟨List.mem_singleton.mpr rfl, rfl⟩, fun r hr => ?_⟩
    · rw [q_X12_stands_168, if_neg (show ¬ (160 : Int32) ≤ nI i from nI_ge (b := 160) hi (by omega))]
      simp -implicitDefEqProofs only [tg_sI, ln_sI, tg_sL, ln_sL, tg_sR, ln_sR, tg_sC, ln_sC, ai_sI, ai_sL, gL_sI, gR_sI, gI_sL, gR_sL, gI_sR, gL_sR, gI_sI, gL_sL, gR_sR, zlt_e, zln_e, zli_e, zll_e, zbI_e, zbL_e, zbR_e, zbV_e, zeR_e, zeN_s, zeN_n, Nat.reduceEqDiff, and_self, and_true, true_and, and_false, false_and, ite_true, ite_false, reduceIte, tg_176 hS, gR_176_57 hS]
      rw [nI_addL 160 i, if_pos (ai_nI (.inl (tg_224 hS)) (ln_224 hS) (show i < 320 by omega) (by omega)), if_pos (ai_nI (.inl (tg_224 hS)) (ln_224 hS) (show 160 + i < 320 by omega) (by omega)), ixn (show 160 + i < 2 ^ 31 by omega), ixn (show i < 2 ^ 31 by omega), nI_1]
    · rw [List.mem_singleton] at hr
      subst hr
      rw [gI_sI, if_pos ⟨rfl, rfl⟩]) hS
  refine ⟨σ1, ?_, h1⟩
  have e1 : zR 1 215 168 [some (.ref 176), some (.int 0), u] [] σ = zR 1 215 168 [some (.ref 176), some (.int 160), u] [] σ1 := e1
  rw [e1, q_X12_stands_168, if_pos (by decide)]
theorem r_st19 (hS : Sh σ) : ∃ σ', zR 1 215 19 [some (.ref 176), some (.int 0), u] [] σ = zR 1 215 46 [some (.ref 176), some (.int 0), u] [] σ' ∧ CPd [214, 223] σ σ' := by
  obtain ⟨σ1, e1, h1⟩ := lp_cp (F := fun i (σ : zS) => zR 1 215 19 [some (.ref 176), some (.int (nI i)), u] [] σ) [214, 223] 3 (fun r hr => by
    simp only [List.mem_cons, List.not_mem_nil, or_false] at hr
    rcases hr with rfl | rfl <;> exact ⟨rfl, by omega, by omega⟩) (fun i σ hi hS => by
    have hS1 : Sh (sI σ 214 (3 + i) (gI σ 214 i)) := hS.sI (by omega)
    refine ⟨sI (sI σ 214 (3 + i) (gI σ 214 i)) 223 (3 + i) (gI σ 223 i), ?_, hS1.sI (by omega), (Un_sI ⟨by simp, rfl⟩).trans (Un_sI ⟨by simp, rfl⟩), fun r hr => ?_⟩
    · rw [q_X12_stands_19, if_neg (show ¬ (3 : Int32) ≤ nI i from nI_ge (b := 3) hi (by omega))]
      simp -implicitDefEqProofs only [tg_sI, ln_sI, tg_sL, ln_sL, tg_sR, ln_sR, tg_sC, ln_sC, ai_sI, ai_sL, gL_sI, gR_sI, gI_sL, gR_sL, gI_sR, gL_sR, gI_sI, gL_sL, gR_sR, zlt_e, zln_e, zli_e, zll_e, zbI_e, zbL_e, zbR_e, zbV_e, zeR_e, zeN_s, zeN_n, Nat.reduceEqDiff, and_self, and_true, true_and, and_false, false_and, ite_true, ite_false, reduceIte, tg_176 hS, gR_176_47 hS, gR_176_56 hS]
      rw [nI_addL 3 i, if_pos (ai_nI (.inl (tg_214 hS)) (ln_214 hS) (show i < 6 by omega) (by omega)), if_pos (ai_nI (.inl (tg_214 hS)) (ln_214 hS) (show 3 + i < 6 by omega) (by omega)), ixn (show 3 + i < 2 ^ 31 by omega), ixn (show i < 2 ^ 31 by omega), if_pos (ai_nI (.inl (tg_223 hS)) (ln_223 hS) (show i < 6 by omega) (by omega)), if_pos (ai_nI (.inl (tg_223 hS)) (ln_223 hS) (show 3 + i < 6 by omega) (by omega)), nI_1]
    · simp only [List.mem_cons, List.not_mem_nil, or_false] at hr
      rcases hr with rfl | rfl
      · rw [gI_sI, if_neg (by omega), gI_sI, if_pos ⟨rfl, rfl⟩]
      · rw [gI_sI, if_pos ⟨rfl, rfl⟩]) hS
  refine ⟨σ1, ?_, h1⟩
  have e1 : zR 1 215 19 [some (.ref 176), some (.int 0), u] [] σ = zR 1 215 19 [some (.ref 176), some (.int 3), u] [] σ1 := e1
  rw [e1, q_X12_stands_19, if_pos (by decide)]
theorem r_st97 (hS : Sh σ) : ∃ σ', zR 1 215 97 [some (.ref 176), some (.int 0), u] [] σ = zR 1 215 134 [some (.ref 176), some (.int 0), u] [] σ' ∧ CPd [218, 219, 220] σ σ' := by
  obtain ⟨σ1, e1, h1⟩ := lp_cp (F := fun i (σ : zS) => zR 1 215 97 [some (.ref 176), some (.int (nI i)), u] [] σ) [218, 219, 220] 4 (fun r hr => by
    simp only [List.mem_cons, List.not_mem_nil, or_false] at hr
    rcases hr with rfl | rfl | rfl <;> exact ⟨rfl, by omega, by omega⟩) (fun i σ hi hS => by
    refine ⟨sI (sI (sI σ 218 (4 + i) (gI σ 218 i)) 219 (4 + i) (gI σ 219 i)) 220 (4 + i) (gI σ 220 i), ?_, ((hS.sI (by omega)).sI (by omega)).sI (by omega), (Un_sI ⟨by simp, rfl⟩).trans ((Un_sI ⟨by simp, rfl⟩).trans (Un_sI ⟨by simp, rfl⟩)), fun r hr => ?_⟩
    · rw [q_X12_stands_97, if_neg (show ¬ (4 : Int32) ≤ nI i from nI_ge (b := 4) hi (by omega))]
      simp -implicitDefEqProofs only [tg_sI, ln_sI, tg_sL, ln_sL, tg_sR, ln_sR, tg_sC, ln_sC, ai_sI, ai_sL, gL_sI, gR_sI, gI_sL, gR_sL, gI_sR, gL_sR, gI_sI, gL_sL, gR_sR, zlt_e, zln_e, zli_e, zll_e, zbI_e, zbL_e, zbR_e, zbV_e, zeR_e, zeN_s, zeN_n, Nat.reduceEqDiff, and_self, and_true, true_and, and_false, false_and, ite_true, ite_false, reduceIte, tg_176 hS, gR_176_51 hS, gR_176_52 hS, gR_176_53 hS]
      rw [nI_addL 4 i, if_pos (ai_nI (.inl (tg_218 hS)) (ln_218 hS) (show i < 8 by omega) (by omega)), if_pos (ai_nI (.inl (tg_218 hS)) (ln_218 hS) (show 4 + i < 8 by omega) (by omega)), ixn (show 4 + i < 2 ^ 31 by omega), ixn (show i < 2 ^ 31 by omega), if_pos (ai_nI (.inl (tg_219 hS)) (ln_219 hS) (show i < 8 by omega) (by omega)), if_pos (ai_nI (.inl (tg_219 hS)) (ln_219 hS) (show 4 + i < 8 by omega) (by omega)), if_pos (ai_nI (.inl (tg_220 hS)) (ln_220 hS) (show i < 8 by omega) (by omega)), if_pos (ai_nI (.inl (tg_220 hS)) (ln_220 hS) (show 4 + i < 8 by omega) (by omega)), nI_1]
    · simp only [List.mem_cons, List.not_mem_nil, or_false] at hr
      rcases hr with rfl | rfl | rfl
      · rw [gI_sI, if_neg (by omega), gI_sI, if_neg (by omega), gI_sI, if_pos ⟨rfl, rfl⟩]
      · rw [gI_sI, if_neg (by omega), gI_sI, if_pos ⟨rfl, rfl⟩]
      · rw [gI_sI, if_pos ⟨rfl, rfl⟩]) hS
  refine ⟨σ1, ?_, h1⟩
  have e1 : zR 1 215 97 [some (.ref 176), some (.int 0), u] [] σ = zR 1 215 97 [some (.ref 176), some (.int 4), u] [] σ1 := e1
  rw [e1, q_X12_stands_97, if_pos (by decide)]
theorem r_st2 (hS : Sh σ) : ∃ σ', zR 1 215 2 [some (.ref 176), some (.int 0), u] [] σ = zR 1 215 19 [some (.ref 176), some (.int 0), u] [] σ' ∧ CPd [213] σ σ' ∧ ∀ j, j < 24 → gL σ' 213 (24 + j) = gL σ 213 j := by
  obtain ⟨σ1, e1, h1, h2, h3⟩ := lp_run (F := fun i (σ : zS) => zR 1 215 2 [some (.ref 176), some (.int (nI i)), u] [] σ) (fun i σ' => Sh σ' ∧ Un (fun r j => r ∈ [213] ∧ hf r ≤ j ∧ j < 2 * hf r) σ σ' ∧ ∀ j, j < i → gL σ' 213 (24 + j) = gL σ 213 j) 24 (by
    intro i g hi ⟨a, b, d⟩
    refine ⟨sL g 213 (24 + i) (gL g 213 i), ?_, a.sL, b.trans (Un_sL ⟨List.mem_singleton.mpr rfl, by
      have : hf 213 = 24 := rfl
      omega⟩), fun j hj => ?_⟩
    · rw [q_X12_stands_2, if_neg (show ¬ (24 : Int32) ≤ nI i from nI_ge (b := 24) hi (by omega))]
      simp -implicitDefEqProofs only [tg_sI, ln_sI, tg_sL, ln_sL, tg_sR, ln_sR, tg_sC, ln_sC, ai_sI, ai_sL, gL_sI, gR_sI, gI_sL, gR_sL, gI_sR, gL_sR, gI_sI, gL_sL, gR_sR, zlt_e, zln_e, zli_e, zll_e, zbI_e, zbL_e, zbR_e, zbV_e, zeR_e, zeN_s, zeN_n, Nat.reduceEqDiff, and_self, and_true, true_and, and_false, false_and, ite_true, ite_false, reduceIte, tg_176 a, gR_176_46 a]
      rw [nI_addL 24 i, if_pos (ai_nI (.inl (tg_213 a)) (ln_213 a) (show i < 48 by omega) (by omega)), if_pos (ai_nI (.inl (tg_213 a)) (ln_213 a) (show 24 + i < 48 by omega) (by omega)), ixn (show 24 + i < 2 ^ 31 by omega), ixn (show i < 2 ^ 31 by omega), nI_1]
    · rw [gL_sL]
      rcases Nat.lt_or_ge j i with q | q
      · rw [if_neg (by omega)]; exact d j q
      · have e : j = i := by omega
        subst e
        rw [if_pos ⟨rfl, rfl⟩, b.l (by omega) (by omega) (by omega) (fun z => by
          have : hf 213 = 24 := rfl
          have := z.2
          omega)]) σ ⟨hS, Un.refl _ _, fun j hj => by omega⟩
  refine ⟨σ1, ?_, ⟨h1, h2, fun r hr a _ => by
    rw [List.mem_singleton] at hr
    omega⟩, h3⟩
  have e1 : zR 1 215 2 [some (.ref 176), some (.int 0), u] [] σ = zR 1 215 2 [some (.ref 176), some (.int 24), u] [] σ1 := e1
  rw [e1, q_X12_stands_2, if_pos (by decide)]
theorem r_st198 (hS : Sh σ) (hk : k < 8) : ∃ σ', zR 1 215 198 [some (.ref 176), some (.int (nI k)), some (.int 0)] [] σ = zR 1 215 185 [some (.ref 176), some (.int (nI (k + 1))), some (.int 3)] [] σ' ∧ Sh σ' ∧ Un (fun r j => r = 235 ∧ 3 * k ≤ j) σ σ' ∧ ∀ i, i < 3 → gI σ' 235 (3 * k + i) = 100 * gI σ 216 (3 * k + i) := by
  obtain ⟨σ1, e1, h1, h2, h3⟩ := lp_run (F := fun i (σ : zS) => zR 1 215 198 [some (.ref 176), some (.int (nI k)), some (.int (nI i))] [] σ) (fun i σ' => Sh σ' ∧ Un (fun r j => r = 235 ∧ 3 * k ≤ j) σ σ' ∧ ∀ j, j < i → gI σ' 235 (3 * k + j) = 100 * gI σ 216 (3 * k + j)) 3 (by
    intro i g hi ⟨a, b, d⟩
    refine ⟨sI g 235 (3 * k + i) (100 * gI g 216 (3 * k + i)), ?_, a.sI (by omega), b.trans (Un_sI (by omega)), fun j hj => ?_⟩
    · rw [q_X12_stands_198, if_neg (show ¬ (3 : Int32) ≤ nI i from nI_ge (b := 3) hi (by omega))]
      simp -implicitDefEqProofs only [tg_sI, ln_sI, tg_sL, ln_sL, tg_sR, ln_sR, tg_sC, ln_sC, ai_sI, ai_sL, gL_sI, gR_sI, gI_sL, gR_sL, gI_sR, gL_sR, gI_sI, gL_sL, gR_sR, zlt_e, zln_e, zli_e, zll_e, zbI_e, zbL_e, zbR_e, zbV_e, zeR_e, zeN_s, zeN_n, Nat.reduceEqDiff, and_self, and_true, true_and, and_false, false_and, ite_true, ite_false, reduceIte, tg_176 a, gR_176_74 a, gR_176_49 a]
      rw [nI_mulL 3 k, nI_add, if_pos (ai_nI (.inl (tg_216 a)) (ln_216 a) (show 3 * k + i < 48 by omega) (by omega)), if_pos (ai_nI (.inl (tg_235 a)) (ln_235 a) (show 3 * k + i < 24 by omega) (by omega)), ixn (show 3 * k + i < 2 ^ 31 by omega), nI_1]
    · rw [gI_sI]
      rcases Nat.lt_or_ge j i with q | q
      · rw [if_neg (by omega)]; exact d j q
      · have e : j = i := by omega
        subst e
        rw [if_pos ⟨rfl, rfl⟩, b.i (by omega) (by omega) (by omega) (by omega)]) σ ⟨hS, Un.refl _ _, fun j hj => by omega⟩
  refine ⟨σ1, ?_, h1, h2, h3⟩
  have e1 : zR 1 215 198 [some (.ref 176), some (.int (nI k)), some (.int 0)] [] σ = zR 1 215 198 [some (.ref 176), some (.int (nI k)), some (.int 3)] [] σ1 := e1
  rw [e1, q_X12_stands_198, if_pos (by decide), nI_1]
theorem r_st185 (hS : Sh σ) (hN : gI σ 214 0 = nI N) (h8 : N ≤ 8) : ∃ σ', zR 1 215 185 [some (.ref 176), some (.int 0), u] [] σ = some (none, σ') ∧ Sh σ' ∧ Un (fun r j => r = 235 ∨ r = 241 ∨ (r = 176 ∧ (j = 70 ∨ j = 82 ∨ j = 83 ∨ j = 84))) σ σ' ∧ (∀ k, k < N → gI σ' 241 k = -1) ∧ (∀ k, k < N → ∀ i, i < 3 → gI σ' 235 (3 * k + i) = 100 * gI σ 216 (3 * k + i)) ∧ gI σ' 176 70 = 0 ∧ gI σ' 176 82 = 0 ∧ gI σ' 176 83 = 0 ∧ gI σ' 176 84 = 0 := by
  have a0 : ∀ g, Sh g → ai g 32 48 214 0 = true := fun g a => ai_nI (k := 0) (.inl (tg_214 a)) (ln_214 a) (by omega) (by omega)
  have i0 : ix 0 = 0 := ixn (n := 0) (by omega)
  obtain ⟨⟨u', σ1⟩, e1, h1, h2, h3, h4⟩ := lp_run (F := fun i (g : Option Value × zS) => zR 1 215 185 [some (.ref 176), some (.int (nI i)), g.1] [] g.2) (fun k g => Sh g.2 ∧ Un (fun r j => r = 235 ∨ r = 241) σ g.2 ∧ (∀ j, j < k → gI g.2 241 j = -1) ∧ ∀ j, j < k → ∀ i, i < 3 → gI g.2 235 (3 * j + i) = 100 * gI σ 216 (3 * j + i)) N (by
    rintro k ⟨u', g⟩ hk ⟨a, b, d, e⟩
    simp only at a b d e ⊢
    have hSg : Sh (sI g 241 k (-1)) := a.sI (by omega)
    obtain ⟨g', f1, f2, f3, f4⟩ := r_st198 (k := k) hSg (by omega)
    have hg : gI g 214 0 = nI N := by rw [b.i (by omega) (by omega) (by omega) (by omega)]; exact hN
    refine ⟨(some (.int 3), g'), ?_, f2, b.trans ((Un_sI (.inr rfl)).trans (f3.mono (fun r j _ _ q => .inl q.1))), fun j hj => ?_, fun j hj i hi => ?_⟩
    · rw [q_X12_stands_185]
      simp -implicitDefEqProofs only [tg_sI, ln_sI, tg_sL, ln_sL, tg_sR, ln_sR, tg_sC, ln_sC, ai_sI, ai_sL, gL_sI, gR_sI, gI_sL, gR_sL, gI_sR, gL_sR, gI_sI, gL_sL, gR_sR, zlt_e, zln_e, zli_e, zll_e, zbI_e, zbL_e, zbR_e, zbV_e, zeR_e, zeN_s, zeN_n, Nat.reduceEqDiff, and_self, and_true, true_and, and_false, false_and, ite_true, ite_false, reduceIte, tg_176 a, gR_176_47 a, a0 g a, i0, hg]
      rw [if_neg (nI_ge hk (by omega)), gR_176_80 a]
      simp -implicitDefEqProofs only [tg_sI, ln_sI, tg_sL, ln_sL, tg_sR, ln_sR, tg_sC, ln_sC, ai_sI, ai_sL, gL_sI, gR_sI, gI_sL, gR_sL, gI_sR, gL_sR, gI_sI, gL_sL, gR_sR, zlt_e, zln_e, zli_e, zll_e, zbI_e, zbL_e, zbR_e, zbV_e, zeR_e, zeN_s, zeN_n, Nat.reduceEqDiff, and_self, and_true, true_and, and_false, false_and, ite_true, ite_false, reduceIte]
      rw [if_pos (ai_nI (.inl (tg_241 a)) (ln_241 a) (show k < 8 by omega) (by omega)), ixn (by omega), f1]
    · show gI g' 241 j = -1
      rw [f3.i (by omega) (by omega) (by omega) (by omega), gI_sI]
      split
      · rfl
      · exact d j (by omega)
    · show gI g' 235 (3 * j + i) = _
      rcases Nat.lt_or_ge j k with q | q
      · rw [f3.i (by omega) (by omega) (by omega) (by omega), gI_sI, if_neg (by omega)]; exact e j q i hi
      · have ee : j = k := by omega
        subst ee
        rw [f4 i hi, gI_sI, if_neg (by omega), b.i (by omega) (by omega) (by omega) (by omega)]) (u, σ) ⟨hS, Un.refl _ _, fun j hj => by omega, fun j hj => by omega⟩
  simp only at h1 h2 h3 h4
  have hg : gI σ1 214 0 = nI N := by rw [h2.i (by omega) (by omega) (by omega) (by omega)]; exact hN
  have e1 : zR 1 215 185 [some (.ref 176), some (.int 0), u] [] σ = zR 1 215 185 [some (.ref 176), some (.int (nI N)), u'] [] σ1 := e1
  refine ⟨sI (sI (sI (sI σ1 176 70 0) 176 82 0) 176 83 0) 176 84 0, ?_, (((h1.sI (by omega)).sI (by omega)).sI (by omega)).sI (by omega), (h2.mono (fun r j _ _ q => by omega)).trans ((Un_sI (by omega)).trans ((Un_sI (by omega)).trans ((Un_sI (by omega)).trans (Un_sI (by omega))))), fun k hk => ?_, fun k hk i hi => ?_, ?_, ?_, ?_, ?_⟩
  · rw [e1, q_X12_stands_185]
    simp -implicitDefEqProofs only [tg_sI, ln_sI, tg_sL, ln_sL, tg_sR, ln_sR, tg_sC, ln_sC, ai_sI, ai_sL, gL_sI, gR_sI, gI_sL, gR_sL, gI_sR, gL_sR, gI_sI, gL_sL, gR_sR, zlt_e, zln_e, zli_e, zll_e, zbI_e, zbL_e, zbR_e, zbV_e, zeR_e, zeN_s, zeN_n, Nat.reduceEqDiff, and_self, and_true, true_and, and_false, false_and, ite_true, ite_false, reduceIte, tg_176 h1, gR_176_47 h1, a0 σ1 h1, i0, hg]
    rw [if_pos (nI_le (Nat.le_refl _) (by omega))]
  · rw [gI_sI, if_neg (by omega), gI_sI, if_neg (by omega), gI_sI, if_neg (by omega), gI_sI, if_neg (by omega)]; exact h3 k hk
  · rw [gI_sI, if_neg (by omega), gI_sI, if_neg (by omega), gI_sI, if_neg (by omega), gI_sI, if_neg (by omega)]; exact h4 k hk i hi
  · rw [gI_sI, if_neg (by omega), gI_sI, if_neg (by omega), gI_sI, if_neg (by omega), gI_sI, if_pos ⟨rfl, rfl⟩]
  · rw [gI_sI, if_neg (by omega), gI_sI, if_neg (by omega), gI_sI, if_pos ⟨rfl, rfl⟩]
  · rw [gI_sI, if_neg (by omega), gI_sI, if_pos ⟨rfl, rfl⟩]
  · rw [gI_sI, if_pos ⟨rfl, rfl⟩]
/-- the house stands: all halves copied, thoughts begun, nobody there -/
theorem r_stands (hS : Sh σ) (hN : gI σ 214 0 = nI N) (h8 : N ≤ 8) : ∃ σ', zM 215 [.ref 176] σ = some (none, σ') ∧ Sh σ' ∧ Un (fun r j => (213 ≤ r ∧ r < 225 ∧ hf r ≤ j) ∨ r = 235 ∨ r = 241 ∨ (r = 176 ∧ (j = 70 ∨ j = 82 ∨ j = 83 ∨ j = 84))) σ σ' ∧ (∀ r, 214 ≤ r → r < 225 → ∀ j, j < hf r → gI σ' r (hf r + j) = gI σ r j) ∧ (∀ j, j < 24 → gL σ' 213 (24 + j) = gL σ 213 j) ∧ (∀ k, k < N → gI σ' 241 k = -1) ∧ (∀ k, k < N → ∀ i, i < 3 → gI σ' 235 (3 * k + i) = 100 * gI σ 216 (3 * k + i)) ∧ gI σ' 176 70 = 0 ∧ gI σ' 176 82 = 0 ∧ gI σ' 176 83 = 0 ∧ gI σ' 176 84 = 0 := by
  obtain ⟨s1, e1, c1, g1⟩ := r_st2 (u := none) hS
  obtain ⟨s2, e2, c2⟩ := r_st19 (u := none) c1.1
  obtain ⟨s3, e3, c3⟩ := r_st46 (u := none) c2.1
  obtain ⟨s4, e4, c4⟩ := r_st63 (u := none) c3.1
  obtain ⟨s5, e5, c5⟩ := r_st80 (u := none) c4.1
  obtain ⟨s6, e6, c6⟩ := r_st97 (u := none) c5.1
  obtain ⟨s7, e7, c7⟩ := r_st134 (u := none) c6.1
  obtain ⟨s8, e8, c8⟩ := r_st151 (u := none) c7.1
  obtain ⟨s9, e9, c9⟩ := r_st168 (u := none) c8.1
  have d8 := CPd.trans c7.1 c8 c9 (by decide)
  have d7 := CPd.trans c6.1 c7 d8 (by decide)
  have d6 := CPd.trans c5.1 c6 d7 (by decide)
  have d5 := CPd.trans c4.1 c5 d6 (by decide)
  have d4 := CPd.trans c3.1 c4 d5 (by decide)
  have d3 := CPd.trans c2.1 c3 d4 (by decide)
  have d2 := CPd.trans c1.1 c2 d3 (by decide)
  have d1 := CPd.trans hS c1 d2 (by decide)
  have mem : ∀ r, 213 ≤ r → r < 225 → r ∈ ([213] ++ ([214, 223] ++ ([215] ++ ([216] ++ ([217] ++ ([218, 219, 220] ++ ([221] ++ ([222] ++ [224])))))))) := by
    have : ∀ d, d < 12 → 213 + d ∈ ([213] ++ ([214, 223] ++ ([215] ++ ([216] ++ ([217] ++ ([218, 219, 220] ++ ([221] ++ ([222] ++ [224])))))))) := by decide
    intro r a b
    have e := this (r - 213) (by omega)
    rw [show 213 + (r - 213) = r by omega] at e
    exact e
  have mem' : ∀ r, r ∈ ([213] ++ ([214, 223] ++ ([215] ++ ([216] ++ ([217] ++ ([218, 219, 220] ++ ([221] ++ ([222] ++ [224])))))))) → 213 ≤ r ∧ r < 225 := by decide
  have hl : ∀ r, 214 ≤ r → r < 225 → 0 < hf r := by
    have : ∀ d, d < 11 → 0 < hf (214 + d) := by decide
    intro r a b
    have e := this (r - 214) (by omega)
    rw [show 214 + (r - 214) = r by omega] at e
    exact e
  have hN9 : gI s9 214 0 = nI N := by
    rw [d1.2.1.i (by omega) (by omega) (by omega) (fun z => by
      have := hl 214 (by omega) (by omega)
      have := z.2.1
      omega)]; exact hN
  obtain ⟨s, e10, k1, k2, k3, k4, k5, k6, k7, k8⟩ := r_st185 (u := none) d1.1 hN9 h8
  refine ⟨s, ?_, k1, (d1.2.1.mono (fun r j _ _ q => .inl ⟨(mem' r q.1).1, (mem' r q.1).2, q.2.1⟩)).trans (k2.mono (fun r j _ _ q => .inr q)), fun r a b j hj => ?_, fun j hj => ?_, k3, fun k hk i hi => ?_, k5, k6, k7, k8⟩
  · rw [q_X12_stands, e1, e2, e3, e4, e5, e6, e7, e8, e9, e10]
  · rw [k2.iA (by omega) (by omega) (tg_hf d1.1 (by omega) (by omega)) (by omega)]
    exact d1.2.2 r (mem r (by omega) b) a b j hj
  · rw [k2.l (by omega) (by omega) (by omega) (by omega), d2.2.1.l (by omega) (by omega) (by omega) (fun z => absurd z.1 (by decide))]
    exact g1 j hj
  · rw [k4 k hk i hi, d1.2.1.i (by omega) (by omega) (by omega) (fun z => by
      have e : hf 216 = 24 := rfl
      have := z.2.1
      omega)]
end
