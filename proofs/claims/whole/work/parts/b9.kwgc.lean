/-! weights: the class weighs -/
def wgt (pl f g : Nat → Nat) (w b o d r : Nat) : Nat := lik pl w b o (d + 2 - r) * f d * g r
def wrow (pl f g : Nat → Nat) (w b o d : Nat) : Nat := smN (wgt pl f g w b o d) 3
def wcol (pl f g : Nat → Nat) (w b o r : Nat) : Nat := smN (fun d => wgt pl f g w b o d r) 5
def wall (pl f g : Nat → Nat) (w b o : Nat) : Nat := smN (wrow pl f g w b o) 5
/-- only longs of the cells X have changed -/
def LO (X : Nat → Prop) (σ σ' : zS) : Prop := σ'.1 = σ.1 ∧ (∀ r j, gI σ' r j = gI σ r j) ∧ (∀ r j, gR σ' r j = gR σ r j) ∧ ∀ r j, ¬ X r → gL σ' r j = gL σ r j
section
variable {σ σ' σ1 σ2 : zS} {X Y : Nat → Prop} {pl f g : Nat → Nat} {P A R N w b e y o d r p k so n : Nat}
theorem LO.refl (X : Nat → Prop) (σ : zS) : LO X σ σ := ⟨rfl, fun _ _ => rfl, fun _ _ => rfl, fun _ _ _ => rfl⟩
theorem LO.trans (h : LO X σ σ1) (h2 : LO X σ1 σ2) : LO X σ σ2 := ⟨h2.1.trans h.1, fun r j => (h2.2.1 r j).trans (h.2.1 r j), fun r j => (h2.2.2.1 r j).trans (h.2.2.1 r j), fun r j q => (h2.2.2.2 r j q).trans (h.2.2.2 r j q)⟩
theorem LO.mono (h : LO X σ σ1) (hX : ∀ r, X r → Y r) : LO Y σ σ1 := ⟨h.1, h.2.1, h.2.2.1, fun r j q => h.2.2.2 r j (fun z => q (hX r z))⟩
theorem LO_sL {r j : Nat} {v : Int64} (h : X r) : LO X σ (sL σ r j v) := ⟨rfl, fun _ _ => rfl, fun _ _ => rfl, fun r' j' q => by
  rw [gL_sL, if_neg]
  intro z
  exact q (by rw [z.1]; exact h)⟩
theorem LO.un (h : LO X σ σ1) : Un (fun r _ => X r) σ σ1 := ⟨h.1, fun r j _ _ _ q => ⟨h.2.1 r j, h.2.2.2 r j q, h.2.2.1 r j⟩, fun r j _ _ => h.2.1 r j⟩
theorem LO.sh (h : LO X σ σ1) (hS : Sh σ) : Sh σ1 := h.un.sh hS (fun e _ => h.2.2.1 _ _) (fun e _ => h.2.2.1 _ _) (fun j _ => h.2.1 _ _)
theorem LO.sc (h : LO X σ σ1) (hc : SC σ P pl w) : SC σ1 P pl w := ⟨by rw [h.2.2.1]; exact hc.1, by rw [h.2.1]; exact hc.2.1, fun d hd => ⟨(hc.2.2 d hd).1, by rw [h.2.1]; exact (hc.2.2 d hd).2⟩⟩
theorem c_fillL (v : Int64) (ht : tg σ A = 36) (hl : ln σ A = N) (hN : N < 2 ^ 31) : ∃ σ', zM 334 [.ref A, .long v] σ = some (none, σ') ∧ LO (fun r => r = A) σ σ' ∧ ∀ j, j < N → gL σ' A j = v := by
  rw [q_J7_fill_d0a16, ht, if_pos (by decide), hl]
  obtain ⟨σ1, e1, h1, h2⟩ := lp_run (F := fun i (s : zS) => zR 1 334 5 [some (.ref A), some (.long v), none, some (.int (nI i)), some (.int (nI N))] [] s) (fun i s => LO (fun r => r = A) σ s ∧ ∀ j, j < i → gL s A j = v) N (by
    intro i s hi ⟨h1, h2⟩
    refine ⟨sL s A i v, ?_, h1.trans (LO_sL rfl), fun j hj => ?_⟩
    · rw [q_J7_fill_d0a16_5, if_neg (nI_ge hi hN), if_pos (ai_nI (.inl (by rw [tg_of1 h1.1, ht])) (by rw [ln_of1 h1.1, hl]) hi hN), ixn (by omega), nI_1, zlt_e]
    · rw [gL_sL]
      split
      · rfl
      · exact h2 j (by omega)) σ ⟨LO.refl _ _, fun j hj => by omega⟩
  refine ⟨σ1, ?_, h1, h2⟩
  refine Eq.trans e1 ?_
  rw [q_J7_fill_d0a16_5, if_pos (nI_le (Nat.le_refl _) hN)]
theorem gp_nI (hd : d < 5) (hr : r < 3) : nI d - nI r + 2 = nI (d + 2 - r) := by
  apply Int32.toInt_inj.mp
  have e2 : (2 : Int32).toInt = 2 := by decide
  rw [Int32.toInt_add, Int32.toInt_sub, nI_toInt (by omega), nI_toInt (by omega), nI_toInt (by omega), e2, Int.bmod_eq_of_le (n := ((d : Int) - r)) (by omega) (by omega), Int.bmod_eq_of_le (by omega) (by omega)]
  omega
/-- what stands while the class weighs: d rows done, and r of the row d -/
def LW (σ s : zS) (pl f g : Nat → Nat) (w b o i j : Nat) : Prop := LO (fun r => r = 106 ∨ r = 107) σ s ∧ (∀ d, d < 5 → gL s 106 d = lN (if d < i then wrow pl f g w b o d else if d = i then smN (wgt pl f g w b o i) j else 0)) ∧ ∀ r, r < 3 → gL s 107 r = lN (smN (fun d => wgt pl f g w b o d r) i + if r < j then wgt pl f g w b o i r else 0)
theorem c_w17 (hS : Sh σ) (hP : HP P) (hc : SC σ P pl w) (h1 : 1 ≤ b) (hb : b < 32) (ho : o ≤ 5) (tA : tg σ A = 32) (lA : ln σ A = 5) (tR : tg σ R = 32) (lR : ln σ R = 3) (fA : ∀ d, d < 5 → f d ≤ 10000 ∧ gI σ A d = nI (f d)) (gR' : ∀ r, r < 3 → g r ≤ 10000 ∧ gI σ R r = nI (g r)) {i : Nat} (hi : i < 5) (s : zS) (hs : LW σ s pl f g w b o i 0) (T : Nat) (v9 v10 v11 v12 : Option Value) : ∃ s' : zS, ∃ x9 x10 x11 x12 : Option Value, zR 4 71 17 [some (.ref 105), some (.ref A), some (.ref R), some (.int (nI b)), some (.int (nI o)), some (.long (lN T)), none, some (.int (nI i)), some (.int 0), v9, v10, v11, v12] [] s = zR 4 71 12 [some (.ref 105), some (.ref A), some (.ref R), some (.int (nI b)), some (.int (nI o)), some (.long (lN (T + wrow pl f g w b o i))), none, some (.int (nI (i + 1))), some (.int 3), x9, x10, x11, x12] [] s' ∧ LW σ s' pl f g w b o (i + 1) 0 := by
  obtain ⟨⟨s1, x9, x10, x11, x12⟩, e1, k1⟩ := lp_run (F := fun j (u : zS × Option Value × Option Value × Option Value × Option Value) => zR 4 71 17 [some (.ref 105), some (.ref A), some (.ref R), some (.int (nI b)), some (.int (nI o)), some (.long (lN (T + smN (wgt pl f g w b o i) j))), none, some (.int (nI i)), some (.int (nI j)), u.2.1, u.2.2.1, u.2.2.2.1, u.2.2.2.2] [] u.1) (fun j u => LW σ u.1 pl f g w b o i j) 3 (by
    rintro j ⟨s, u9, u10, u11, u12⟩ hj hs
    have hs : LW σ s pl f g w b o i j := hs
    obtain ⟨k1, k2, k3⟩ := hs
    have hS1 := k1.sh hS
    have hc1 := k1.sc hc
    have lk : lik pl w b o (i + 2 - j) ≤ 10000 := lik_le (fun d hd => (hc.2.2 d hd).1)
    have fi := fA i hi
    have gj := gR' j hj
    have ew : (nI (lik pl w b o (i + 2 - j))).toInt64 * (gI s A i).toInt64 * (gI s R j).toInt64 = lN (wgt pl f g w b o i j) := by
      rw [k1.2.1, k1.2.1, fi.2, gj.2, nI_l (by omega), nI_l (by omega), nI_l (by omega), lN_mul, lN_mul]
      rfl
    refine ⟨(sL (sL s 106 i (gL s 106 i + lN (wgt pl f g w b o i j))) 107 j (gL s 107 j + lN (wgt pl f g w b o i j)), some (.long (nI (lik pl w b o (i + 2 - j))).toInt64), none, some (.long (lN (wgt pl f g w b o i j))), none), ?_, (k1.trans (LO_sL (.inl rfl))).trans (LO_sL (.inr rfl)), fun d hd => ?_, fun r hr => ?_⟩
    · have hS2 : Sh (sL s 106 i (gL s 106 i + lN (wgt pl f g w b o i j))) := hS1.sL
      show zR 4 71 17 [some (.ref 105), some (.ref A), some (.ref R), some (.int (nI b)), some (.int (nI o)), some (.long (lN (T + smN (wgt pl f g w b o i) j))), none, some (.int (nI i)), some (.int (nI j)), u9, u10, u11, u12] [] s = _
      rw [q_X7_weigh_17, if_neg (show ¬ (3 : Int32) ≤ nI j from nI_ge (b := 3) hj (by omega)), q_X7_gapOf, zbI_e, gp_nI hi hj, tg_105 hS1, if_pos rfl, c_that hS1 hP hc1 h1 hb (by omega) ho, zbI_e, if_pos (ai_nI (.inl (by rw [tg_of1 k1.1, tA])) (by rw [ln_of1 k1.1, lA]) hi (by omega)), if_pos (ai_nI (.inl (by rw [tg_of1 k1.1, tR])) (by rw [ln_of1 k1.1, lR]) hj (by omega)), ixn (by omega), ixn (by omega), ew, zll_e, tg_105 hS1, if_pos rfl, gR_105_0 hS1, zeR_e, if_pos (ai_nI (.inl (tg_106 hS1)) (ln_106 hS1) hi (by omega)), if_pos (ai_nI (.inl (tg_106 hS1)) (ln_106 hS1) hi (by omega)), zlt_e, q_X7_weigh_49, tg_105 hS2, if_pos rfl, gR_105_1 hS2, zeR_e, if_pos (ai_nI (.inl (tg_107 hS2)) (ln_107 hS2) hj (by omega)), if_pos (ai_nI (.inl (tg_107 hS2)) (ln_107 hS2) hj (by omega)), ixn (by omega), zlt_e, lN_add, nI_1]
      rw [gL_sL, if_neg (show ¬ (107 = 106 ∧ j = i) by omega), Nat.add_assoc]
      rfl
    · rw [gL_sL, if_neg (by omega), gL_sL]
      by_cases q : d = i
      · subst q
        rw [if_pos ⟨rfl, rfl⟩, k2 d hd, if_neg (by omega), if_pos rfl, if_neg (by omega), if_pos rfl, lN_add]
        rfl
      · rw [if_neg (by omega), k2 d hd, if_neg q, if_neg q]
    · rw [gL_sL]
      by_cases q : r = j
      · subst q
        rw [if_pos ⟨rfl, rfl⟩, k3 r hr, if_neg (by omega), if_pos (by omega), lN_add, Nat.add_zero]
      · rw [if_neg (by omega), gL_sL, if_neg (by omega), k3 r hr]
        by_cases q2 : r < j
        · rw [if_pos q2, if_pos (by omega)]
        · rw [if_neg q2, if_neg (by omega)]) (s, v9, v10, v11, v12) hs
  refine ⟨s1, x9, x10, x11, x12, ?_, k1.1, fun d hd => ?_, fun r hr => ?_⟩
  · refine Eq.trans e1 ?_
    show zR 4 71 17 [some (.ref 105), some (.ref A), some (.ref R), some (.int (nI b)), some (.int (nI o)), some (.long (lN (T + smN (wgt pl f g w b o i) 3))), none, some (.int (nI i)), some (.int (nI 3)), x9, x10, x11, x12] [] s1 = _
    rw [q_X7_weigh_17, if_pos (show (3 : Int32) ≤ nI 3 by decide), nI_1]
    rfl
  · rw [k1.2.1 d hd]
    by_cases q : d < i
    · rw [if_pos q, if_pos (by omega)]
    · by_cases q2 : d = i
      · subst q2
        rw [if_neg (by omega), if_pos rfl, if_pos (by omega)]
        rfl
      · rw [if_neg q, if_neg q2, if_neg (by omega)]
        split <;> rfl
  · rw [k1.2.2 r hr, if_pos hr, if_neg (by omega)]
    rfl
theorem c_weigh (hS : Sh σ) (hP : HP P) (hc : SC σ P pl w) (h1 : 1 ≤ b) (hb : b < 32) (ho : o ≤ 5) (tA : tg σ A = 32) (lA : ln σ A = 5) (tR : tg σ R = 32) (lR : ln σ R = 3) (fA : ∀ d, d < 5 → f d ≤ 10000 ∧ gI σ A d = nI (f d)) (gR' : ∀ r, r < 3 → g r ≤ 10000 ∧ gI σ R r = nI (g r)) : ∃ σ', zM 71 [.ref 105, .ref A, .ref R, .int (nI b), .int (nI o)] σ = some (some (.long (lN (wall pl f g w b o))), σ') ∧ LO (fun r => r = 106 ∨ r = 107) σ σ' ∧ (∀ d, d < 5 → gL σ' 106 d = lN (wrow pl f g w b o d)) ∧ ∀ r, r < 3 → gL σ' 107 r = lN (wcol pl f g w b o r) := by
  obtain ⟨s1, a1, a2, a3⟩ := c_fillL (σ := σ) (A := 106) 0 (tg_106 hS) (ln_106 hS) (by omega)
  have hS1 := a2.sh hS
  obtain ⟨s2, b1, b2, b3⟩ := c_fillL (σ := s1) (A := 107) 0 (tg_107 hS1) (ln_107 hS1) (by omega)
  have hS2 := b2.sh hS1
  have l0 : LO (fun r => r = 106 ∨ r = 107) σ s2 := (a2.mono (fun r q => .inl q)).trans (b2.mono (fun r q => .inr q))
  have w0 : LW σ s2 pl f g w b o 0 0 := ⟨l0, fun d hd => by
    rw [b2.2.2.2 106 d (by omega), a3 d hd, if_neg (by omega)]
    split <;> rfl, fun r hr => by
    rw [b3 r hr, if_neg (by omega)]
    rfl⟩
  obtain ⟨⟨s3, x8, x9, x10, x11, x12⟩, e1, k1⟩ := lp_run (F := fun i (u : zS × Option Value × Option Value × Option Value × Option Value × Option Value) => zR 4 71 12 [some (.ref 105), some (.ref A), some (.ref R), some (.int (nI b)), some (.int (nI o)), some (.long (lN (smN (wrow pl f g w b o) i))), none, some (.int (nI i)), u.2.1, u.2.2.1, u.2.2.2.1, u.2.2.2.2.1, u.2.2.2.2.2] [] u.1) (fun i u => LW σ u.1 pl f g w b o i 0) 5 (by
    rintro i ⟨s, u8, u9, u10, u11, u12⟩ hi hs
    obtain ⟨s', x9, x10, x11, x12, e, k⟩ := c_w17 hS hP hc h1 hb ho tA lA tR lR fA gR' hi s hs (smN (wrow pl f g w b o) i) u9 u10 u11 u12
    refine ⟨(s', some (.int 3), x9, x10, x11, x12), ?_, k⟩
    show zR 4 71 12 [some (.ref 105), some (.ref A), some (.ref R), some (.int (nI b)), some (.int (nI o)), some (.long (lN (smN (wrow pl f g w b o) i))), none, some (.int (nI i)), u8, u9, u10, u11, u12] [] s = _
    rw [q_X7_weigh_12, if_neg (show ¬ (5 : Int32) ≤ nI i from nI_ge (b := 5) hi (by omega))]
    exact e) (s2, none, none, none, none, none) w0
  refine ⟨s3, ?_, k1.1, fun d hd => ?_, fun r hr => ?_⟩
  · rw [q_X7_weigh, tg_105 hS, if_pos rfl, gR_105_0 hS, zeR_e, a1, zbV_e, tg_105 hS1, if_pos rfl, gR_105_1 hS1, zeR_e, b1, zbV_e]
    refine Eq.trans e1 ?_
    show zR 4 71 12 [some (.ref 105), some (.ref A), some (.ref R), some (.int (nI b)), some (.int (nI o)), some (.long (lN (smN (wrow pl f g w b o) 5))), none, some (.int (nI 5)), x8, x9, x10, x11, x12] [] s3 = _
    rw [q_X7_weigh_12, if_pos (show (5 : Int32) ≤ nI 5 by decide)]
    rfl
  · rw [k1.2.1 d hd, if_pos hd]
  · rw [k1.2.2 r hr, if_neg (by omega)]
    rfl
end
