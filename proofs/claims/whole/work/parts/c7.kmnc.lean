/-! means: the class lays out, and what is kept -/
section
variable {σ σ' σ1 σ2 : zS} {pl f g : Nat → Nat} {P A R N w b e y o d r p k so n : Nat}
/-- what stands while the class lays out -/
def LY (σ s : zS) (f g : Nat → Nat) (i j : Nat) : Prop := LO (fun r => r = 108) σ s ∧ ∀ y, y < 7 → gL s 108 y = lN (smN (fun d => smN (ftt f g y d) 3) i + smN (ftt f g y i) j)
theorem c_lay (hS : Sh σ) (tA : tg σ A = 32) (lA : ln σ A = 5) (tR : tg σ R = 32) (lR : ln σ R = 3) (fA : ∀ d, d < 5 → f d ≤ 10000 ∧ gI σ A d = nI (f d)) (gR' : ∀ r, r < 3 → g r ≤ 10000 ∧ gI σ R r = nI (g r)) : ∃ σ', zM 74 [.ref 105, .ref A, .ref R] σ = some (none, σ') ∧ LO (fun r => r = 108) σ σ' ∧ ∀ y, y < 7 → gL σ' 108 y = lN (bgp f g y) := by
  obtain ⟨s1, a1, a2, a3⟩ := c_fillL (σ := σ) (A := 108) 0 (tg_108 hS) (ln_108 hS) (by omega)
  have inn : ∀ i, i < 5 → ∀ s, LY σ s f g i 0 → ∃ s', zR 2 74 11 [some (.ref 105), some (.ref A), some (.ref R), some (.int (nI i)), some (.int 0)] [] s = zR 2 74 6 [some (.ref 105), some (.ref A), some (.ref R), some (.int (nI (i + 1))), some (.int 3)] [] s' ∧ LY σ s' f g (i + 1) 0 := fun i hi s hs => by
    obtain ⟨s', e1, k1⟩ := lp_run (F := fun j (u : zS) => zR 2 74 11 [some (.ref 105), some (.ref A), some (.ref R), some (.int (nI i)), some (.int (nI j))] [] u) (fun j u => LY σ u f g i j) 3 (by
      rintro j s hj ⟨k1, k2⟩
      have hS1 := k1.sh hS
      have fi := fA i hi
      have gj := gR' j hj
      have ag := ai_nI (σ := s) (t := 36) (u := 36) (.inl (tg_108 hS1)) (ln_108 hS1) (show i + 2 - j < 7 by omega) (by omega)
      refine ⟨sL s 108 (i + 2 - j) (gL s 108 (i + 2 - j) + lN (f i * g j)), ?_, k1.trans (LO_sL rfl), fun y hy => ?_⟩
      · rw [q_X7_layOut_11, if_neg (show ¬ (3 : Int32) ≤ nI j from nI_ge (b := 3) hj (by omega)), tg_105 hS1, if_pos rfl, gR_105_2 hS1, zeR_e, q_X7_gapOf, zbI_e, gp_nI hi hj, if_pos ag, if_pos (ai_nI (.inl (by rw [tg_of1 k1.1, tA])) (by rw [ln_of1 k1.1, lA]) hi (by omega)), if_pos (ai_nI (.inl (by rw [tg_of1 k1.1, tR])) (by rw [ln_of1 k1.1, lR]) hj (by omega)), if_pos ag, zlt_e, ixn (by omega), ixn (by omega), ixn (by omega), k1.2.1, k1.2.1, fi.2, gj.2, nI_l (by omega), nI_l (by omega), lN_mul, nI_1]
      · have es : smN (ftt f g y i) (j + 1) = smN (ftt f g y i) j + ftt f g y i j := rfl
        rw [gL_sL, es]
        by_cases q : y = i + 2 - j
        · have : ftt f g y i j = f i * g j := by unfold ftt; rw [if_pos q.symm]
          rw [if_pos ⟨rfl, q⟩, ← q, k2 y hy, lN_add, this, Nat.add_assoc]
        · have : ftt f g y i j = 0 := by unfold ftt; rw [if_neg (fun z => q z.symm)]
          rw [if_neg (fun z => q z.2), k2 y hy, this, Nat.add_zero]) s hs
    refine ⟨s', ?_, k1.1, fun y hy => ?_⟩
    · refine Eq.trans e1 ?_
      rw [q_X7_layOut_11, if_pos (show (3 : Int32) ≤ nI 3 by decide), nI_1]
      rfl
    · rw [k1.2 y hy]
      rfl
  obtain ⟨⟨s2, u⟩, e1, k1⟩ := lp_run (F := fun i (u : zS × Option Value) => zR 2 74 6 [some (.ref 105), some (.ref A), some (.ref R), some (.int (nI i)), u.2] [] u.1) (fun i u => LY σ u.1 f g i 0) 5 (by
    rintro i ⟨s, u⟩ hi hs
    obtain ⟨s', e, k⟩ := inn i hi s hs
    refine ⟨(s', some (.int 3)), ?_, k⟩
    show zR 2 74 6 [some (.ref 105), some (.ref A), some (.ref R), some (.int (nI i)), u] [] s = _
    rw [q_X7_layOut_6, if_neg (show ¬ (5 : Int32) ≤ nI i from nI_ge (b := 5) hi (by omega))]
    exact e) (s1, none) ⟨a2, fun y hy => by rw [a3 y hy]; rfl⟩
  refine ⟨s2, ?_, k1.1, fun y hy => by rw [k1.2 y hy]; rfl⟩
  rw [q_X7_layOut, tg_105 hS, if_pos rfl, gR_105_2 hS, zeR_e, a1, zbV_e]
  refine Eq.trans e1 ?_
  show zR 2 74 6 [some (.ref 105), some (.ref A), some (.ref R), some (.int (nI 5)), u] [] s2 = _
  rw [q_X7_layOut_6, if_pos (show (5 : Int32) ≤ nI 5 by decide)]
theorem c_kept2 (hS : Sh σ) (hP : HP P) (hc : SC σ P pl w) (h1 : 1 ≤ b) (hb : b < 32) (hg : ∀ y, y < 7 → gL σ 108 y = lN (bgp f g y)) : zM 75 [.ref 105, .int (nI b)] σ = some (some (.long (lN (kal pl f g w b))), σ) := by
  have hpl : ∀ d, d < 5 → pl d ≤ 100 := fun d hd => (hc.2.2 d hd).1
  have inn : ∀ y, y < 7 → ∀ T, zR 2 75 11 [some (.ref 105), some (.int (nI b)), some (.long (lN T)), none, some (.int (nI y)), some (.int 0), some (.int 0)] [] σ = zR 2 75 4 [some (.ref 105), some (.int (nI b)), some (.long (lN (T + bgp f g y * mxp pl b y 5))), none, some (.int (nI (y + 1))), some (.int (nI (mxp pl b y 5))), some (.int 5)] [] σ := fun y hy T => by
    have e := lp_seq (G := fun e => zR 2 75 11 [some (.ref 105), some (.int (nI b)), some (.long (lN T)), none, some (.int (nI y)), some (.int (nI (mxp pl b y e))), some (.int (nI e))] [] σ) 5 (fun e he => by
      have l1 := mxp_le (b := b) (y := y) hpl e
      have l2 := plg_le (e := e) (y := y) hpl
      rw [q_X7_keptOf_11, if_neg (show ¬ (5 : Int32) ≤ nI e from nI_ge (b := 5) he (by omega)), c_inb hb (by omega), zbI_e, nI_1]
      rcases (show b / 2 ^ e % 2 = 0 ∨ b / 2 ^ e % 2 = 1 by omega) with q | q
      · have e1 : mxp pl b y (e + 1) = mxp pl b y e := by show (if _ then _ else _) = _; rw [if_pos q]
        rw [q, if_pos (by decide), e1]
      · have q' : ¬ b / 2 ^ e % 2 = 0 := by omega
        rw [q, if_neg (by decide), tg_105 hS, if_pos rfl, c_plg hS hP hc he hy, zbI_e, q_J9_max_7cf53]
        by_cases q2 : mxp pl b y e < plg pl e y
        · have e1 : mxp pl b y (e + 1) = plg pl e y := by show (if _ then _ else _) = _; rw [if_neg q', if_pos q2]
          rw [if_pos (nI_lt q2 (by omega)), zbI_e, e1]
        · have e1 : mxp pl b y (e + 1) = mxp pl b y e := by show (if _ then _ else _) = _; rw [if_neg q', if_neg q2]
          rw [if_neg (nI_nlt (by omega) (by omega)), zbI_e, e1])
    refine Eq.trans e ?_
    have l5 := mxp_le (b := b) (y := y) hpl 5
    rw [q_X7_keptOf_11, if_pos (show (5 : Int32) ≤ nI 5 by decide), tg_105 hS, if_pos rfl, gR_105_2 hS, zeR_e, if_pos (ai_nI (.inl (tg_108 hS)) (ln_108 hS) hy (by omega)), ixn (by omega), hg y hy, nI_l (by omega), lN_mul, lN_add, nI_1]
    rfl
  obtain ⟨⟨u5, u6⟩, e1, -⟩ := lp_run (F := fun i (u : Option Value × Option Value) => zR 2 75 4 [some (.ref 105), some (.int (nI b)), some (.long (lN (smN (fun y => bgp f g y * mxp pl b y 5) i))), none, some (.int (nI i)), u.1, u.2] [] σ) (fun _ _ => True) 7 (by
    rintro i ⟨u5, u6⟩ hi -
    refine ⟨(some (.int (nI (mxp pl b i 5))), some (.int 5)), ?_, trivial⟩
    show zR 2 75 4 [some (.ref 105), some (.int (nI b)), some (.long (lN (smN (fun y => bgp f g y * mxp pl b y 5) i))), none, some (.int (nI i)), u5, u6] [] σ = _
    rw [q_X7_keptOf_4, if_neg (show ¬ (7 : Int32) ≤ nI i from nI_ge (b := 7) hi (by omega)), inn i hi]
    rfl) (none, none) trivial
  rw [q_X7_keptOf]
  refine Eq.trans e1 ?_
  show zR 2 75 4 [some (.ref 105), some (.int (nI b)), some (.long (lN (smN (fun y => bgp f g y * mxp pl b y 5) 7))), none, some (.int (nI 7)), u5, u6] [] σ = _
  rw [q_X7_keptOf_4, if_pos (show (7 : Int32) ≤ nI 7 by decide), tg_105 hS, if_pos rfl, hc.2.1, nI_l (by omega), lN_mul, kal_gap h1 hb]
end
