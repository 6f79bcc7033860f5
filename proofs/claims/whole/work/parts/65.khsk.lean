/-! statements of a house, both at once: stock -/
section
variable {t : Nat → Nat} {n : Nat} {α α' β β' γ : zS} {st : lx} {S N M K : Nat} {X Y : Nat → Nat → Prop}
theorem JH_T (h : JH α β S N M K) (hP : HP S) (hS : Sh α) (hS2 : Sh β) (u : Un X α α') (w : Un Y β β') {i v : Nat} (hX : ∀ r j, S ≤ r → r < S + 44 → X r j → r = S + 6 ∧ j = i) (hY : ∀ r j, 213 ≤ r → r < 225 → Y r j → r = 224 ∧ j = i) (hi : i < 20 * N) (hv : v ≤ 99) (e1 : gI α' (S + 6) i = nI v) (e2 : gI β' 224 i = nI v) : JH α' β' S N M K := by
  have hb := HPb hP
  obtain ⟨h1, h2, h3, h4, h5, h6, h7, h8⟩ := h
  have n1 := h1.1.2.1
  have n2 := h1.2.1.2.1
  have n3 := h1.2.2.2.1
  have nX : ∀ r j, S ≤ r → r < S + 44 → ¬ (r = S + 6 ∧ j = i) → ¬ X r j := fun r j a b c d => c (hX r j a b d)
  have nY : ∀ r j, 213 ≤ r → r < 225 → ¬ (r = 224 ∧ j = i) → ¬ Y r j := fun r j a b c d => c (hY r j a b d)
  refine ⟨JN_un h1 hP u w ⟨nX _ _ (by omega) (by omega) (by omega), nX _ _ (by omega) (by omega) (by omega), nX _ _ (by omega) (by omega) (by omega)⟩ (fun j _ => nY _ _ (by omega) (by omega) (by omega)), JF_un h2 hP u w ⟨nX _ _ (by omega) (by omega) (by omega), nX _ _ (by omega) (by omega) (by omega), nX _ _ (by omega) (by omega) (by omega)⟩ (fun j _ => nY _ _ (by omega) (by omega) (by omega)), JP_un h3 hP u w (fun j => nX _ _ (by omega) (by omega) (by omega)) (fun j _ => nY _ _ (by omega) (by omega) (by omega)), fun k hk => JL_un (h4 k hk) (by omega) hP u w (fun j => ⟨nX _ _ (by omega) (by omega) (by omega), nX _ _ (by omega) (by omega) (by omega)⟩) ⟨nY _ _ (by omega) (by omega) (by omega), nY _ _ (by omega) (by omega) (by omega), fun r _ => nY _ _ (by omega) (by omega) (by omega)⟩, fun k hk => JS_un (h5 k hk) (by omega) hP u w (fun j => ⟨nX _ _ (by omega) (by omega) (by omega), nX _ _ (by omega) (by omega) (by omega)⟩) ⟨nY _ _ (by omega) (by omega) (by omega), nY _ _ (by omega) (by omega) (by omega), nY _ _ (by omega) (by omega) (by omega), nY _ _ (by omega) (by omega) (by omega), fun d _ => nY _ _ (by omega) (by omega) (by omega)⟩, fun k hk => JQ_un (h6 k hk) (by omega) hP u w (fun j => ⟨nX _ _ (by omega) (by omega) (by omega), nX _ _ (by omega) (by omega) (by omega)⟩) ⟨nY _ _ (by omega) (by omega) (by omega), fun d _ => nY _ _ (by omega) (by omega) (by omega)⟩, ⟨fun j hj => ?_, fun j ha hb2 => ?_⟩, JZ_un h8 hP hS u ⟨fun j => nX _ _ (by omega) (by omega) (by omega), fun j => nX _ _ (by omega) (by omega) (by omega), fun k _ => nX _ _ (by omega) (by omega) (by omega)⟩⟩
  · by_cases q : j = i
    · rw [q]; exact ⟨v, hv, e1, e2⟩
    · obtain ⟨v, v1, v2, v3⟩ := h7.1 j hj
      refine ⟨v, v1, ?_, ?_⟩
      · rw [u.iA (by omega) (by omega) (by rw [tg_P6 hS hP]; omega) (nX _ _ (by omega) (by omega) (by omega))]; exact v2
      · rw [w.iA (by omega) (by omega) (by rw [tg_224 hS2]; omega) (nY _ _ (by omega) (by omega) (by omega))]; exact v3
  · rw [u.iA (by omega) (by omega) (by rw [tg_P6 hS hP]; omega) (nX _ _ (by omega) (by omega) (by omega))]; exact h7.2 j ha hb2
theorem pl_nI {k z : Nat} (hz : 30 ≤ z) : nI k * 20 + nI z - 30 = nI (20 * k + z - 30) := by
  rw [show (20 : Int32) = nI 20 from rfl, pk_mul, nI_add, show (30 : Int32) = nI 30 from rfl, pk_sub (by omega), Nat.mul_comm]
theorem pl_nI2 {k z : Nat} (hz : 30 ≤ z) : 20 * nI k + nI z - 30 = nI (20 * k + z - 30) := by
  rw [show (20 : Int32) = nI 20 from rfl, pk_mul, nI_add, show (30 : Int32) = nI 30 from rfl, pk_sub (by omega)]
theorem fnd_none {p : Nat → Bool} : ∀ d i, (∀ k, i ≤ k → k < i + d → p k = false) → fnd p d i = none
  | 0, _, _ => rfl
  | d + 1, i, h => by
    rw [fnd_f (by rw [h i (by omega) (by omega)]; decide)]
    exact fnd_none d (i + 1) (fun k a b => h k (by omega) (by omega))
/-- behind the name: the last o -/
theorem j_stk {s : Nat} {y : Int64} {x : Int32} {o : Option Nat} (hP : HP S) (hC : CS α t n st) (hR : RS β t n st) (hJ : lL st = true → JH α β S N M K) (hN : N ≤ 8) (hs : s < 2000) (ho : ∀ k, o = some k → k < N) (hx : lL st = true → x = oI o ∧ o ≠ none) (z : Int32) : ∃ α' β' st', zbI (zM 110 [.ref 8, .int 30, .int 49] α) (fun x7 σ7 => zR 4 11 29 [some (.ref 11), some (.ref S), some (.int (nI s)), some (.int z), some (.int (oI o)), some (.int x7), none] [] σ7) = some (none, α') ∧ zR 5 212 19 [some (.ref 176), some (.long y), none, some (.int x), none, none] [] β = some (none, β') ∧ JR t n S α β α' β' st' := by
  have hb := HPb hP
  have hS := CS_sh hC
  have hS2 := RS_sh hR
  obtain ⟨α1, β1, v1, w1, a1, a2, a3, a4, a5, a6, a7, a8, a9⟩ := j_num hC hR (lo := 30) (hi := 49) (by decide) (by decide)
  obtain ⟨α2, β2, v2, w2, b1, b2, b3, b4, b5, b6, b7, b8, b9⟩ := j_num a3 a4 (lo := 0) (hi := 99) (by decide) (by decide)
  have a1 : zM 110 [.ref 8, .int 30, .int 49] α = some (some (.int (nI v1)), α1) := a1
  have a2 : zM 200 [.ref 176, .int 30, .int 49] β = some (some (.int w1), β1) := a2
  have b1 : zM 110 [.ref 8, .int 0, .int 99] α1 = some (some (.int (nI v2)), α2) := b1
  have b2 : zM 200 [.ref 176, .int 0, .int 99] β1 = some (some (.int w2), β2) := b2
  have hSa := CS_sh a3
  have hSb := CS_sh b3
  have hSc := RS_sh a4
  have hSd := RS_sh b4
  rw [q_X12_stockTold_19]
  simp -implicitDefEqProofs only [tg_sI, ln_sI, tg_sL, ln_sL, tg_sR, ln_sR, tg_sC, ln_sC, ai_sI, ai_sL, gL_sI, gR_sI, gI_sL, gR_sL, gI_sR, gL_sR, gI_sI, gL_sL, gR_sR, zlt_e, zln_e, zli_e, zll_e, zbI_e, zbL_e, zbR_e, zbV_e, zeR_e, zeN_s, zeN_n, Nat.reduceEqDiff, and_self, and_true, true_and, and_false, false_and, ite_true, ite_false, reduceIte, a1, a2, tg_176 hS2, q_X1_readStock_29, tg_11 hSa, gR_11_0 hSa, tg_8 hSa, b1, q_X12_stockTold_24, tg_176 hSc, b2, tg_176 hSd, bad_of b4, oI_m1 (fun k hk => by have := ho k hk; omega), gR_176_57 hSd]
  have uu : Un (fun r _ => r = 8) α α2 := a5.trans b5
  have ww : Un XL β β2 := a6.trans b6
  by_cases hl : lL (lU t n 0 99 (lU t n 30 49 st)) = true
  · have hl1 := lU_live hl
    have hl0 := lU_live hl1
    obtain ⟨hx1, hx2⟩ := hx hl0
    rw [if_neg hx2, if_pos hl, q_X1_readStock_38]
    match o, ho, hx1, hx2 with
    | some k, ho, hx1, _ =>
      have hk := ho k rfl
      obtain ⟨c1, -⟩ := a9 hl1
      obtain ⟨d1, -⟩ := b9 hl
      have hx1 : x = nI k := hx1
      have hk8 : k < 8 := by omega
      have hi1 : 20 * k + v1 - 30 < 160 := by omega
      have hi2 : 20 * k + v1 - 30 < 20 * N := by omega
      simp -implicitDefEqProofs only [tg_sI, ln_sI, tg_sL, ln_sL, tg_sR, ln_sR, tg_sC, ln_sC, ai_sI, ai_sL, gL_sI, gR_sI, gI_sL, gR_sL, gI_sR, gL_sR, gI_sI, gL_sL, gR_sR, zlt_e, zln_e, zli_e, zll_e, zbI_e, zbL_e, zbR_e, zbV_e, zeR_e, zeN_s, zeN_n, Nat.reduceEqDiff, and_self, and_true, true_and, and_false, false_and, ite_true, ite_false, reduceIte, tg_P hSb hP, gR_P_4 hSb hP, tg_P5 hSb hP, q_X9_set, gR_P5_0 hSb hP, q_X9_placeOf, q_X1_readStock_44]
      rw [hx1, c1, d1, show oI (some k) = nI k from rfl, pl_nI a7, pl_nI2 a7, if_pos (ai_nI (.inl (tg_P6 hSb hP)) (ln_P6 hSb hP) (by omega) (by omega)), if_pos (ai_nI (.inl (tg_224 hSd)) (ln_224 hSd) (by omega) (by omega)), ixn (by omega)]
      simp -implicitDefEqProofs only [tg_sI, ln_sI, tg_sL, ln_sL, tg_sR, ln_sR, tg_sC, ln_sC, ai_sI, ai_sL, gL_sI, gR_sI, gI_sL, gR_sL, gI_sR, gL_sR, gI_sI, gL_sL, gR_sR, zlt_e, zln_e, zli_e, zll_e, zbI_e, zbL_e, zbR_e, zbV_e, zeR_e, zeN_s, zeN_n, Nat.reduceEqDiff, and_self, and_true, true_and, and_false, false_and, ite_true, ite_false, reduceIte]
      refine ⟨_, _, _, rfl, rfl, CS_sI b3 (by omega) (by omega) (by omega) (by omega), RS_sI b4 (by omega), ?_, ?_, fun _ => ⟨N, M, K, ?_⟩⟩
      · exact (uu.mono (fun r j _ _ q => .inl q)).trans (Un_sI (.inr (by omega)))
      · exact (ww.mono (fun r j _ _ q => .inl q)).trans (Un_sI (.inr (by unfold XW; omega)))
      · exact JH_T (JH_rd (hJ hl0) hP hS hS2 uu ww) hP hSb hSd (Un_sI (X := fun r j => r = S + 6 ∧ j = 20 * k + v1 - 30) ⟨rfl, rfl⟩) (Un_sI (X := fun r j => r = 224 ∧ j = 20 * k + v1 - 30) ⟨rfl, rfl⟩) (fun r j _ _ q => q) (fun r j _ _ q => q) hi2 b8 (by rw [gI_sI, if_pos ⟨rfl, rfl⟩]) (by rw [gI_sI, if_pos ⟨rfl, rfl⟩])
    | none, _, _, hx2 => exact absurd rfl hx2
  · rw [if_neg hl]
    match o, ho with
    | none, _ =>
      rw [if_pos rfl, q_X1_readStock_44]
      exact ⟨_, _, _, rfl, rfl, b3, b4, uu.mono (fun r j _ _ q => .inl q), ww.mono (fun r j _ _ q => .inl q), fun q => absurd q hl⟩
    | some k, ho =>
      have hk := ho k rfl
      have hi1 : 20 * k + v1 - 30 < 160 := by omega
      rw [if_neg (by simp), q_X1_readStock_38]
      simp -implicitDefEqProofs only [tg_sI, ln_sI, tg_sL, ln_sL, tg_sR, ln_sR, tg_sC, ln_sC, ai_sI, ai_sL, gL_sI, gR_sI, gI_sL, gR_sL, gI_sR, gL_sR, gI_sI, gL_sL, gR_sR, zlt_e, zln_e, zli_e, zll_e, zbI_e, zbL_e, zbR_e, zbV_e, zeR_e, zeN_s, zeN_n, Nat.reduceEqDiff, and_self, and_true, true_and, and_false, false_and, ite_true, ite_false, reduceIte, tg_P hSb hP, gR_P_4 hSb hP, tg_P5 hSb hP, q_X9_set, gR_P5_0 hSb hP, q_X9_placeOf, q_X1_readStock_44]
      rw [show oI (some k) = nI k from rfl, pl_nI a7, if_pos (ai_nI (.inl (tg_P6 hSb hP)) (ln_P6 hSb hP) (by omega) (by omega)), ixn (by omega)]
      simp -implicitDefEqProofs only [tg_sI, ln_sI, tg_sL, ln_sL, tg_sR, ln_sR, tg_sC, ln_sC, ai_sI, ai_sL, gL_sI, gR_sI, gI_sL, gR_sL, gI_sR, gL_sR, gI_sI, gL_sL, gR_sR, zlt_e, zln_e, zli_e, zll_e, zbI_e, zbL_e, zbR_e, zbV_e, zeR_e, zeN_s, zeN_n, Nat.reduceEqDiff, and_self, and_true, true_and, and_false, false_and, ite_true, ite_false, reduceIte]
      refine ⟨_, _, _, rfl, rfl, CS_sI b3 (by omega) (by omega) (by omega) (by omega), b4, ?_, ww.mono (fun r j _ _ q => .inl q), fun q => absurd q hl⟩
      exact (uu.mono (fun r j _ _ q => .inl q)).trans (Un_sI (.inr (by omega)))
theorem j_stock {s e : Nat} (hP : HP S) (hC : CS α t n (.inl (s, e))) (hw : lw t n (.inl (s, e)) < 35) (hR : RS β t n (la t n (.inl (s, e)))) (hJ : JH α β S N M K) : ∃ α' β' st', zM 11 [.ref 11, .ref S] α = some (none, α') ∧ zM 212 [.ref 176] β = some (none, β') ∧ JR t n S α β α' β' st' := by
  have hb := HPb hP
  have hS := CS_sh hC
  have hS2 := RS_sh hR
  obtain ⟨α1, a1, a2⟩ := c_advW hC hw
  have hS1 := CS_sh a2
  have u1 := Un_tok hS a1 rfl (by decide +kernel)
  have a2' : CS α1 t n (.inl (tkS t n s, tkG t n s e)) := a2
  have hR' : RS β t n (.inl (tkS t n s, tkG t n s e)) := hR
  have hs : tkS t n s < 2000 := by have := a2'.2.1.1; have := hC.1.2.1; omega
  have hJ1 := JH_rd hJ hP hS hS2 u1 (Un.refl XL β)
  obtain ⟨α2, b1, b2⟩ := c_takeName a2'
  obtain ⟨y, β2, c1, c2, c3⟩ := r_name hR'
  have u2 := Un_tok hS1 b1 rfl (by decide +kernel)
  have w2 := Un_ref hS2 c1 rfl (by decide +kernel)
  have hJ2 := JH_rd hJ1 hP hS1 hS2 u2 w2
  have hSa := CS_sh b2
  have hSb := RS_sh c2
  have hN := hJ2.1.1
  generalize hz : nI (if lL (lM t n (.inl (tkS t n s, tkG t n s e))) = true then wv t (lp (.inl (tkS t n s, tkG t n s e))) (tkE t n (lp (.inl (tkS t n s, tkG t n s e)))) else 0) = z at b1
  have d1 := c_lastNamed hSa hP z hN.2.1 hN.1
  have d2 : zM 204 [.ref 176, .int 0, .long y] β2 = _ := r_nameOf (kd := 0) hSb y (by decide) hN.2.1 hN.2.2
  have uJ : ∀ {α' β' st'} (α3 β3 : zS), Un (fun r _ => r = 8) α2 α3 → Un XL β2 β3 → JR t n S α3 β3 α' β' st' → JR t n S α β α' β' st' := by
    intro α' β' st' α3 β3 h3 h4 h
    obtain ⟨j1, j2, j3, j4, j5⟩ := h
    exact ⟨j1, j2, (((u1.trans u2).trans h3).mono (fun r j _ _ q => .inl q)).trans j3, ((w2.trans h4).mono (fun r j _ _ q => .inl q)).trans j4, j5⟩
  have hfl : ∀ (p : Nat → Bool) k, fnd p N 0 = some k → k < N := fun p k hk => by have := fnd_lt N 0 k hk; omega
  have hof : ∀ p : Nat → Bool, (oI (fnd p N 0) = -1) = (fnd p N 0 = none) := fun p => oI_m1 (fun k hk => by have := hfl p k hk; have := hN.2.1; omega)
  rw [q_X1_readStock, q_X12_stockTold]
  simp -implicitDefEqProofs only [tg_sI, ln_sI, tg_sL, ln_sL, tg_sR, ln_sR, tg_sC, ln_sC, ai_sI, ai_sL, gL_sI, gR_sI, gI_sL, gR_sL, gI_sR, gL_sR, gI_sI, gL_sL, gR_sR, zlt_e, zln_e, zli_e, zll_e, zbI_e, zbL_e, zbR_e, zbV_e, zeR_e, zeN_s, zeN_n, Nat.reduceEqDiff, and_self, and_true, true_and, and_false, false_and, ite_true, ite_false, reduceIte, tg_11 hS, gR_11_0 hS, tg_8 hS, a1, tg_11 hS1, gR_11_0 hS1, tg_8 hS1, c_start a2', b1, tg_176 hS2, c1, tg_176 hSb, d2, q_X1_readStock_11, tg_P hSa hP, d1, tg_11 hSa, gR_11_0 hSa, tg_8 hSa, bad_of c2, hof]
  by_cases hl : lL (lM t n (.inl (tkS t n s, tkG t n s e))) = true
  · obtain ⟨s', e', hse, hla, hsn, hk1, h6⟩ := lM_live hl
    cases hse
    obtain ⟨hy, h45⟩ := c3 hl
    have hNM : NM z y := by
      rw [← hz, if_pos hl, hy]
      exact NM_at hsn hk1 h6
    have e0 : fnd (fun k => decide (gI α2 (S + 8 + 2 * k) 0 = z)) N 0 = fnd (fun k => decide (gL β2 213 (8 * 0 + k) = y)) N 0 := fnd_congr _ _ (fun k _ hk => dec_iff (by rw [show 8 * 0 + k = k by omega]; exact NM_eq (hJ2.2.2.2.1 k (by omega)).1 hNM))
    rw [e0, if_pos hl]
    cases ho : fnd (fun k => decide (gL β2 213 (8 * 0 + k) = y)) N 0 with
    | none =>
      obtain ⟨α3, f1, f2⟩ := c_fail b2 (f := 3) (p := tkS t n s) (by decide) (by decide) hs
      obtain ⟨β3, g1, g2⟩ := r_fail c2 (f := 3) (p := tkS t n s) (by decide) (by decide) hs
      have f1 : zM 106 [.ref 8, .int 3, .int (nI (tkS t n s))] α2 = some (none, α3) := f1
      have g1 : zM 191 [.ref 176, .int 3, .int (nI (tkS t n s))] β2 = some (none, β3) := g1
      have hd : lf (lM t n (.inl (tkS t n s, tkG t n s e))) 3 (tkS t n s) = .inr (3, tkS t n s) := by rw [hla]; rfl
      have h45 : gI β2 176 45 = nI (tkS t n s) := h45
      rw [hd] at f2 g2
      have hSc := CS_sh f2
      rw [if_pos rfl, if_pos rfl, h45]
      simp -implicitDefEqProofs only [tg_sI, ln_sI, tg_sL, ln_sL, tg_sR, ln_sR, tg_sC, ln_sC, ai_sI, ai_sL, gL_sI, gR_sI, gI_sL, gR_sL, gI_sR, gL_sR, gI_sI, gL_sL, gR_sR, zlt_e, zln_e, zli_e, zll_e, zbI_e, zbL_e, zbR_e, zbV_e, zeR_e, zeN_s, zeN_n, Nat.reduceEqDiff, and_self, and_true, true_and, and_false, false_and, ite_true, ite_false, reduceIte, f1, g1, tg_11 hSc, gR_11_0 hSc, tg_8 hSc]
      obtain ⟨α', β', st', j1, j2, j3⟩ := j_stk (s := tkS t n s) (y := y) (x := oI none) (o := none) (N := N) (M := M) (K := K) hP f2 g2 (fun q => by cases q) hN.2.1 hs (fun k hk => by cases hk) (fun q => by cases q) z
      exact ⟨α', β', st', j1, j2, uJ _ _ (Un_tok hSa f1 rfl (by decide +kernel)) (Un_ref hSb g1 rfl (by decide +kernel)) j3⟩
    | some k =>
      rw [if_neg (by simp), if_neg (by simp)]
      obtain ⟨α', β', st', j1, j2, j3⟩ := j_stk (s := tkS t n s) (y := y) (x := oI (some k)) (o := some k) (N := N) (M := M) (K := K) hP b2 c2 (fun _ => hJ2) hN.2.1 hs (fun k' hk => by cases hk; exact hfl _ _ ho) (fun q => ⟨rfl, by simp⟩) z
      exact ⟨α', β', st', j1, j2, uJ _ _ (Un.refl _ _) (Un.refl _ _) j3⟩
  · have hz0 : z = nI 0 := by rw [← hz, if_neg hl]
    have ho : fnd (fun k => decide (gI α2 (S + 8 + 2 * k) 0 = z)) N 0 = none := fnd_none _ _ (fun k _ hk => by
      have := NM_pos (hJ2.2.2.2.1 k (by omega)).1
      rw [hz0, nI_0]
      simpa using this)
    rw [ho, if_pos rfl, if_neg hl]
    obtain ⟨α3, f1, f2⟩ := c_fail b2 (f := 3) (p := tkS t n s) (by decide) (by decide) hs
    have f1 : zM 106 [.ref 8, .int 3, .int (nI (tkS t n s))] α2 = some (none, α3) := f1
    have hd : lf (lM t n (.inl (tkS t n s, tkG t n s e))) 3 (tkS t n s) = lM t n (.inl (tkS t n s, tkG t n s e)) := by
      revert hl
      cases lM t n (.inl (tkS t n s, tkG t n s e)) with
      | inl q => intro hl; exact absurd rfl hl
      | inr q => intro _; rfl
    rw [hd] at f2
    have hSc := CS_sh f2
    simp -implicitDefEqProofs only [tg_sI, ln_sI, tg_sL, ln_sL, tg_sR, ln_sR, tg_sC, ln_sC, ai_sI, ai_sL, gL_sI, gR_sI, gI_sL, gR_sL, gI_sR, gL_sR, gI_sI, gL_sL, gR_sR, zlt_e, zln_e, zli_e, zll_e, zbI_e, zbL_e, zbR_e, zbV_e, zeR_e, zeN_s, zeN_n, Nat.reduceEqDiff, and_self, and_true, true_and, and_false, false_and, ite_true, ite_false, reduceIte, f1, tg_11 hSc, gR_11_0 hSc, tg_8 hSc]
    obtain ⟨α', β', st', j1, j2, j3⟩ := j_stk (s := tkS t n s) (y := y) (x := oI (fnd (fun k => decide (gL β2 213 (8 * 0 + k) = y)) N 0)) (o := none) (N := N) (M := M) (K := K) hP f2 c2 (fun q => absurd q hl) hN.2.1 hs (fun k hk => by cases hk) (fun q => absurd q hl) z
    exact ⟨α', β', st', j1, j2, uJ _ _ (Un_tok hSa f1 rfl (by decide +kernel)) (Un.refl _ _) j3⟩
end
