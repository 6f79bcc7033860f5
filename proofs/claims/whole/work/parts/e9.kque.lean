/-! question: both answer alike -/
section
variable {σ σ' σ1 σ2 : zS} {s : Nat → Int32} {zf pl f f0 g v t : Nat → Nat} {B P S N M K np c n A q0 w b e o d r p k so z pr fa wi ch : Nat} {y : Int32}
theorem wtA_bd (hpl : ∀ d, d < 5 → pl d ≤ 100) (hf : f 0 + f 1 + f 2 + f 3 + f 4 = 10000) (hg : g 0 + g 1 + g 2 = 10000) (h1 : pr ≤ 9999) (h2 : fa ≤ 9999) (h3 : wi ≤ 9999) (h4 : ch ≤ 99) (hv : ∀ d, d < 5 → v d ≤ 100) (hq : ¬ cls (okb s z) (fun b => (mbv pl f g w pr fa wi ch b).toInt) 31 = 0) : -5000000000000 ≤ (wtA s z pl f g w pr fa wi ch v y).toInt ∧ (wtA s z pl f g w pr fa wi ch v y).toInt ≤ 5000000000000 := by
  unfold wtA
  by_cases q : aal f v y = 0
  · rw [if_pos q]; decide
  · rw [if_neg q]
    have al := aal_le (y := y) hf hv
    have sa := anF_sum (f := f) (v := v) (y := y) (Nat.pos_of_ne_zero q)
    have bd := bmv_bd (s := s) (z := z) (w := w) hpl sa hg h1 h2 h3 h4 (cls_any hq)
    generalize (bmv s z pl (anF f v y) g w pr fa wi ch) = m at bd
    generalize aal f v y = a at al
    have p1 : (a : Int) * m.toInt ≤ (a : Int) * 5000000 := Int.mul_le_mul_of_nonneg_left bd.2 (by omega)
    have p2 : (a : Int) * (-5000000) ≤ (a : Int) * m.toInt := Int.mul_le_mul_of_nonneg_left bd.1 (by omega)
    rw [Int64.toInt_mul, pk_lT (by omega), Int32.toInt_toInt64, Int.bmod_eq_of_le (by omega) (by omega)]
    omega
theorem wth_bd (hpl : ∀ d, d < 5 → pl d ≤ 100) (hf : f 0 + f 1 + f 2 + f 3 + f 4 = 10000) (hg : g 0 + g 1 + g 2 = 10000) (h1 : pr ≤ 9999) (h2 : fa ≤ 9999) (h3 : wi ≤ 9999) (h4 : ch ≤ 99) (hv : ∀ d, d < 5 → v d ≤ 100) (hq : ¬ cls (okb s z) (fun b => (mbv pl f g w pr fa wi ch b).toInt) 31 = 0) : -1000000000 < (wth s z pl f g w pr fa wi ch v).toInt := by
  have b1 := wtA_bd (y := 1) (w := w) hpl hf hg h1 h2 h3 h4 hv hq
  have b0 := wtA_bd (y := 0) (w := w) hpl hf hg h1 h2 h3 h4 hv hq
  have bb := bmv_bd (w := w) hpl hf hg h1 h2 h3 h4 hq
  unfold wth
  generalize wtA s z pl f g w pr fa wi ch v 1 = X at b1
  generalize wtA s z pl f g w pr fa wi ch v 0 = Y at b0
  generalize bmv s z pl f g w pr fa wi ch = m at bb
  have e6 : (1000000 : Int64).toInt = 1000000 := by decide
  have es : (X + Y).toInt = X.toInt + Y.toInt := by rw [Int64.toInt_add, Int.bmod_eq_of_le (by omega) (by omega)]
  rw [Int32.toInt_sub, Int64.toInt_toInt32, fdv_ti (by rw [e6]; omega), e6, es, Int.bmod_eq_of_le (n := (X.toInt + Y.toInt) / 1000000) (by omega) (by omega), Int.bmod_eq_of_le (by omega) (by omega)]
  omega
theorem c_qL (hS : Sh σ) (hP : HP P) (h65 : gR σ 6 5 = some P) (h7 : gI σ P 7 = nI K) (hK : K ≤ 6) (now : Int32) (wv : Nat → Int32) (hw : ∀ i, i < K → ∀ s, Sh s → Un (fun r j => (105 ≤ r ∧ r < 110) ∨ r = 112) σ s → ∃ s', zM 167 [.ref 6, .int now, .int (nI i), .int (nI p), .int (nI k)] s = some (some (.int (wv i)), s') ∧ Sh s' ∧ Un (fun r j => (105 ≤ r ∧ r < 110) ∨ r = 112) s s') (u7 : Option Value) : ∃ σ', zR 7 168 34 [some (.ref 6), some (.int (nI p)), some (.int (nI k)), some (.int now), some (.int (-1)), some (.int (-1000000000)), some (.int 0), u7] [] σ = some (some (.int (if K = 0 then -1 else nI (stx (fun i => (wv i).toInt) K))), σ') ∧ Sh σ' ∧ Un (fun r j => (105 ≤ r ∧ r < 110) ∨ r = 112) σ σ' := by
  have hbb := HPb hP
  obtain ⟨⟨s1, u⟩, e1, k1, k2⟩ := lp_run (F := fun i (u : zS × Option Value) => zR 7 168 34 [some (.ref 6), some (.int (nI p)), some (.int (nI k)), some (.int now), some (.int (if i = 0 then -1 else nI (stx (fun i => (wv i).toInt) i))), some (.int (if i = 0 then -1000000000 else wv (stx (fun i => (wv i).toInt) i))), some (.int (nI i)), u.2] [] u.1) (fun i u => Sh u.1 ∧ Un (fun r j => (105 ≤ r ∧ r < 110) ∨ r = 112) σ u.1) K (by
    rintro i ⟨s, u⟩ hi ⟨k1, k2⟩
    have k1 : Sh s := k1
    have k2 : Un (fun r j => (105 ≤ r ∧ r < 110) ∨ r = 112) σ s := k2
    obtain ⟨s', a1, a2, a3⟩ := hw i hi s k1 k2
    have e65 : gR s 6 5 = some P := by rw [k2.r (by omega) (by omega) (by omega) (by omega)]; exact h65
    have g7 : gI s P 7 = nI K := by rw [k2.i (by omega) (by omega) (by omega) (by omega)]; exact h7
    have sl := stx_le (fun i => (wv i).toInt) i
    refine ⟨(s', some (.int (wv i))), ?_, a2, k2.trans a3⟩
    show zR 7 168 34 [some (.ref 6), some (.int (nI p)), some (.int (nI k)), some (.int now), some (.int (if i = 0 then -1 else nI (stx (fun i => (wv i).toInt) i))), some (.int (if i = 0 then -1000000000 else wv (stx (fun i => (wv i).toInt) i))), some (.int (nI i)), u] [] s = _
    rw [q_X11_question_34, tg_6 k1, if_pos rfl, e65, zeR_e, tg_P k1 hP, if_pos rfl, g7, if_neg (nI_ge hi (by omega)), if_pos rfl, a1, zbI_e, nI_1]
    by_cases q0 : i = 0
    · subst q0
      rw [if_pos rfl, if_pos rfl, stx_1, if_neg (show ¬ 0 + 1 = 0 by omega), if_neg (show ¬ 0 + 1 = 0 by omega)]
    · rw [if_neg q0, if_neg q0, stx_s _ q0, if_neg (show ¬ i + 1 = 0 by omega), if_neg (show ¬ i + 1 = 0 by omega)]
      generalize stx (fun i => (wv i).toInt) i = x at sl
      rw [if_neg (show ¬ nI x = -1 from nI_nm1 (by omega))]
      by_cases q1 : (wv x).toInt < (wv i).toInt
      · rw [if_neg (show ¬ wv i ≤ wv x by rw [Int32.le_iff_toInt_le]; omega), if_pos q1]
      · rw [if_pos (show wv i ≤ wv x by rw [Int32.le_iff_toInt_le]; omega), if_neg q1]) (σ, u7) ⟨hS, Un.refl _ _⟩
  have k1 : Sh s1 := k1
  have k2 : Un (fun r j => (105 ≤ r ∧ r < 110) ∨ r = 112) σ s1 := k2
  have e65 : gR s1 6 5 = some P := by rw [k2.r (by omega) (by omega) (by omega) (by omega)]; exact h65
  have g7 : gI s1 P 7 = nI K := by rw [k2.i (by omega) (by omega) (by omega) (by omega)]; exact h7
  refine ⟨s1, ?_, k1, k2⟩
  refine Eq.trans e1 ?_
  show zR 7 168 34 [some (.ref 6), some (.int (nI p)), some (.int (nI k)), some (.int now), some (.int (if K = 0 then -1 else nI (stx (fun i => (wv i).toInt) K))), some (.int _), some (.int (nI K)), u] [] s1 = _
  rw [q_X11_question_34, tg_6 k1, if_pos rfl, e65, zeR_e, tg_P k1 hP, if_pos rfl, g7, if_pos (nI_le (Nat.le_refl _) (by omega))]
theorem r_qL (hS : Sh σ) (h5 : gI σ 214 5 = nI K) (hK : K ≤ 6) (x l : Int32) (wv : Nat → Int32) (hn : (∀ i, i < K → wv i = -1000000000) ∨ ∀ i, i < K → -1000000000 < (wv i).toInt) (hw : ∀ i, i < K → ∀ s, Sh s → Un (fun r _ => r = 246 ∨ r = 251 ∨ r = 234) σ s → (∀ j, j < 100 → gI s 234 j = gI σ 234 j) → ∃ s', zM 296 [.ref 176, .int (nI i), .int x, .int l] s = some (some (.int (wv i)), s') ∧ Sh s' ∧ Un (fun r _ => r = 246 ∨ r = 251 ∨ r = 234) s s' ∧ ∀ j, j < 100 → gI s' 234 j = gI s 234 j) : ∃ σ', zM 297 [.ref 176, .int x, .int l] σ = some (some (.int (if K = 0 ∨ wv 0 = -1000000000 then -1 else nI (stx (fun i => (wv i).toInt) K))), σ') ∧ Sh σ' ∧ Un (fun r _ => r = 246 ∨ r = 251 ∨ r = 234) σ σ' ∧ ∀ j, j < 100 → gI σ' 234 j = gI σ 234 j := by
  have a5 : ∀ s, Sh s → ai s 32 48 214 5 = true := fun s hs => ai_nI (k := 5) (.inl (tg_214 hs)) (ln_214 hs) (by omega) (by omega)
  have m9 : (-1000000000 : Int32).toInt = -1000000000 := by decide
  obtain ⟨⟨s1, u⟩, e1, k1, k2, k3⟩ := lp_run (F := fun i (u : zS × Option Value) => zR 10 297 6 [some (.ref 176), some (.int x), some (.int l), some (.int (if i = 0 ∨ wv 0 = -1000000000 then -1 else nI (stx (fun i => (wv i).toInt) i))), some (.int (if i = 0 ∨ wv 0 = -1000000000 then -1000000000 else wv (stx (fun i => (wv i).toInt) i))), some (.int (nI i)), u.2] [] u.1) (fun i u => Sh u.1 ∧ Un (fun r _ => r = 246 ∨ r = 251 ∨ r = 234) σ u.1 ∧ ∀ j, j < 100 → gI u.1 234 j = gI σ 234 j) K (by
    rintro i ⟨s, u⟩ hi ⟨k1, k2, k3⟩
    have k1 : Sh s := k1
    have k2 : Un (fun r _ => r = 246 ∨ r = 251 ∨ r = 234) σ s := k2
    have k3 : ∀ j, j < 100 → gI s 234 j = gI σ 234 j := k3
    obtain ⟨s', a1, a2, a3, a4⟩ := hw i hi s k1 k2 k3
    have g5 : gI s 214 5 = nI K := by rw [k2.i (by omega) (by omega) (by omega) (by omega)]; exact h5
    have sl := stx_le (fun i => (wv i).toInt) i
    refine ⟨(s', some (.int (wv i))), ?_, a2, k2.trans a3, fun j hj => by show gI s' 234 j = _; rw [a4 j hj, k3 j hj]⟩
    show zR 10 297 6 [some (.ref 176), some (.int x), some (.int l), some (.int (if i = 0 ∨ wv 0 = -1000000000 then -1 else nI (stx (fun i => (wv i).toInt) i))), some (.int (if i = 0 ∨ wv 0 = -1000000000 then -1000000000 else wv (stx (fun i => (wv i).toInt) i))), some (.int (nI i)), u] [] s = _
    rw [q_X12_question_6, tg_176 k1, if_pos rfl, gR_176_47 k1, zeR_e, if_pos (a5 s k1), show ix (5 : Int32) = 5 from rfl, g5, if_neg (nI_ge hi (by omega)), if_pos rfl, a1, zbI_e, nI_1]
    rcases hn with hn | hn
    · have w0 : wv 0 = -1000000000 := hn 0 (by omega)
      have wi' : wv i = -1000000000 := hn i hi
      have c0 : i = 0 ∨ wv 0 = -1000000000 := Or.inr w0
      have c1 : i + 1 = 0 ∨ wv 0 = -1000000000 := Or.inr w0
      rw [if_pos c0, if_pos c0, if_pos c1, if_pos c1, wi', if_neg (show ¬ (-1000000000 : Int32) < -1000000000 by decide)]
    · have w0 : ¬ wv 0 = -1000000000 := fun z => by
        have := hn 0 (by omega)
        rw [z, m9] at this
        omega
      by_cases q0 : i = 0
      · subst q0
        have c0 : 0 = 0 ∨ wv 0 = -1000000000 := Or.inl rfl
        have c1 : ¬ (0 + 1 = 0 ∨ wv 0 = -1000000000) := fun z => z.elim (fun z => by omega) w0
        rw [if_pos c0, if_pos c0, stx_1, if_neg c1, if_neg c1, if_pos (show (-1000000000 : Int32) < wv 0 by rw [Int32.lt_iff_toInt_lt, m9]; exact hn 0 hi)]
      · have n0 : ¬ (i = 0 ∨ wv 0 = -1000000000) := fun z => z.elim q0 w0
        have n1 : ¬ (i + 1 = 0 ∨ wv 0 = -1000000000) := fun z => z.elim (fun z => by omega) w0
        rw [if_neg n0, if_neg n0, stx_s _ q0, if_neg n1, if_neg n1]
        generalize stx (fun i => (wv i).toInt) i = x' at sl
        by_cases q1 : (wv x').toInt < (wv i).toInt
        · rw [if_pos (show wv x' < wv i by rw [Int32.lt_iff_toInt_lt]; exact q1), if_pos q1]
        · rw [if_neg (show ¬ wv x' < wv i by rw [Int32.lt_iff_toInt_lt]; exact q1), if_neg q1]) (σ, none) ⟨hS, Un.refl _ _, fun _ _ => rfl⟩
  have k1 : Sh s1 := k1
  have k2 : Un (fun r _ => r = 246 ∨ r = 251 ∨ r = 234) σ s1 := k2
  have g5 : gI s1 214 5 = nI K := by rw [k2.i (by omega) (by omega) (by omega) (by omega)]; exact h5
  refine ⟨s1, ?_, k1, k2, k3⟩
  rw [q_X12_question]
  refine Eq.trans (Eq.trans ?_ e1) ?_
  · show _ = zR 10 297 6 [some (.ref 176), some (.int x), some (.int l), some (.int (if 0 = 0 ∨ wv 0 = -1000000000 then -1 else nI (stx (fun i => (wv i).toInt) 0))), some (.int (if 0 = 0 ∨ wv 0 = -1000000000 then -1000000000 else wv (stx (fun i => (wv i).toInt) 0))), some (.int (nI 0)), none] [] σ
    have c0 : 0 = 0 ∨ wv 0 = -1000000000 := Or.inl rfl
    rw [if_pos c0, if_pos c0]
    rfl
  · show zR 10 297 6 [some (.ref 176), some (.int x), some (.int l), some (.int (if K = 0 ∨ wv 0 = -1000000000 then -1 else nI (stx (fun i => (wv i).toInt) K))), some (.int _), some (.int (nI K)), u] [] s1 = _
    rw [q_X12_question_6, tg_176 k1, if_pos rfl, gR_176_47 k1, zeR_e, if_pos (a5 s1 k1), show ix (5 : Int32) = 5 from rfl, g5, if_pos (nI_le (Nat.le_refl _) (by omega))]
theorem op_question (h : RR B σ c P S N M K np t n) (y l : Int32) : Al B σ c 168 [.ref 6, .int y, .int l] 297 [.ref 176, .int y, .int l] := by
  have hS := h.1
  have hP := h.2.1.1
  have hbb := HPb hP
  have p20 := (RR_pn h).1
  have n8 := (RR_hn h).1.2.1
  have k6 := (RR_hn h).2.2.2.1
  have h65 := h.2.1.2.2.2.1
  have h5 := (RR_hn h).2.2.2.2
  obtain ⟨zf, hz⟩ := RR_zf h
  -- nothing is asked
  have none : (¬ (0 ≤ y ∧ y < nI np) ∨ ¬ (0 ≤ l ∧ l < nI N)) → ∃ σ2, zM 297 [.ref 176, .int y, .int l] σ = some (some (.int (-1)), σ2) ∧ RX B σ2 (c + 1) := fun q => by
    obtain ⟨σ2, r1, r2, r3, r4⟩ := r_qL hS h5 k6 y l (fun _ => -1000000000) (.inl (fun _ _ => rfl)) (fun i hi s' hSs us e => by
      have h' := RR_rest h hSs us e
      refine ⟨s', ?_, hSs, Un.refl _ _, fun _ _ => rfl⟩
      have qq := rng_ok hi (show K < 2 ^ 31 by omega)
      rw [q_X12_worth, tg_176 hSs, if_pos rfl, r_isQ hSs (RR_hn h').2.2.2.2 (by omega), zbI_e, if_pos qq, if_neg (by decide), tg_176 hSs, if_pos rfl, RR_rP h', zbI_e]
      by_cases qp : 0 ≤ y ∧ y < nI np
      · rw [if_pos qp, if_neg (by decide), tg_176 hSs, if_pos rfl, RR_rL h', zbI_e, if_neg (q.resolve_left (fun z => z qp)), if_pos rfl]
      · rw [if_neg qp, if_pos rfl])
    rw [if_pos (show K = 0 ∨ (-1000000000 : Int32) = -1000000000 from Or.inr rfl)] at r1
    exact ⟨σ2, r1, P, S, N, M, K, np, t, n, RR_mono (RR_rest h r2 r3 r4) (by omega)⟩
  rcases rng_no y (N := np) (by omega) with q | ⟨p, hp, rfl⟩
  · obtain ⟨σ2, r1, r2⟩ := none (.inl q)
    exact ⟨-1, σ, σ2, by rw [q_X11_question, tg_6 hS, if_pos rfl, RR_cP h, zbI_e, if_neg q, if_pos rfl], hS, r1, r2⟩
  have qp := rng_ok hp (show np < 2 ^ 31 by omega)
  rcases rng_no l (N := N) (by omega) with q | ⟨k, hk, rfl⟩
  · obtain ⟨σ2, r1, r2⟩ := none (.inr q)
    exact ⟨-1, σ, σ2, by rw [q_X11_question, tg_6 hS, if_pos rfl, RR_cP h, zbI_e, if_pos qp, if_neg (by decide), tg_6 hS, if_pos rfl, RR_cL h, zbI_e, if_neg q, if_pos rfl], hS, r1, r2⟩
  have qk := rng_ok hk (show N < 2 ^ 31 by omega)
  have hp20 : p < 20 := by omega
  have hk8 : k < 8 := by omega
  obtain ⟨so, pl, f, g, w, pr, fa, wi, ch, s, s4, c99, x1, x2, x3, hpl, f1, g1, ck, rk⟩ := RR_k h hz hp hk
  obtain ⟨z1, z2, z3, z4⟩ := hz p hp
  have ap := ai_nI (σ := σ) (t := 69) (u := 69) (.inl (tg_104 hS)) (ln_104 hS) hp20 (by omega)
  have hvf : ∃ vf : Nat → Nat → Nat, ∀ q0, q0 < K → ∀ d, d < 5 → vf q0 d ≤ 100 ∧ gI σ (P + 33 + 2 * q0) d = nI (vf q0 d) ∧ gI σ 221 (30 + 5 * q0 + d) = nI (vf q0 d) := by
    refine ⟨fun q0 d => ix (gI σ 221 (30 + 5 * q0 + d)), fun q0 hq d hd => ?_⟩
    obtain ⟨v, hv⟩ := RR_qd h hq
    obtain ⟨v1, v2, v3⟩ := hv d hd
    have e : ix (gI σ 221 (30 + 5 * q0 + d)) = v d := by rw [v3, ixn (by omega)]
    simp only [e]
    exact ⟨v1, v2, v3⟩
  obtain ⟨vf, hvf⟩ := hvf
  obtain ⟨σ1, e1, e2, e3⟩ := c_bmean hS hP ck.1 hp20 hk8 s4 ck.2.1 (tg_pfeet hS hp20) (ln_pfeet hS hp20) (by omega) ck.2.1.2.2.2.2.1 ck.2.2.1 ck.2.2.2.1 ck.2.2.2.2.1 ⟨z1, z2⟩ ck.2.2.2.2.2
  have u1 : Un (fun r j => (105 ≤ r ∧ r < 110) ∨ r = 112) σ σ1 := e3.mono (fun r j _ _ q => by omega)
  have ck1 := CK_un ck hS hP hp20 hk8 s4 u1
  have en := bmv_no (s := s) (z := zf p) (w := w) hpl f1 g1 x1 x2 x3 c99
  obtain ⟨σ2, b1, b2, b3⟩ := c_qL (p := p) (k := k) (K := K) e2 hP ck1.1 (by rw [u1.i (by omega) (by omega) (by omega) (by omega)]; exact (RR_hn h).2.2.1) k6 (bmv s (zf p) pl f g w pr fa wi ch) (fun i => wth s (zf p) pl f g w pr fa wi ch (vf i)) (fun i hi s' hSs us => by
    have cks := CK_un ck1 e2 hP hp20 hk8 s4 us
    exact c_beside (s := s) (v := vf i) (q0 := i) hSs hP cks.1 hp20 hk8 (by omega) s4 cks.2.1 f1 cks.2.2.1 cks.2.2.2.1 cks.2.2.2.2.1 ⟨z1, z2⟩ cks.2.2.2.2.2 (fun d hd => ⟨(hvf i hi d hd).1, by rw [us.i (by omega) (by omega) (by omega) (by omega), u1.i (by omega) (by omega) (by omega) (by omega)]; exact (hvf i hi d hd).2.1⟩)) Option.none
  have cg : zM 168 [.ref 6, .int (nI p), .int (nI k)] σ = if bmv s (zf p) pl f g w pr fa wi ch = -1000000000 then some (some (.int (-1)), σ1) else some (some (.int (if K = 0 then -1 else nI (stx (fun i => (wth s (zf p) pl f g w pr fa wi ch (vf i)).toInt) K))), σ2) := by
    rw [q_X11_question, tg_6 hS, if_pos rfl, RR_cP h, zbI_e, if_pos qp, if_neg (by decide), tg_6 hS, if_pos rfl, RR_cL h, zbI_e, if_pos qk, if_neg (by decide), q_X11_question_10, tg_6 hS, if_pos rfl, gR_6_9 hS, zeR_e, if_pos ap, ixn (by omega), gR_people hS hp20, zeR_e, if_pos rfl, zeR_e, if_pos ap, gR_people hS hp20, zeR_e, tg_person hS hp20, if_pos rfl, gR_pfeet hS hp20, zeR_e, if_pos rfl, e1, zbI_e]
    by_cases q : bmv s (zf p) pl f g w pr fa wi ch = -1000000000
    · rw [if_pos q, if_pos q]
    · rw [if_neg q, if_neg q, b1]
  have rg : ∀ s', Sh s' → Un (fun r j => (105 ≤ r ∧ r < 110) ∨ r = 112) σ s' → ∃ σ3, zM 297 [.ref 176, .int (nI p), .int (nI k)] s' = some (some (.int (if cls (okb s (zf p)) (fun b => (mbv pl f g w pr fa wi ch b).toInt) 31 = 0 then -1 else if K = 0 then -1 else nI (stx (fun i => (wth s (zf p) pl f g w pr fa wi ch (vf i)).toInt) K))), σ3) ∧ RX B σ3 (c + 1) := fun s' hSs us => by
    have ux : Un Xs σ s' := us.mono (fun r j _ _ q => by unfold Xs; omega)
    have h' := RR_xs h ux hSs
    have rk' := RK_xs rk hS p20 hp20 hk8 s4 ux
    by_cases qc : cls (okb s (zf p)) (fun b => (mbv pl f g w pr fa wi ch b).toInt) 31 = 0
    · obtain ⟨σ3, r1, r2, r3, r4⟩ := r_qL hSs (RR_hn h').2.2.2.2 k6 (nI p) (nI k) (fun _ => -1000000000) (.inl (fun _ _ => rfl)) (fun i hi s3 hS3 u3 e => by
        have h3 := RR_rest h' hS3 u3 e
        have qq := rng_ok hi (show K < 2 ^ 31 by omega)
        obtain ⟨s4', r1, r2, r3, r4⟩ := r_worthV (q0 := i) (v := vf i) hS3 p20 n8 hp hk (by omega) s4 c99 f1 g1 (RK_un rk' hSs p20 hp20 hk8 s4 u3 e) (fun d hd => ⟨(hvf i hi d hd).1, by rw [u3.i (by omega) (by omega) (by omega) (by omega), us.i (by omega) (by omega) (by omega) (by omega)]; exact (hvf i hi d hd).2.2⟩) Option.none Option.none Option.none
        rw [if_pos qc] at r1
        refine ⟨s4', ?_, r2, r3, r4⟩
        rw [q_X12_worth, tg_176 hS3, if_pos rfl, r_isQ hS3 (RR_hn h3).2.2.2.2 (by omega), zbI_e, if_pos qq, if_neg (by decide), tg_176 hS3, if_pos rfl, RR_rP h3, zbI_e, if_pos qp, if_neg (by decide), tg_176 hS3, if_pos rfl, RR_rL h3, zbI_e, if_pos qk, if_neg (by decide), r1])
      rw [if_pos (show K = 0 ∨ (-1000000000 : Int32) = -1000000000 from Or.inr rfl)] at r1
      refine ⟨σ3, ?_, P, S, N, M, K, np, t, n, RR_mono (RR_rest h' r2 r3 r4) (by omega)⟩
      rw [r1, if_pos qc]
    · have bd : ∀ i, i < K → -1000000000 < (wth s (zf p) pl f g w pr fa wi ch (vf i)).toInt := fun i hi => wth_bd hpl f1 g1 x1 x2 x3 c99 (fun d hd => (hvf i hi d hd).1) qc
      obtain ⟨σ3, r1, r2, r3, r4⟩ := r_qL hSs (RR_hn h').2.2.2.2 k6 (nI p) (nI k) (fun i => wth s (zf p) pl f g w pr fa wi ch (vf i)) (.inr bd) (fun i hi s3 hS3 u3 e => by
        have h3 := RR_rest h' hS3 u3 e
        have qq := rng_ok hi (show K < 2 ^ 31 by omega)
        obtain ⟨s4', r1, r2, r3, r4⟩ := r_worthV (q0 := i) (v := vf i) hS3 p20 n8 hp hk (by omega) s4 c99 f1 g1 (RK_un rk' hSs p20 hp20 hk8 s4 u3 e) (fun d hd => ⟨(hvf i hi d hd).1, by rw [u3.i (by omega) (by omega) (by omega) (by omega), us.i (by omega) (by omega) (by omega) (by omega)]; exact (hvf i hi d hd).2.2⟩) Option.none Option.none Option.none
        rw [if_neg qc] at r1
        refine ⟨s4', ?_, r2, r3, r4⟩
        rw [q_X12_worth, tg_176 hS3, if_pos rfl, r_isQ hS3 (RR_hn h3).2.2.2.2 (by omega), zbI_e, if_pos qq, if_neg (by decide), tg_176 hS3, if_pos rfl, RR_rP h3, zbI_e, if_pos qp, if_neg (by decide), tg_176 hS3, if_pos rfl, RR_rL h3, zbI_e, if_pos qk, if_neg (by decide), r1])
      refine ⟨σ3, ?_, P, S, N, M, K, np, t, n, RR_mono (RR_rest h' r2 r3 r4) (by omega)⟩
      rw [r1, if_neg qc]
      by_cases q0 : K = 0
      · rw [if_pos (show K = 0 ∨ wth s (zf p) pl f g w pr fa wi ch (vf 0) = -1000000000 from Or.inl q0), if_pos q0]
      · have w0 : ¬ wth s (zf p) pl f g w pr fa wi ch (vf 0) = -1000000000 := fun z => by
          have := bd 0 (by omega)
          rw [z] at this
          exact absurd this (by decide)
        rw [if_neg (show ¬ (K = 0 ∨ wth s (zf p) pl f g w pr fa wi ch (vf 0) = -1000000000) from fun z => z.elim q0 w0), if_neg q0]
  by_cases q : cls (okb s (zf p)) (fun b => (mbv pl f g w pr fa wi ch b).toInt) 31 = 0
  · obtain ⟨σ3, r1, r2⟩ := rg σ1 e2 u1
    rw [if_pos q] at r1
    exact ⟨-1, σ1, σ3, by rw [cg, if_pos (by rw [en]; exact q)], e2, r1, r2⟩
  · obtain ⟨σ3, r1, r2⟩ := rg σ2 b2 (u1.trans b3)
    rw [if_neg q] at r1
    exact ⟨_, σ2, σ3, by rw [cg, if_neg (by rw [en]; exact q)], b2, r1, r2⟩
end
