/-! on: rows taken from the bytes -/
/-- what is known of a new person in both -/
def NPc (t : Nat → Nat) (g : zS) (p : Nat) : Prop := gI g (116 + 3 * p) 0 = nI (t (1 + 12 * p)) ∧ gI g (116 + 3 * p) 1 = nI (t (1 + 12 * p + 1)) ∧ (∀ d, d < 5 → gI g (117 + 3 * p) d = nI (tw t (1 + 12 * p + 2 + 2 * d))) ∧ gI g (116 + 3 * p) 3 = 0 ∧ gI g (116 + 3 * p) 4 = 0 ∧ gI g (116 + 3 * p) 5 = -1 ∧ gI g (116 + 3 * p) 6 = 0 ∧ gI g (116 + 3 * p) 7 = -1 ∧ ∀ j, j < 40 → gI g (118 + 3 * p) j = 0
def NPr (t : Nat → Nat) (g : zS) (p : Nat) : Prop := gI g 232 p = nI (t (1 + 12 * p)) ∧ gI g 233 p = nI (t (1 + 12 * p + 1)) ∧ (∀ d, d < 5 → gI g 234 (5 * p + d) = nI (tw t (1 + 12 * p + 2 + 2 * d))) ∧ gI g 236 p = 0 ∧ gI g 237 p = 0 ∧ gI g 238 p = -1 ∧ gI g 239 p = 0 ∧ gI g 240 p = -1 ∧ ∀ j, j < 160 → gI g 242 (160 * p + j) = 0
section
variable {σ σ' : zS} {t : Nat → Nat} {A B P S N M K T np c n e i k m so : Nat}
theorem c_tRow (hS : Sh σ) (ht : ∀ j, gI σ 7 j = sb (t j)) (hb : ∀ j, t j < 256) (he : e + 2 * m ≤ 1600) (hm : m ≤ 5) (tA : tg σ A = 32) (lA : ln σ A = m) (hA : 13 ≤ A ∧ A < 253) : ∃ σ', zM 27 [.ref 7, .int (nI e), .ref A] σ = some (none, σ') ∧ Sh σ' ∧ Un (fun r _ => r = A) σ σ' ∧ ∀ d, d < m → gI σ' A d = nI (tw t (e + 2 * d)) := by
  obtain ⟨s1, e1, k1, k2, k3⟩ := lp_run (F := fun i (g : zS) => zR 2 27 2 [some (.ref 7), some (.int (nI e)), some (.ref A), some (.int (nI i))] [] g) (fun i g => Sh g ∧ Un (fun r _ => r = A) σ g ∧ ∀ d, d < i → gI g A d = nI (tw t (e + 2 * d))) m (by
    rintro i g hi ⟨k1, k2, k3⟩
    have gt : ∀ j, gI g 7 j = sb (t j) := fun j => by rw [k2.iA (by omega) (by omega) (by rw [tg_7 hS]; omega) (by omega)]; exact ht j
    have gA : tg g A = 32 := by rw [tg_of1 k2.1]; exact tA
    have gl : ln g A = m := by rw [ln_of1 k2.1]; exact lA
    have a1 := ai_nI (σ := g) (t := 32) (u := 32) (.inl gA) gl hi (by omega)
    refine ⟨sI g A i (nI (tw t (e + 2 * i))), ?_, k1.sI (by omega), k2.trans (Un_sI rfl (by omega)), fun d hd => ?_⟩
    · rw [q_X2_takeRow_2, gA, if_pos (by decide), gl, if_neg (show ¬ Int32.ofNat m ≤ nI i from nI_ge hi (by omega)), nI_mulL 2 i, nI_add, c_nmA k1 gt hb (by omega), zbI_e, if_pos a1, zlt_e, ixn (by omega), nI_1]
    · rw [gI_sI]
      by_cases q : d = i
      · rw [if_pos ⟨rfl, q⟩, q]
      · rw [if_neg (fun y => q y.2)]
        exact k3 d (by omega)) σ ⟨hS, Un.refl _ _, fun d hd => by omega⟩
  refine ⟨s1, ?_, k1, k2, k3⟩
  rw [q_X2_takeRow]
  refine Eq.trans e1 ?_
  have gA : tg s1 A = 32 := by rw [tg_of1 k2.1]; exact tA
  have gl : ln s1 A = m := by rw [ln_of1 k2.1]; exact lA
  rw [q_X2_takeRow_2, gA, if_pos (by decide), gl, if_pos (show Int32.ofNat m ≤ nI m from nI_le (Nat.le_refl _) (by omega))]
theorem c_beginO (hS : Sh σ) (hk : k < 20) (z : Int32) : ∃ σ', zM 33 [.ref (116 + 3 * k), .int (nI so), .int z, .ref (117 + 3 * k)] σ = some (none, σ') ∧ Sh σ' ∧ Un (fun r j => (r = 116 + 3 * k ∧ j ≠ 2) ∨ r = 117 + 3 * k ∨ r = 118 + 3 * k) σ σ' ∧ gI σ' (116 + 3 * k) 0 = nI so ∧ gI σ' (116 + 3 * k) 1 = z ∧ gI σ' (116 + 3 * k) 3 = 0 ∧ gI σ' (116 + 3 * k) 4 = 0 ∧ gI σ' (116 + 3 * k) 5 = -1 ∧ gI σ' (116 + 3 * k) 6 = 0 ∧ gI σ' (116 + 3 * k) 7 = -1 ∧ ∀ j, j < 40 → gI σ' (118 + 3 * k) j = 0 := by
  have hSa : Sh (sI (sI σ (116 + 3 * k) 0 (nI so)) (116 + 3 * k) 1 z) := (hS.sI (by omega)).sI (by omega)
  have hSb : Sh (sC (sI (sI σ (116 + 3 * k) 0 (nI so)) (116 + 3 * k) 1 z) (117 + 3 * k) 0 (117 + 3 * k) 0 5) := Sh_sC hSa (by omega)
  have hSc : Sh (sI (sI (sI (sI (sI (sC (sI (sI σ (116 + 3 * k) 0 (nI so)) (116 + 3 * k) 1 z) (117 + 3 * k) 0 (117 + 3 * k) 0 5) (116 + 3 * k) 3 0) (116 + 3 * k) 4 0) (116 + 3 * k) 5 (-1)) (116 + 3 * k) 6 0) (116 + 3 * k) 7 (-1)) := ((((hSb.sI (by omega)).sI (by omega)).sI (by omega)).sI (by omega)).sI (by omega)
  obtain ⟨s1, f1, f2, f3, -⟩ := c_fill (α := sI (sI (sI (sI (sI (sC (sI (sI σ (116 + 3 * k) 0 (nI so)) (116 + 3 * k) 1 z) (117 + 3 * k) 0 (117 + 3 * k) 0 5) (116 + 3 * k) 3 0) (116 + 3 * k) 4 0) (116 + 3 * k) 5 (-1)) (116 + 3 * k) 6 0) (116 + 3 * k) 7 (-1)) (A := 118 + 3 * k) 0 (tg_pkept hSc hk) (ln_pkept hSc hk) (by omega)
  have hS1 : Sh s1 := zM_sh rfl hSc f1
  have zc : zcp (sI (sI σ (116 + 3 * k) 0 (nI so)) (116 + 3 * k) 1 z) (117 + 3 * k) 0 (117 + 3 * k) 0 5 = true := by
    unfold zcp
    rw [tg_pfeet hSa hk, ln_pfeet hSa hk]
    decide
  have w : Un (fun r j => (r = 116 + 3 * k ∧ j ≠ 2) ∨ r = 117 + 3 * k ∨ r = 118 + 3 * k) σ s1 := ((Un_sI (by omega)).trans (Un_sI (by omega))).trans ((Un_sC (fun j _ _ => by omega)).trans ((Un_sI (by omega)).trans ((Un_sI (by omega)).trans ((Un_sI (by omega)).trans ((Un_sI (by omega)).trans ((Un_sI (by omega)).trans (f2.mono (fun r j _ _ q => by omega))))))))
  have n1 : 116 + 3 * k ≠ 117 + 3 * k := by omega
  refine ⟨s1, ?_, hS1, w, ?_, ?_, ?_, ?_, ?_, ?_, ?_, f3⟩
  · rw [q_X4_begin]
    simp -implicitDefEqProofs only [tg_sI, ln_sI, tg_sL, ln_sL, tg_sR, ln_sR, tg_sC, ln_sC, ai_sI, ai_sL, gL_sI, gR_sI, gI_sL, gR_sL, gI_sR, gL_sR, gI_sI, gL_sL, gR_sR, zlt_e, zln_e, zli_e, zll_e, zbI_e, zbL_e, zbR_e, zbV_e, zeR_e, zeN_s, zeN_n, Nat.reduceEqDiff, and_self, and_true, true_and, and_false, false_and, ite_true, ite_false, reduceIte, tg_person hS hk, gR_pfeet hS hk, zc, show ix (0 : Int32) = 0 from rfl, show ix (5 : Int32) = 5 from rfl, q_X4_begin_28, gR_pkept hSa hk, gR_pkept hSc hk, tg_person hSc hk, tg_person hSb hk, f1, gR_pkept hS hk, gR_pkept hSb hk]
  · rw [f2.i (by omega) (by omega) (by omega) (by omega)]; simp only [gI_sI, gI_sC']; simp [n1]
  · rw [f2.i (by omega) (by omega) (by omega) (by omega)]; simp only [gI_sI, gI_sC']; simp [n1]
  · rw [f2.i (by omega) (by omega) (by omega) (by omega)]; simp only [gI_sI, gI_sC']; simp
  · rw [f2.i (by omega) (by omega) (by omega) (by omega)]; simp only [gI_sI, gI_sC']; simp
  · rw [f2.i (by omega) (by omega) (by omega) (by omega)]; simp only [gI_sI, gI_sC']; simp
  · rw [f2.i (by omega) (by omega) (by omega) (by omega)]; simp only [gI_sI, gI_sC']; simp
  · rw [f2.i (by omega) (by omega) (by omega) (by omega)]; simp only [gI_sI, gI_sC']; simp
theorem c_tPeople (hS : Sh σ) (ht : ∀ j, gI σ 7 j = sb (t j)) (hb : ∀ j, t j < 256) (hT : t 0 ≤ 20) : ∃ σ', zM 28 [.ref 7, .ref 104] σ = some (some (.int (nI (t 0))), σ') ∧ Sh σ' ∧ Un (fun r j => 116 ≤ r ∧ r < 176) σ σ' ∧ ∀ p, p < t 0 → NPc t σ' p := by
  obtain ⟨⟨s1, w1⟩, e1, k1, k2, k3⟩ := lp_run (F := fun i (g : zS × Option Value) => zR 3 28 11 [some (.ref 7), some (.ref 104), some (.int (nI (t 0))), some (.int (nI i)), g.2] [] g.1) (fun i g => Sh g.1 ∧ Un (fun r j => 116 ≤ r ∧ r < 176) σ g.1 ∧ ∀ p, p < i → NPc t g.1 p) (t 0) (by
    rintro i ⟨g, w3⟩ hi ⟨k1, k2, k3⟩
    have k1 : Sh g := k1
    have k2 : Un (fun r j => 116 ≤ r ∧ r < 176) σ g := k2
    have k3 : ∀ p, p < i → NPc t g p := k3
    have i20 : i < 20 := by omega
    have gt : ∀ j, gI g 7 j = sb (t j) := fun j => by rw [k2.iA (by omega) (by omega) (by rw [tg_7 hS]; omega) (by omega)]; exact ht j
    obtain ⟨g1, a1, a2, a3, a4, a5, a6, a7, a8, a9, a10, a11⟩ := c_beginO (so := t (1 + 12 * i)) (k := i) k1 i20 (nI (t (1 + 12 * i + 1)))
    have gt1 : ∀ j, gI g1 7 j = sb (t j) := fun j => by rw [a3.iA (by omega) (by omega) (by rw [tg_7 k1]; omega) (by omega)]; exact gt j
    obtain ⟨g2, b1, b2, b3, b4⟩ := c_tRow (A := 117 + 3 * i) (e := 1 + 12 * i + 2) (m := 5) a2 gt1 hb (by omega) (by omega) (tg_pfeet a2 i20) (ln_pfeet a2 i20) (by omega)
    have c1 := ai_nI (σ := g) (t := 33) (u := 49) (.inl (tg_7 k1)) (ln_7 k1) (show 1 + 12 * i < 1600 by omega) (by omega)
    have c2 := ai_nI (σ := g) (t := 33) (u := 49) (.inl (tg_7 k1)) (ln_7 k1) (show 1 + 12 * i + 1 < 1600 by omega) (by omega)
    have ap := ai_nI (σ := g) (t := 69) (u := 69) (.inl (tg_104 k1)) (ln_104 k1) i20 (by omega)
    have ap1 := ai_nI (σ := g1) (t := 69) (u := 69) (.inl (tg_104 a2)) (ln_104 a2) i20 (by omega)
    have x1 : ix (nI (1 + 12 * i)) = 1 + 12 * i := ixn (by omega)
    have x2 : ix (nI (1 + 12 * i + 1)) = 1 + 12 * i + 1 := ixn (by omega)
    have xi : ix (nI i) = i := ixn (by omega)
    have ep : 1 + nI i * 12 = nI (1 + 12 * i) := by rw [nI_mulR 12, nI_addL 1, Nat.mul_comm]
    refine ⟨(g2, some (.int (nI (1 + 12 * i)))), ?_, b2, ?_, fun p hp => ?_⟩
    · show zR 3 28 11 [some (.ref 7), some (.ref 104), some (.int (nI (t 0))), some (.int (nI i)), w3] [] g = zR 3 28 11 [some (.ref 7), some (.ref 104), some (.int (nI (t 0))), some (.int (nI (i + 1))), some (.int (nI (1 + 12 * i)))] [] g2
      rw [q_X2_takePeople_11, if_neg (nI_ge hi (by omega)), q_X2_personAt, zbI_e, ep, nI_1 (1 + 12 * i), if_pos ap, xi, gR_people k1 i20, zeR_e, if_pos c1, if_pos c2, if_pos ap, zeR_e, tg_person k1 i20, if_pos rfl, gR_pfeet k1 i20, zeR_e, if_pos rfl, x1, x2, gt (1 + 12 * i), gt (1 + 12 * i + 1), sb_and _ (hb _), sb_and _ (hb _), a1, zbV_e]
      rw [q_X2_takePeople_37, if_pos ap1, xi, gR_people a2 i20, zeR_e, tg_person a2 i20, if_pos rfl, gR_pfeet a2 i20, zeR_e, nI_addR 2, b1, zbV_e, nI_1]
    · exact k2.trans ((a3.mono (fun r j _ _ q => by omega)).trans (b3.mono (fun r j _ _ q => by omega)))
    · show NPc t g2 p
      by_cases q : p = i
      · subst q
        refine ⟨?_, ?_, b4, ?_, ?_, ?_, ?_, ?_, fun j hj => ?_⟩
        · rw [b3.i (by omega) (by omega) (by omega) (by omega)]; exact a4
        · rw [b3.i (by omega) (by omega) (by omega) (by omega)]; exact a5
        · rw [b3.i (by omega) (by omega) (by omega) (by omega)]; exact a6
        · rw [b3.i (by omega) (by omega) (by omega) (by omega)]; exact a7
        · rw [b3.i (by omega) (by omega) (by omega) (by omega)]; exact a8
        · rw [b3.i (by omega) (by omega) (by omega) (by omega)]; exact a9
        · rw [b3.i (by omega) (by omega) (by omega) (by omega)]; exact a10
        · rw [b3.i (by omega) (by omega) (by omega) (by omega)]; exact a11 j hj
      · have kp : ∀ r j, (r = 116 + 3 * p ∨ r = 117 + 3 * p ∨ r = 118 + 3 * p) → j < 100 → gI g2 r j = gI g r j := fun r j a b => by
          rw [b3.i (by omega) (by omega) b (by omega), a3.i (by omega) (by omega) b (by omega)]
        obtain ⟨y1, y2, y3, y4, y5, y6, y7, y8, y9⟩ := k3 p (by omega)
        refine ⟨?_, ?_, fun d hd => ?_, ?_, ?_, ?_, ?_, ?_, fun j hj => ?_⟩
        · rw [kp _ _ (by omega) (by omega)]; exact y1
        · rw [kp _ _ (by omega) (by omega)]; exact y2
        · rw [kp _ _ (by omega) (by omega)]; exact y3 d hd
        · rw [kp _ _ (by omega) (by omega)]; exact y4
        · rw [kp _ _ (by omega) (by omega)]; exact y5
        · rw [kp _ _ (by omega) (by omega)]; exact y6
        · rw [kp _ _ (by omega) (by omega)]; exact y7
        · rw [kp _ _ (by omega) (by omega)]; exact y8
        · rw [kp _ _ (by omega) (by omega)]; exact y9 j hj) (σ, none) ⟨hS, Un.refl _ _, fun p hp => by omega⟩
  refine ⟨s1, ?_, k1, k2, k3⟩
  have a0 : ai σ 33 49 7 0 = true := ai_nI (σ := σ) (t := 33) (u := 49) (.inl (tg_7 hS)) (ln_7 hS) (show 0 < 1600 by omega) (by omega)
  rw [q_X2_takePeople, if_pos a0, tg_104 hS, if_pos (by decide), ln_104 hS, show ix (0 : Int32) = 0 from rfl, ht 0, sb_and _ (hb 0), q_J9_min_7cf53, if_neg (show ¬ Int32.ofNat 20 < nI (t 0) from nI_nlt (a := 20) hT (by omega)), zbI_e]
  refine Eq.trans e1 ?_
  show zR 3 28 11 [some (.ref 7), some (.ref 104), some (.int (nI (t 0))), some (.int (nI (t 0))), w1] [] s1 = _
  rw [q_X2_takePeople_11, if_pos (nI_le (Nat.le_refl _) (by omega))]
theorem c_tRuns (hS : Sh σ) (hP : HP P) (h5 : gI σ P 5 = nI N) (hN : N ≤ 8) (ht : ∀ j, gI σ 7 j = sb (t j)) (hb : ∀ j, t j < 256) (hT : T ≤ 20) : ∃ σ', zM 29 [.ref 7, .int (nI T), .ref P] σ = some (none, σ') ∧ Sh σ' ∧ Un (fun r j => ∃ k, k < 8 ∧ r = P + 9 + 2 * k) σ σ' ∧ ∀ k, k < N → ∀ r, r < 3 → gI σ' (P + 9 + 2 * k) r = nI (tw t (1 + 12 * T + 6 * k + 2 * r)) := by
  have hbb := HPb hP
  obtain ⟨s1, e1, k1, k2, k3⟩ := lp_run (F := fun i (g : zS) => zR 3 29 2 [some (.ref 7), some (.int (nI T)), some (.ref P), some (.int (nI i))] [] g) (fun i g => Sh g ∧ Un (fun r j => ∃ k, k < 8 ∧ r = P + 9 + 2 * k) σ g ∧ ∀ k, k < i → ∀ r, r < 3 → gI g (P + 9 + 2 * k) r = nI (tw t (1 + 12 * T + 6 * k + 2 * r))) N (by
    rintro i g hi ⟨k1, k2, k3⟩
    have i8 : i < 8 := by omega
    have gt : ∀ j, gI g 7 j = sb (t j) := fun j => by
      rw [k2.iA (by omega) (by omega) (by rw [tg_7 hS]; omega) (fun ⟨k, y1, y2⟩ => by omega)]; exact ht j
    have g5 : gI g P 5 = nI N := by
      rw [k2.i (by omega) (by omega) (by omega) (fun ⟨k, y1, y2⟩ => by omega)]; exact h5
    obtain ⟨g2, b1, b2, b3, b4⟩ := c_tRow (A := P + 9 + 2 * i) (e := 1 + 12 * T + 6 * i) (m := 3) k1 gt hb (by omega) (by omega) (tg_Pruns k1 hP i8) (ln_Pruns k1 hP i8) (by omega)
    have al := ai_nI (σ := g) (t := 68) (u := 68) (.inl (tg_P1 k1 hP)) (ln_P1 k1 hP) i8 (by omega)
    have ep : 1 + nI T * 12 = nI (1 + 12 * T) := by rw [nI_mulR 12, nI_addL 1, Nat.mul_comm]
    have ek : nI (1 + 12 * T) + nI i * 6 = nI (1 + 12 * T + 6 * i) := by rw [nI_mulR 6, nI_add, Nat.mul_comm i]
    refine ⟨g2, ?_, b2, k2.trans (b3.mono (fun r j _ _ q => ⟨i, i8, q⟩)), fun k hk r hr => ?_⟩
    · rw [q_X2_takeRuns_2, tg_P k1 hP, if_pos rfl, g5, if_neg (nI_ge hi (by omega)), q_X2_personAt, zbI_e, tg_P k1 hP, if_pos rfl, gR_P_0 k1 hP, zeR_e, if_pos al, ixn (by omega), gR_Plast k1 hP i8, zeR_e, tg_Plast k1 hP i8, if_pos rfl, gR_Pruns k1 hP i8, zeR_e, ep, ek, b1, zbV_e, nI_1]
    · by_cases q : k = i
      · subst q
        exact b4 r hr
      · rw [b3.i (by omega) (by omega) (by omega) (by omega)]
        exact k3 k (by omega) r hr) σ ⟨hS, Un.refl _ _, fun k hk => by omega⟩
  refine ⟨s1, ?_, k1, k2, k3⟩
  have g5 : gI s1 P 5 = nI N := by
    rw [k2.i (by omega) (by omega) (by omega) (fun ⟨k, y1, y2⟩ => by omega)]; exact h5
  rw [q_X2_takeRuns]
  refine Eq.trans e1 ?_
  rw [q_X2_takeRuns_2, tg_P k1 hP, if_pos rfl, g5, if_pos (nI_le (Nat.le_refl _) (by omega))]
/-- what a new person of the reference may write -/
def XNr (r j : Nat) : Prop := 232 ≤ r ∧ r ≤ 242 ∧ r ≠ 235 ∧ r ≠ 241
theorem r_tFeet (hS : Sh σ) (ht : ∀ j, j < 1600 → gI σ 177 j = nI (t j)) (hi : i < 20) (v : Int32) : ∃ σ', zR 4 319 97 [some (.ref 176), some (.int v), some (.int (nI i)), some (.int 0)] [] σ = zR 4 319 72 [some (.ref 176), some (.int v), some (.int (nI (i + 1))), some (.int 5)] [] σ' ∧ Sh σ' ∧ Un (fun r j => r = 234 ∧ 5 * i ≤ j ∧ j < 5 * i + 5) σ σ' ∧ ∀ d, d < 5 → gI σ' 234 (5 * i + d) = nI (tw t (1 + 12 * i + 2 + 2 * d)) := by
  obtain ⟨s1, e1, k1, k2, k3⟩ := lp_run (F := fun d (g : zS) => zR 4 319 97 [some (.ref 176), some (.int v), some (.int (nI i)), some (.int (nI d))] [] g) (fun m g => Sh g ∧ Un (fun r j => r = 234 ∧ 5 * i ≤ j ∧ j < 5 * i + 5) σ g ∧ ∀ d, d < m → gI g 234 (5 * i + d) = nI (tw t (1 + 12 * i + 2 + 2 * d))) 5 (by
    rintro d g hd ⟨k1, k2, k3⟩
    have gt : ∀ j, j < 1600 → gI g 177 j = nI (t j) := fun j hj => by rw [k2.iA (by omega) (by omega) (by rw [tg_177 hS]; omega) (by omega)]; exact ht j hj
    have ep : 3 + 12 * nI i + 2 * nI d = nI (1 + 12 * i + 2 + 2 * d) := by
      rw [nI_mulL 12, nI_mulL 2, nI_addL 3, nI_add]
      congr 1
      omega
    have e5 : 5 * nI i + nI d = nI (5 * i + d) := by rw [nI_mulL 5, nI_add]
    have a1 := ai_nI (σ := g) (t := 32) (u := 32) (.inl (tg_234 k1)) (ln_234 k1) (show 5 * i + d < 100 by omega) (by omega)
    refine ⟨sI g 234 (5 * i + d) (nI (tw t (1 + 12 * i + 2 + 2 * d))), ?_, k1.sI (by omega), k2.trans (Un_sI (by omega)), fun x hx => ?_⟩
    · rw [q_X12_on_97, if_neg (show ¬ (5 : Int32) ≤ nI d from nI_ge (b := 5) hd (by omega)), tg_176 k1, if_pos rfl, gR_176_73 k1, zeR_e, if_pos rfl, ep, e5, r_two k1 gt (by omega), zbI_e, if_pos a1, zlt_e, ixn (by omega), nI_1]
    · rw [gI_sI]
      by_cases q : x = d
      · rw [if_pos ⟨rfl, by rw [q]⟩, q]
      · rw [if_neg (fun y => q (by omega))]
        exact k3 x (by omega)) σ ⟨hS, Un.refl _ _, fun d hd => by omega⟩
  refine ⟨s1, ?_, k1, k2, k3⟩
  refine Eq.trans e1 ?_
  rw [q_X12_on_97, if_pos (show (5 : Int32) ≤ nI 5 by decide), nI_1]
  rfl
theorem r_tPeople (hS : Sh σ) (ht : ∀ j, j < 1600 → gI σ 177 j = nI (t j)) (h70 : gI σ 176 70 = nI T) (hT : T ≤ 20) (hM : M ≤ 4) (hso : ∀ p, p < T → t (1 + 12 * p) < M) (v : Int32) (u3 : Option Value) : ∃ σ' w3, zR 4 319 72 [some (.ref 176), some (.int v), some (.int 0), u3] [] σ = zR 4 319 125 [some (.ref 176), some (.int v), some (.int 0), w3] [] σ' ∧ Sh σ' ∧ Un XNr σ σ' ∧ (∀ p, p < T → NPr t σ' p) ∧ ∀ p, T ≤ p → p < 20 → gI σ' 236 p = gI σ 236 p := by
  obtain ⟨⟨s1, w1⟩, e1, k1, k2, k3, k4⟩ := lp_run (F := fun i (g : zS × Option Value) => zR 4 319 72 [some (.ref 176), some (.int v), some (.int (nI i)), g.2] [] g.1) (fun i g => Sh g.1 ∧ Un XNr σ g.1 ∧ (∀ p, p < i → NPr t g.1 p) ∧ ∀ p, i ≤ p → p < 20 → gI g.1 236 p = gI σ 236 p) T (by
    rintro i ⟨g, w3⟩ hi ⟨k1, k2, k3, k4⟩
    have k1 : Sh g := k1
    have k2 : Un XNr σ g := k2
    have k3 : ∀ p, p < i → NPr t g p := k3
    have k4 : ∀ p, i ≤ p → p < 20 → gI g 236 p = gI σ 236 p := k4
    have i20 : i < 20 := by omega
    have gt : ∀ j, j < 1600 → gI g 177 j = nI (t j) := fun j hj => by rw [k2.iA (by omega) (by omega) (by rw [tg_177 hS]; omega) (by unfold XNr; omega)]; exact ht j hj
    have g70 : gI g 176 70 = nI T := by rw [k2.i (by omega) (by omega) (by omega) (by unfold XNr; omega)]; exact h70
    have so4 := hso i hi
    obtain ⟨g1, a1, a2, a3, a4, a5, -, a7, a8, a9, a10, a11, a12⟩ := r_comes (so := t (1 + 12 * i)) (k := i) k1 i20 (by omega) (nI (t (1 + 12 * i + 1)))
    have gt1 : ∀ j, j < 1600 → gI g1 177 j = nI (t j) := fun j hj => by rw [a3.iA (by omega) (by omega) (by rw [tg_177 k1]; omega) (by omega)]; exact gt j hj
    obtain ⟨g2, b1, b2, b3, b4⟩ := r_tFeet a2 gt1 i20 v
    have c1 := ai_nI (σ := g) (t := 32) (u := 48) (.inl (tg_177 k1)) (ln_177 k1) (show 1 + 12 * i < 1600 by omega) (by omega)
    have c2 := ai_nI (σ := g) (t := 32) (u := 48) (.inl (tg_177 k1)) (ln_177 k1) (show 1 + 12 * i + 1 < 1600 by omega) (by omega)
    have x1 : ix (nI (1 + 12 * i)) = 1 + 12 * i := ixn (by omega)
    have x2 : ix (nI (1 + 12 * i + 1)) = 1 + 12 * i + 1 := ixn (by omega)
    have ep1 : 1 + 12 * nI i = nI (1 + 12 * i) := by rw [nI_mulL 12, nI_addL 1]
    have ep2 : 2 + 12 * nI i = nI (1 + 12 * i + 1) := by
      rw [nI_mulL 12, nI_addL 2]
      congr 1
      omega
    refine ⟨(g2, some (.int 5)), ?_, b2, ?_, fun p hp => ?_, fun p hp hp2 => ?_⟩
    · show zR 4 319 72 [some (.ref 176), some (.int v), some (.int (nI i)), w3] [] g = zR 4 319 72 [some (.ref 176), some (.int v), some (.int (nI (i + 1))), some (.int 5)] [] g2
      rw [q_X12_on_72, tg_176 k1, if_pos rfl, g70, if_neg (nI_ge hi (by omega)), if_pos rfl, gR_176_0 k1, zeR_e, ep1, ep2, if_pos c1, if_pos rfl, zeR_e, if_pos c2, if_pos rfl, x1, x2, gt (1 + 12 * i) (by omega), gt (1 + 12 * i + 1) (by omega), a1, zbV_e, b1]
    · exact k2.trans ((a3.mono (fun r j _ _ q => by unfold XNr; omega)).trans (b3.mono (fun r j _ _ q => by unfold XNr; omega)))
    · show NPr t g2 p
      by_cases q : p = i
      · subst q
        refine ⟨?_, ?_, b4, ?_, ?_, ?_, ?_, ?_, fun j hj => ?_⟩
        · rw [b3.i (by omega) (by omega) (by omega) (by omega)]; exact a4
        · rw [b3.i (by omega) (by omega) (by omega) (by omega)]; exact a5
        · rw [b3.i (by omega) (by omega) (by omega) (by omega)]; exact a7
        · rw [b3.i (by omega) (by omega) (by omega) (by omega)]; exact a8
        · rw [b3.i (by omega) (by omega) (by omega) (by omega)]; exact a9
        · rw [b3.i (by omega) (by omega) (by omega) (by omega)]; exact a10
        · rw [b3.i (by omega) (by omega) (by omega) (by omega)]; exact a11
        · rw [b3.iA (by omega) (by omega) (by rw [tg_242 a2]; omega) (by omega)]; exact a12 j hj
      · have kp : ∀ r, (r = 232 ∨ r = 233 ∨ (236 ≤ r ∧ r ≤ 240)) → gI g2 r p = gI g r p := fun r a => by
          rw [b3.i (by omega) (by omega) (by omega) (by omega), a3.i (by omega) (by omega) (by omega) (by omega)]
        obtain ⟨y1, y2, y3, y4, y5, y6, y7, y8, y9⟩ := k3 p (by omega)
        refine ⟨?_, ?_, fun d hd => ?_, ?_, ?_, ?_, ?_, ?_, fun j hj => ?_⟩
        · rw [kp _ (by omega)]; exact y1
        · rw [kp _ (by omega)]; exact y2
        · rw [b3.i (by omega) (by omega) (by omega) (by omega), a3.i (by omega) (by omega) (by omega) (by omega)]; exact y3 d hd
        · rw [kp _ (by omega)]; exact y4
        · rw [kp _ (by omega)]; exact y5
        · rw [kp _ (by omega)]; exact y6
        · rw [kp _ (by omega)]; exact y7
        · rw [kp _ (by omega)]; exact y8
        · rw [b3.iA (by omega) (by omega) (by rw [tg_242 a2]; omega) (by omega), a3.iA (by omega) (by omega) (by rw [tg_242 k1]; omega) (by omega)]; exact y9 j hj
    · show gI g2 236 p = gI σ 236 p
      rw [b3.i (by omega) (by omega) (by omega) (by omega), a3.i (by omega) (by omega) (by omega) (by omega)]
      exact k4 p (by omega) hp2) (σ, u3) ⟨hS, Un.refl _ _, fun p hp => by omega, fun p _ _ => rfl⟩
  refine ⟨s1, w1, ?_, k1, k2, k3, k4⟩
  refine Eq.trans e1 ?_
  have k1 : Sh s1 := k1
  have k2 : Un XNr σ s1 := k2
  have g70 : gI s1 176 70 = nI T := by rw [k2.i (by omega) (by omega) (by omega) (by unfold XNr; omega)]; exact h70
  show zR 4 319 72 [some (.ref 176), some (.int v), some (.int (nI T)), w1] [] s1 = _
  rw [q_X12_on_72, tg_176 k1, if_pos rfl, g70, if_pos (nI_le (Nat.le_refl _) (by omega))]
theorem r_tRuns (hS : Sh σ) (ht : ∀ j, j < 1600 → gI σ 177 j = nI (t j)) (h70 : gI σ 176 70 = nI T) (hT : T ≤ 20) (h3 : gI σ 214 3 = nI N) (hN : N ≤ 8) (v : Int32) (u3 : Option Value) : ∃ σ', zR 4 319 125 [some (.ref 176), some (.int v), some (.int 0), u3] [] σ = some (some (.int 1), σ') ∧ Sh σ' ∧ Un (fun r j => r = 235) σ σ' ∧ ∀ j, j < 3 * N → gI σ' 235 j = nI (tw t (1 + 12 * T + 2 * j)) := by
  obtain ⟨s1, e1, k1, k2, k3⟩ := lp_run (F := fun d (g : zS) => zR 4 319 125 [some (.ref 176), some (.int v), some (.int (nI d)), u3] [] g) (fun m g => Sh g ∧ Un (fun r j => r = 235) σ g ∧ ∀ j, j < m → gI g 235 j = nI (tw t (1 + 12 * T + 2 * j))) (3 * N) (by
    rintro d g hd ⟨k1, k2, k3⟩
    have gt : ∀ j, j < 1600 → gI g 177 j = nI (t j) := fun j hj => by rw [k2.iA (by omega) (by omega) (by rw [tg_177 hS]; omega) (by omega)]; exact ht j hj
    have g70 : gI g 176 70 = nI T := by rw [k2.i (by omega) (by omega) (by omega) (by omega)]; exact h70
    have g3 : gI g 214 3 = nI N := by rw [k2.i (by omega) (by omega) (by omega) (by omega)]; exact h3
    have ep : 1 + 12 * nI T + 2 * nI d = nI (1 + 12 * T + 2 * d) := by rw [nI_mulL 12, nI_mulL 2, nI_addL 1, nI_add]
    have a1 := ai_nI (σ := g) (t := 32) (u := 32) (.inl (tg_235 k1)) (ln_235 k1) (show d < 24 by omega) (by omega)
    refine ⟨sI g 235 d (nI (tw t (1 + 12 * T + 2 * d))), ?_, k1.sI (by omega), k2.trans (Un_sI rfl), fun x hx => ?_⟩
    · rw [q_X12_on_125, tg_176 k1, if_pos rfl, r_lasts k1 g3, zbI_e, nI_mulL 3, if_neg (nI_ge hd (by omega)), tg_176 k1, if_pos rfl, gR_176_74 k1, zeR_e, if_pos rfl, if_pos rfl, g70, ep, r_two k1 gt (by omega), zbI_e, if_pos a1, zlt_e, ixn (by omega), nI_1]
    · rw [gI_sI]
      by_cases q : x = d
      · rw [if_pos ⟨rfl, q⟩, q]
      · rw [if_neg (fun y => q y.2)]
        exact k3 x (by omega)) σ ⟨hS, Un.refl _ _, fun d hd => by omega⟩
  refine ⟨s1, ?_, k1, k2, k3⟩
  refine Eq.trans e1 ?_
  have g3 : gI s1 214 3 = nI N := by rw [k2.i (by omega) (by omega) (by omega) (by omega)]; exact h3
  rw [q_X12_on_125, tg_176 k1, if_pos rfl, r_lasts k1 g3, zbI_e, nI_mulL 3, if_pos (nI_le (Nat.le_refl _) (by omega))]
end
