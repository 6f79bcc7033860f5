/-! what is learnt: the reference -/
section
variable {σ σ' σ1 σ2 : zS} {q v pl f g : Nat → Nat} {P A R W L N T w b e y o d r p k so n i off : Nat}
theorem r_tak2 (hS : Sh σ) (hT : 6 ≤ T ∧ T < 253 ∧ T ≠ 246) (tT : tg σ T = 32) (lT : ln σ T = L) (hL : off + n ≤ L ∧ L < 2 ^ 31) (hn : 1 ≤ n ∧ n ≤ 5) (hq : ∀ i, i < n → gI σ 246 i = nI (q i)) (hs : smN q n ≤ 10000) : ∃ σ', zM 279 [.ref 176, .ref T, .int (nI off), .int (nI n)] σ = some (none, σ') ∧ Sh σ' ∧ Un (fun r j => r = 246 ∨ (r = T ∧ off ≤ j ∧ j < off + n)) σ σ' ∧ (∀ r j, gL σ' r j = gL σ r j) ∧ ∀ i, i < n → gI σ' T (off + i) = nI (crt q n i) := by
  have qb : ∀ i, i < n → q i ≤ 10000 := fun i hi => by have := smN_one q hi; omega
  have e := lp_seq (G := fun i => zR 1 279 6 [some (.ref 176), some (.ref T), some (.int (nI off)), some (.int (nI n)), some (.int (nI (smN q i))), some (.int (nI (amx q i))), some (.int (nI i))] [] σ) n (fun i hi => by
    have l := amx_lt' (q := q) (n := i)
    have ai := ai_nI (σ := σ) (t := 32) (u := 48) (.inl (tg_246 hS)) (ln_246 hS) (show i < 5 by omega) (by omega)
    have aj := ai_nI (σ := σ) (t := 32) (u := 48) (.inl (tg_246 hS)) (ln_246 hS) (show amx q i < 5 by omega) (by omega)
    rw [q_X12_takes__6, if_neg (nI_ge hi (by omega)), tg_176 hS, if_pos rfl, gR_176_89 hS, zeR_e, if_pos ai, if_pos rfl, zeR_e, if_pos ai, if_pos rfl, zeR_e, if_pos aj, ixn (by omega), ixn (by omega), hq i hi, hq _ (show amx q i < n by omega), nI_1, nI_add]
    by_cases z : q i ≤ q (amx q i)
    · have e1 : amx q (i + 1) = amx q i := by show (if _ then _ else _) = _; rw [if_pos z]
      rw [if_pos (nI_le z (by have := qb _ (show amx q i < n by omega); omega)), e1]
      rfl
    · have e1 : amx q (i + 1) = i := by show (if _ then _ else _) = _; rw [if_neg z]
      rw [if_neg (nI_ge (by omega) (by have := qb i hi; omega)), e1]
      rfl)
  have am := amx_lt (q := q) hn.1
  have aj := ai_nI (σ := σ) (t := 32) (u := 48) (.inl (tg_246 hS)) (ln_246 hS) (show amx q n < 5 by omega) (by omega)
  have ak := ai_nI (σ := σ) (t := 32) (u := 32) (.inl (tg_246 hS)) (ln_246 hS) (show amx q n < 5 by omega) (by omega)
  have hS1 : Sh (sI σ 246 (amx q n) (nI (crt q n (amx q n)))) := hS.sI (by omega)
  have hc : ∀ i, i < n → gI (sI σ 246 (amx q n) (nI (crt q n (amx q n)))) 246 i = nI (crt q n i) := fun i hi => by
    rw [gI_sI]
    by_cases z : i = amx q n
    · rw [if_pos ⟨rfl, z⟩, ← z]
    · rw [if_neg (fun y => z y.2), hq i hi]
      unfold crt
      rw [if_neg z]
  obtain ⟨s1, e1, k1, k2, k3, k4⟩ := lp_run (F := fun i (s : zS) => zR 1 279 41 [some (.ref 176), some (.ref T), some (.int (nI off)), some (.int (nI n)), some (.int (nI (smN q n))), some (.int (nI (amx q n))), some (.int (nI i))] [] s) (fun i s => Sh s ∧ Un (fun r j => r = T ∧ off ≤ j ∧ j < off + n) (sI σ 246 (amx q n) (nI (crt q n (amx q n)))) s ∧ (∀ r j, gL s r j = gL σ r j) ∧ ∀ j, j < i → gI s T (off + j) = nI (crt q n j)) n (by
    rintro i s hi ⟨k1, k2, k3, k4⟩
    have gi : gI s 246 i = nI (crt q n i) := by rw [k2.i (by omega) (by omega) (by omega) (by omega)]; exact hc i hi
    refine ⟨sI s T (off + i) (nI (crt q n i)), ?_, k1.sI (by omega), k2.trans (Un_sI ⟨rfl, by omega, by omega⟩), fun r j => by rw [gL_sI]; exact k3 r j, fun j hj => ?_⟩
    · rw [q_X12_takes__41, if_neg (nI_ge hi (by omega)), tg_176 k1, if_pos rfl, gR_176_89 k1, zeR_e, if_pos (ai_nI (.inl (tg_246 k1)) (ln_246 k1) (show i < 5 by omega) (by omega)), nI_add, if_pos (ai_nI (.inl (by rw [tg_of1 k2.1]; exact tT)) (by rw [ln_of1 k2.1]; exact lT) (show off + i < L by omega) (by omega)), zlt_e, ixn (by omega), ixn (by omega), gi, nI_1]
    · rw [gI_sI]
      by_cases z : j = i
      · subst z; rw [if_pos ⟨rfl, rfl⟩]
      · rw [if_neg (by omega)]; exact k4 j (by omega)) _ ⟨hS1, Un.refl _ _, fun r j => by rw [gL_sI], fun j hj => by omega⟩
  refine ⟨s1, ?_, k1, (Un_sI (.inl rfl)).trans (k2.mono (fun r j _ _ z => .inr z)), k3, k4⟩
  rw [q_X12_takes_]
  refine Eq.trans e ?_
  have cr : nI (q (amx q n)) + (10000 - nI (smN q n)) = nI (crt q n (amx q n)) := by
    have : crt q n (amx q n) = q (amx q n) + (10000 - smN q n) := by unfold crt; rw [if_pos rfl]
    rw [this, show (10000 : Int32) = nI 10000 from rfl, pk_sub hs, nI_add]
  rw [q_X12_takes__6, if_pos (nI_le (Nat.le_refl _) (by omega)), tg_176 hS, if_pos rfl, gR_176_89 hS, zeR_e, if_pos aj, if_pos ak, zlt_e, ixn (by omega), hq _ am, cr]
  refine Eq.trans e1 ?_
  rw [q_X12_takes__41, if_pos (nI_le (Nat.le_refl _) (by omega))]
theorem r_would (hS : Sh σ) (hp : p < 20) (hk : k < 8) (hso : so < 4) (h : RW σ p k so pl f g w) (hf : f 0 + f 1 + f 2 + f 3 + f 4 = 10000) (hg : g 0 + g 1 + g 2 = 10000) (h1 : 1 ≤ b) (hb : b < 32) (ho : o ≤ 5) (h0 : 0 < wall pl f g w b o) : ∃ σ', zM 280 [.ref 176, .int (nI p), .int (nI k), .int (nI b), .int (nI o)] σ = some (none, σ') ∧ Sh σ' ∧ Un (fun r _ => 246 ≤ r ∧ r ≤ 250) σ σ' ∧ (∀ d, d < 5 → gI σ' 249 d = nI (crt (fun i => 10000 * wrow pl f g w b o i / wall pl f g w b o) 5 d)) ∧ ∀ r, r < 3 → gI σ' 250 r = nI (crt (fun i => 10000 * wcol pl f g w b o i / wall pl f g w b o) 3 r) := by
  have hpl : ∀ d, d < 5 → pl d ≤ 100 := fun d hd => (h.1 d hd).1
  have wl : wall pl f g w b o ≤ 1000000000000 := wall_le hpl hf hg
  have rl : ∀ d, d < 5 → wrow pl f g w b o d ≤ wall pl f g w b o := fun d hd => smN_one (wrow pl f g w b o) hd
  have cl : ∀ r, r < 3 → wcol pl f g w b o r ≤ wall pl f g w b o := fun r hr => by rw [← wcol_all]; exact smN_one (wcol pl f g w b o) hr
  have xs : ∀ {s s' : zS}, Un (fun r _ => 246 ≤ r ∧ r ≤ 250) s s' → Un Xs s s' := fun u => u.mono (fun r j _ _ z => by unfold Xs; omega)
  have nz : ¬ lN (wall pl f g w b o) = 0 := fun z => by
    have := (pk_lEQ (a := wall pl f g w b o) (b := 0) (by omega) (by omega)).mp z
    omega
  obtain ⟨s1, e1, a1, a2, a3⟩ := lp_run (F := fun i (s : zS) => zR 6 280 11 [some (.ref 176), some (.int (nI p)), some (.int (nI k)), some (.int (nI b)), some (.int (nI o)), some (.long (lN (wall pl f g w b o))), none, some (.int (nI i))] [] s) (fun i s => Sh s ∧ Un (fun r _ => 246 ≤ r ∧ r ≤ 250) σ s ∧ ∀ j, j < i → gL s 247 j = lN (wrow pl f g w b o j)) 5 (by
    rintro i s hi ⟨k1, k2, k3⟩
    refine ⟨sL s 247 i (lN (wrow pl f g w b o i)), ?_, k1.sL, k2.trans (Un_sL (by omega)), fun j hj => ?_⟩
    · rw [q_X12_wouldLearn_11, if_neg (show ¬ (5 : Int32) ≤ nI i from nI_ge (b := 5) hi (by omega)), tg_176 k1, if_pos rfl, gR_176_90 k1, zeR_e, if_pos rfl, r_weights k1 hp hk hso (RW_xs h hp hk hso (xs k2)) h1 hb ho, zbL_e, if_pos (ai_nI (.inl (tg_247 k1)) (ln_247 k1) hi (by omega)), zlt_e, ixn (by omega), wsel_row hi, nI_1]
    · rw [gL_sL]
      by_cases z : j = i
      · subst z; rw [if_pos ⟨rfl, rfl⟩]
      · rw [if_neg (by omega)]; exact k3 j (by omega)) σ ⟨hS, Un.refl _ _, fun j hj => by omega⟩
  obtain ⟨s2, e2, b1, b2, b3, b4⟩ := lp_run (F := fun i (s : zS) => zR 6 280 30 [some (.ref 176), some (.int (nI p)), some (.int (nI k)), some (.int (nI b)), some (.int (nI o)), some (.long (lN (wall pl f g w b o))), none, some (.int (nI i))] [] s) (fun i s => Sh s ∧ Un (fun r _ => 246 ≤ r ∧ r ≤ 250) σ s ∧ (∀ j, j < 5 → gL s 247 j = lN (wrow pl f g w b o j)) ∧ ∀ j, j < i → gL s 248 j = lN (wcol pl f g w b o j)) 3 (by
    rintro i s hi ⟨k1, k2, k3, k4⟩
    refine ⟨sL s 248 i (lN (wcol pl f g w b o i)), ?_, k1.sL, k2.trans (Un_sL (by omega)), fun j hj => ?_, fun j hj => ?_⟩
    · rw [q_X12_wouldLearn_30, if_neg (show ¬ (3 : Int32) ≤ nI i from nI_ge (b := 3) hi (by omega)), tg_176 k1, if_pos rfl, gR_176_91 k1, zeR_e, if_pos rfl, r_weights k1 hp hk hso (RW_xs h hp hk hso (xs k2)) h1 hb ho, zbL_e, if_pos (ai_nI (.inl (tg_248 k1)) (ln_248 k1) hi (by omega)), zlt_e, ixn (by omega), wsel_col hi, nI_1]
    · rw [gL_sL, if_neg (by omega)]; exact k3 j hj
    · rw [gL_sL]
      by_cases z : j = i
      · subst z; rw [if_pos ⟨rfl, rfl⟩]
      · rw [if_neg (by omega)]; exact k4 j (by omega)) s1 ⟨a1, a2, a3, fun j hj => by omega⟩
  obtain ⟨s3, e3, c1, c2, c3, c4⟩ := lp_run (F := fun i (s : zS) => zR 6 280 49 [some (.ref 176), some (.int (nI p)), some (.int (nI k)), some (.int (nI b)), some (.int (nI o)), some (.long (lN (wall pl f g w b o))), none, some (.int (nI i))] [] s) (fun i s => Sh s ∧ Un (fun r _ => 246 ≤ r ∧ r ≤ 250) σ s ∧ (∀ r j, gL s r j = gL s2 r j) ∧ ∀ j, j < i → gI s 246 j = nI (10000 * wrow pl f g w b o j / wall pl f g w b o)) 5 (by
    rintro i s hi ⟨k1, k2, k3, k4⟩
    have := rl i hi
    refine ⟨sI s 246 i (nI (10000 * wrow pl f g w b o i / wall pl f g w b o)), ?_, k1.sI (by omega), k2.trans (Un_sI (by omega)), fun r j => by rw [gL_sI]; exact k3 r j, fun j hj => ?_⟩
    · rw [q_X12_wouldLearn_49, if_neg (show ¬ (5 : Int32) ≤ nI i from nI_ge (b := 5) hi (by omega)), tg_176 k1, if_pos rfl, gR_176_89 k1, zeR_e, if_pos rfl, gR_176_90 k1, zeR_e, if_pos (ai_nI (.inl (tg_247 k1)) (ln_247 k1) hi (by omega)), if_neg nz, if_pos (ai_nI (.inl (tg_246 k1)) (ln_246 k1) hi (by omega)), zlt_e, ixn (by omega), k3, b3 i hi, show (10000 : Int64) = lN 10000 from rfl, lN_mul, pk_lDiv (by omega) h0 (by omega), lN_i, nI_1]
    · rw [gI_sI]
      by_cases z : j = i
      · subst z; rw [if_pos ⟨rfl, rfl⟩]
      · rw [if_neg (by omega)]; exact k4 j (by omega)) s2 ⟨b1, b2, fun _ _ => rfl, fun j hj => by omega⟩
  have sr : smN (fun i => 10000 * wrow pl f g w b o i / wall pl f g w b o) 5 ≤ 10000 := smN_cert (wrow pl f g w b o) (n := 5) h0
  have sc : smN (fun i => 10000 * wcol pl f g w b o i / wall pl f g w b o) 3 ≤ 10000 := by
    have := smN_cert (wcol pl f g w b o) (n := 3) (by rw [wcol_all]; exact h0)
    rw [wcol_all] at this
    exact this
  obtain ⟨s4, d0, d1, d2, d3, d4⟩ := r_tak2 (T := 249) (off := 0) (L := 5) (n := 5) (q := fun i => 10000 * wrow pl f g w b o i / wall pl f g w b o) c1 (by omega) (tg_249 c1) (ln_249 c1) (by omega) (by omega) c4 sr
  obtain ⟨s5, e5, f1, f2, f3, f4, f5⟩ := lp_run (F := fun i (s : zS) => zR 6 280 75 [some (.ref 176), some (.int (nI p)), some (.int (nI k)), some (.int (nI b)), some (.int (nI o)), some (.long (lN (wall pl f g w b o))), none, some (.int (nI i))] [] s) (fun i s => Sh s ∧ Un (fun r _ => 246 ≤ r ∧ r ≤ 250) σ s ∧ (∀ r j, gL s r j = gL s2 r j) ∧ (∀ j, j < i → gI s 246 j = nI (10000 * wcol pl f g w b o j / wall pl f g w b o)) ∧ ∀ d, d < 5 → gI s 249 d = nI (crt (fun i => 10000 * wrow pl f g w b o i / wall pl f g w b o) 5 d)) 3 (by
    rintro i s hi ⟨k1, k2, k3, k4, k5⟩
    have := cl i hi
    refine ⟨sI s 246 i (nI (10000 * wcol pl f g w b o i / wall pl f g w b o)), ?_, k1.sI (by omega), k2.trans (Un_sI (by omega)), fun r j => by rw [gL_sI]; exact k3 r j, fun j hj => ?_, fun d hd => ?_⟩
    · rw [q_X12_wouldLearn_75, if_neg (show ¬ (3 : Int32) ≤ nI i from nI_ge (b := 3) hi (by omega)), tg_176 k1, if_pos rfl, gR_176_89 k1, zeR_e, if_pos rfl, gR_176_91 k1, zeR_e, if_pos (ai_nI (.inl (tg_248 k1)) (ln_248 k1) hi (by omega)), if_neg nz, if_pos (ai_nI (.inl (tg_246 k1)) (ln_246 k1) (show i < 5 by omega) (by omega)), zlt_e, ixn (by omega), k3, b4 i hi, show (10000 : Int64) = lN 10000 from rfl, lN_mul, pk_lDiv (by omega) h0 (by omega), lN_i, nI_1]
    · rw [gI_sI]
      by_cases z : j = i
      · subst z; rw [if_pos ⟨rfl, rfl⟩]
      · rw [if_neg (by omega)]; exact k4 j (by omega)
    · rw [gI_sI, if_neg (by omega)]; exact k5 d hd) s4 ⟨d1, c2.trans (d2.mono (fun r j _ _ z => by omega)), fun r j => by rw [d3]; exact c3 r j, fun j hj => by omega, fun d hd => by have := d4 d hd; rw [Nat.zero_add] at this; exact this⟩
  obtain ⟨s6, g0, g1, g2, g3, g4⟩ := r_tak2 (T := 250) (off := 0) (L := 3) (n := 3) (q := fun i => 10000 * wcol pl f g w b o i / wall pl f g w b o) f1 (by omega) (tg_250 f1) (ln_250 f1) (by omega) (by omega) f4 sc
  refine ⟨s6, ?_, g1, f2.trans (g2.mono (fun r j _ _ z => by omega)), fun d hd => ?_, fun r hr => by have := g4 r hr; rw [Nat.zero_add] at this; exact this⟩
  · rw [q_X12_wouldLearn, tg_176 hS, if_pos rfl, r_weights hS hp hk hso h h1 hb ho, zbL_e, wsel_all]
    refine Eq.trans e1 ?_
    rw [q_X12_wouldLearn_11, if_pos (show (5 : Int32) ≤ nI 5 by decide)]
    refine Eq.trans e2 ?_
    rw [q_X12_wouldLearn_30, if_pos (show (3 : Int32) ≤ nI 3 by decide)]
    refine Eq.trans e3 ?_
    rw [q_X12_wouldLearn_49, if_pos (show (5 : Int32) ≤ nI 5 by decide), tg_176 c1, if_pos rfl, gR_176_92 c1, zeR_e, if_pos rfl]
    refine Eq.trans (congrArg (fun x => zbV x _) d0) ?_
    rw [zbV_e]
    refine Eq.trans e5 ?_
    rw [q_X12_wouldLearn_75, if_pos (show (3 : Int32) ≤ nI 3 by decide), tg_176 f1, if_pos rfl, gR_176_93 f1, zeR_e, if_pos rfl]
    refine Eq.trans (congrArg (fun x => zbV x _) g0) ?_
    rw [zbV_e]
  · rw [g2.i (by omega) (by omega) (by omega) (by omega)]; exact f5 d hd
end
