/-! on: whether the bytes are an image; both see it alike -/
def tw (t : Nat → Nat) (e : Nat) : Nat := 256 * t e + t (e + 1)
def tws (t : Nat → Nat) (e : Nat) : Nat → Nat
  | 0 => 0
  | i + 1 => tws t e i + tw t (e + 2 * i)
def cks (t : Nat → Nat) : Nat → Nat
  | 0 => 13
  | j + 1 => (5 * cks t j + t j) % 241
def pOK (t : Nat → Nat) (M e : Nat) : Prop := t e < M ∧ (30 ≤ t (e + 1) ∧ t (e + 1) ≤ 49) ∧ tws t (e + 2) 5 = 10000
def IMG (t : Nat → Nat) (n N M : Nat) : Prop := t 0 ≤ 20 ∧ n = 2 + 12 * t 0 + 6 * N ∧ (∀ p, p < t 0 → pOK t M (1 + 12 * p)) ∧ (∀ k, k < N → tws t (1 + 12 * t 0 + 6 * k) 3 = 10000) ∧ t (n - 1) = cks t (n - 1)
section
variable {σ : zS} {t : Nat → Nat} {P N M n e m : Nat} {v : Int32}
theorem cks_lt : ∀ j, cks t j < 241
  | 0 => (by decide : 13 < 241)
  | j + 1 => Nat.mod_lt _ (by omega)
theorem tw_le (hb : ∀ j, t j < 256) : tw t e ≤ 65535 := by
  have h1 := hb e
  have h2 := hb (e + 1)
  unfold tw
  omega
theorem tws_le (hb : ∀ j, t j < 256) : ∀ i, tws t e i ≤ 65535 * i
  | 0 => Nat.le_refl _
  | i + 1 => by
    have h1 := tws_le hb i
    have h2 := tw_le hb (e := e + 2 * i)
    show tws t e i + tw t (e + 2 * i) ≤ 65535 * (i + 1)
    omega
theorem sh8 : ∀ a, a < 256 → nI a <<< ((8 : Int32) &&& 31) = nI (256 * a) := by decide +kernel
theorem sh_or {a b : Nat} (ha : a < 256) (hb : b < 256) : (nI a <<< ((8 : Int32) &&& 31)) ||| nI b = nI (256 * a + b) := by
  rw [sh8 a ha]
  apply Int32.toBitVec_inj.mp
  rw [Int32.toBitVec_or]
  show BitVec.ofNat 32 (256 * a) ||| BitVec.ofNat 32 b = BitVec.ofNat 32 (256 * a + b)
  rw [← BitVec.ofNat_or, show 256 * a = 2 ^ 8 * a from rfl, ← Nat.two_pow_add_eq_or_of_lt (i := 8) hb]
theorem sz_nI {w : Nat} (hw : w < 256) : (30 ≤ nI w ∧ nI w ≤ (49 : Int32)) = (30 ≤ w ∧ w ≤ 49) := by
  rw [nI_leL (n := 30) (by omega) (by omega), nI_leR (n := 49) (by omega) (by omega)]
theorem szI {w : Nat} (hw : w < 256) : (if 30 ≤ nI w ∧ nI w ≤ (49 : Int32) then (1 : Int32) else 0) = if 30 ≤ w ∧ w ≤ 49 then 1 else 0 := by
  by_cases q : 30 ≤ w ∧ w ≤ 49
  · rw [if_pos q, if_pos ((sz_nI hw).mpr q)]
  · rw [if_neg q, if_neg (fun y => q ((sz_nI hw).mp y))]
theorem c_nmA (hS : Sh σ) (ht : ∀ j, gI σ 7 j = sb (t j)) (hb : ∀ j, t j < 256) (he : e + 1 < 1600) : zM 25 [.ref 7, .int (nI e)] σ = some (some (.int (nI (tw t e))), σ) := by
  have a1 := ai_nI (σ := σ) (t := 33) (u := 49) (.inl (tg_7 hS)) (ln_7 hS) (show e < 1600 by omega) (by omega)
  have a2 := ai_nI (σ := σ) (t := 33) (u := 49) (.inl (tg_7 hS)) (ln_7 hS) (show e + 1 < 1600 by omega) (by omega)
  have x1 : ix (nI e) = e := ixn (by omega)
  have x2 : ix (nI (e + 1)) = e + 1 := ixn (by omega)
  rw [q_X2_numberAt, nI_1 e, if_pos a1, if_pos a2, x1, x2, ht e, ht (e + 1), sb_and _ (hb e), sb_and _ (hb (e + 1)), sh_or (hb e) (hb (e + 1))]
  rfl
theorem c_cer (hS : Sh σ) (ht : ∀ j, gI σ 7 j = sb (t j)) (hb : ∀ j, t j < 256) (he : e + 2 * m ≤ 1600) (hm : m ≤ 5) (hv : v = nI m) : zM 26 [.ref 7, .int (nI e), .int v] σ = some (some (.int (if tws t e m = 10000 then 1 else 0)), σ) := by
  subst hv
  have h := lp_seq (G := fun i => zR 2 26 4 [some (.ref 7), some (.int (nI e)), some (.int (nI m)), some (.int (nI (tws t e i))), some (.int (nI i))] [] σ) m (fun i hi => by
    rw [q_X2_isCertain_4, if_neg (nI_ge hi (by omega)), nI_1 i, nI_mulL 2 i, nI_add, c_nmA hS ht hb (by omega), zbI_e, nI_add]
    rfl)
  have b := tws_le hb (e := e) m
  rw [q_X2_isCertain]
  refine Eq.trans h ?_
  rw [q_X2_isCertain_4, if_pos (nI_le (Nat.le_refl _) (by omega))]
  by_cases q : tws t e m = 10000
  · rw [if_pos (show nI (tws t e m) = 10000 by rw [q]; rfl), if_pos q]
  · rw [if_neg (show ¬ nI (tws t e m) = 10000 by rw [nI_eqR (n := 10000) (by omega) (by omega)]; exact q), if_neg q]
theorem c_pAt (hS : Sh σ) (hP : HP P) (h6 : gI σ P 6 = nI M) (hM : M ≤ 4) (ht : ∀ j, gI σ 7 j = sb (t j)) (hb : ∀ j, t j < 256) (he : e + 12 ≤ 1600) : (pOK t M e → zM 24 [.ref 7, .int (nI e), .ref P] σ = some (some (.int 1), σ)) ∧ (¬ pOK t M e → zM 24 [.ref 7, .int (nI e), .ref P] σ = some (some (.int 0), σ)) := by
  have a1 := ai_nI (σ := σ) (t := 33) (u := 49) (.inl (tg_7 hS)) (ln_7 hS) (show e < 1600 by omega) (by omega)
  have a2 := ai_nI (σ := σ) (t := 33) (u := 49) (.inl (tg_7 hS)) (ln_7 hS) (show e + 1 < 1600 by omega) (by omega)
  have x1 : ix (nI e) = e := ixn (by omega)
  have x2 : ix (nI (e + 1)) = e + 1 := ixn (by omega)
  have be := hb e
  have be1 := hb (e + 1)
  have g : zM 24 [.ref 7, .int (nI e), .ref P] σ = if nI M ≤ nI (t e) then some (some (.int 0), σ) else if (if 30 ≤ nI (t (e + 1)) ∧ nI (t (e + 1)) ≤ 49 then (1 : Int32) else 0) = 0 then some (some (.int 0), σ) else if (if tws t (e + 2) 5 = 10000 then (1 : Int32) else 0) = 0 then some (some (.int 0), σ) else some (some (.int 1), σ) := by
    rw [q_X2_isPersonAt, nI_1 e, nI_addR 2 e, if_pos a1, tg_P hS hP, if_pos rfl, h6, if_pos a2, x1, x2, ht e, ht (e + 1), sb_and _ be, sb_and _ be1, sz_c, zbI_e, c_cer (m := 5) (v := 5) hS ht hb (by omega) (by omega) rfl, zbI_e]
  rw [g, szI be1]
  unfold pOK
  by_cases q1 : t e < M
  · rw [if_neg (nI_ge q1 (by omega))]
    by_cases q2 : 30 ≤ t (e + 1) ∧ t (e + 1) ≤ 49
    · rw [if_pos q2, if_neg (by decide)]
      by_cases q3 : tws t (e + 2) 5 = 10000
      · rw [if_pos q3, if_neg (by decide)]
        exact ⟨fun _ => rfl, fun y => absurd ⟨q1, q2, q3⟩ y⟩
      · rw [if_neg q3, if_pos rfl]
        exact ⟨fun y => absurd y.2.2 q3, fun _ => rfl⟩
    · rw [if_neg q2, if_pos rfl]
      exact ⟨fun y => absurd y.2.1 q2, fun _ => rfl⟩
  · rw [if_pos (nI_le (by omega) (by omega))]
    exact ⟨fun y => absurd y.1 q1, fun _ => rfl⟩
theorem c_chk (hS : Sh σ) (ht : ∀ j, gI σ 7 j = sb (t j)) (hb : ∀ j, t j < 256) (hm : m ≤ 1600) : zM 21 [.ref 7, .int (nI m)] σ = some (some (.int (nI (cks t m))), σ) := by
  have e := lp_seq (G := fun j => zR 1 21 4 [some (.ref 7), some (.int (nI m)), some (.int (nI (cks t j))), some (.int (nI j))] [] σ) m (fun j hj => by
    have c0 := cks_lt (t := t) j
    have b0 := hb j
    rw [q_X2_check_4, if_neg (nI_ge hj (by omega)), tg_7 hS, if_pos (by decide), ln_7 hS, if_neg (show ¬ Int32.ofNat 1600 ≤ nI j from nI_ge (b := 1600) (by omega) (by omega)), if_pos (ai_nI (.inl (tg_7 hS)) (ln_7 hS) (show j < 1600 by omega) (by omega)), ixn (by omega), ht j, sb_and _ b0, nI_mulL 5, nI_add, show (241 : Int32) = nI 241 from rfl, pk_rem (by omega) (by omega) (by omega), zli_e, nI_1]
    rfl)
  rw [q_X2_check]
  refine Eq.trans e ?_
  rw [q_X2_check_4, if_pos (nI_le (Nat.le_refl _) (by omega))]
theorem c_isOne (hS : Sh σ) (hP : HP P) (h5 : gI σ P 5 = nI N) (hN : N ≤ 8) (h6 : gI σ P 6 = nI M) (hM : M ≤ 4) (ht : ∀ j, gI σ 7 j = sb (t j)) (hb : ∀ j, t j < 256) (hn : n ≤ 1600) : (IMG t n N M → zM 23 [.ref 7, .int (nI n), .ref P] σ = some (some (.int 1), σ)) ∧ (¬ IMG t n N M → zM 23 [.ref 7, .int (nI n), .ref P] σ = some (some (.int 0), σ)) := by
  by_cases q1 : n < 1
  · refine ⟨fun y => absurd y.2.1 (by omega), fun _ => ?_⟩
    rw [q_X2_isOne, if_pos (show nI n < 1 from nI_lt (b := 1) q1 (by omega))]
  have b0 := hb 0
  have a0 : ai σ 33 49 7 0 = true := ai_nI (σ := σ) (t := 33) (u := 49) (.inl (tg_7 hS)) (ln_7 hS) (show 0 < 1600 by omega) (by omega)
  have e1 : 1 + nI (t 0) * 12 = nI (1 + 12 * t 0) := by rw [nI_mulR 12, nI_addL 1, Nat.mul_comm]
  have e2 : nI (1 + 12 * t 0) + nI N * 6 + 1 = nI (2 + 12 * t 0 + 6 * N) := by
    rw [nI_mulR 6, nI_add, nI_addR 1]
    congr 1
    omega
  have g : zM 23 [.ref 7, .int (nI n), .ref P] σ = if 20 < nI (t 0) then some (some (.int 0), σ) else if nI n = nI (2 + 12 * t 0 + 6 * N) then zR 4 23 35 [some (.ref 7), some (.int (nI n)), some (.ref P), some (.int (nI (t 0))), some (.int (nI (1 + 12 * t 0))), some (.int 0)] [] σ else some (some (.int 0), σ) := by
    rw [q_X2_isOne, if_neg (show ¬ nI n < 1 from nI_nlt (b := 1) (by omega) (by omega)), tg_7 hS, if_pos (by decide), ln_7 hS, if_pos (show nI n ≤ Int32.ofNat 1600 from nI_le (b := 1600) (by omega) (by omega)), if_pos a0, show ix (0 : Int32) = 0 from rfl, ht 0, sb_and _ b0, q_X2_personAt, zbI_e, tg_P hS hP, if_pos rfl, h5, e1, e2]
  rw [g]
  rcases (Classical.em (t 0 ≤ 20)).symm with q2 | q2
  · rw [if_pos (show (20 : Int32) < nI (t 0) from nI_lt (a := 20) (by omega) (by omega))]
    exact ⟨fun y => absurd y.1 q2, fun _ => rfl⟩
  rw [if_neg (show ¬ (20 : Int32) < nI (t 0) from nI_nlt (a := 20) (by omega) (by omega))]
  rcases (Classical.em (n = 2 + 12 * t 0 + 6 * N)).symm with q3 | q3
  · rw [if_neg (fun y => q3 ((nI_eq (by omega) (by omega)).mp y))]
    exact ⟨fun y => absurd y.2.1 q3, fun _ => rfl⟩
  rw [if_pos (show nI n = nI (2 + 12 * t 0 + 6 * N) by rw [← q3])]
  have ep : ∀ p, 1 + nI p * 12 = nI (1 + 12 * p) := fun p => by rw [nI_mulR 12, nI_addL 1, Nat.mul_comm]
  have ek : ∀ k, nI (1 + 12 * t 0) + nI k * 6 = nI (1 + 12 * t 0 + 6 * k) := fun k => by rw [nI_mulR 6, nI_add, Nat.mul_comm k]
  obtain ⟨l1, l2⟩ := lp_find (F := fun i => zR 4 23 35 [some (.ref 7), some (.int (nI n)), some (.ref P), some (.int (nI (t 0))), some (.int (nI (1 + 12 * t 0))), some (.int (nI i))] [] σ) (A := some (some (.int 0), σ)) (fun i => ¬ pOK t M (1 + 12 * i)) (t 0) (fun i hi hq => by
    rw [q_X2_isOne_35, if_neg (nI_ge hi (by omega)), q_X2_personAt, zbI_e, ep, (c_pAt hS hP h6 hM ht hb (by omega)).2 hq, zbI_e, if_pos rfl]) (fun i hi hq => by
    have hq' : pOK t M (1 + 12 * i) := Classical.not_not.mp hq
    rw [q_X2_isOne_35, if_neg (nI_ge hi (by omega)), q_X2_personAt, zbI_e, ep, (c_pAt hS hP h6 hM ht hb (by omega)).1 hq', zbI_e, if_neg (by decide), nI_1])
  by_cases q4 : ∃ i, i < t 0 ∧ ¬ pOK t M (1 + 12 * i)
  · refine ⟨fun y => ?_, fun _ => l1 q4⟩
    obtain ⟨i, hi, hq⟩ := q4
    exact absurd (y.2.2.1 i hi) hq
  have q4' : ∀ p, p < t 0 → pOK t M (1 + 12 * p) := fun p hp => Classical.not_not.mp (fun y => q4 ⟨p, hp, y⟩)
  have l2' : zR 4 23 35 [some (.ref 7), some (.int (nI n)), some (.ref P), some (.int (nI (t 0))), some (.int (nI (1 + 12 * t 0))), some (.int 0)] [] σ = zR 4 23 50 [some (.ref 7), some (.int (nI n)), some (.ref P), some (.int (nI (t 0))), some (.int (nI (1 + 12 * t 0))), some (.int 0)] [] σ := by
    refine Eq.trans (l2 q4) ?_
    rw [q_X2_isOne_35, if_pos (nI_le (Nat.le_refl _) (by omega))]
  rw [l2']
  obtain ⟨m1, m2⟩ := lp_find (F := fun i => zR 4 23 50 [some (.ref 7), some (.int (nI n)), some (.ref P), some (.int (nI (t 0))), some (.int (nI (1 + 12 * t 0))), some (.int (nI i))] [] σ) (A := some (some (.int 0), σ)) (fun i => ¬ tws t (1 + 12 * t 0 + 6 * i) 3 = 10000) N (fun i hi hq => by
    rw [q_X2_isOne_50, tg_P hS hP, if_pos rfl, h5, if_neg (nI_ge hi (by omega)), ek, c_cer (m := 3) (v := 3) hS ht hb (by omega) (by omega) rfl, zbI_e, if_neg hq, if_pos rfl]) (fun i hi hq => by
    have hq' : tws t (1 + 12 * t 0 + 6 * i) 3 = 10000 := Classical.not_not.mp hq
    rw [q_X2_isOne_50, tg_P hS hP, if_pos rfl, h5, if_neg (nI_ge hi (by omega)), ek, c_cer (m := 3) (v := 3) hS ht hb (by omega) (by omega) rfl, zbI_e, if_pos hq', if_neg (by decide), nI_1])
  by_cases q5 : ∃ i, i < N ∧ ¬ tws t (1 + 12 * t 0 + 6 * i) 3 = 10000
  · refine ⟨fun y => ?_, fun _ => m1 q5⟩
    obtain ⟨i, hi, hq⟩ := q5
    exact absurd (y.2.2.2.1 i hi) hq
  have q5' : ∀ k, k < N → tws t (1 + 12 * t 0 + 6 * k) 3 = 10000 := fun k hk => Classical.not_not.mp (fun y => q5 ⟨k, hk, y⟩)
  have an := ai_nI (σ := σ) (t := 33) (u := 49) (.inl (tg_7 hS)) (ln_7 hS) (show n - 1 < 1600 by omega) (by omega)
  have bn := hb (n - 1)
  have cn := cks_lt (t := t) (n - 1)
  have fin : zR 4 23 50 [some (.ref 7), some (.int (nI n)), some (.ref P), some (.int (nI (t 0))), some (.int (nI (1 + 12 * t 0))), some (.int 0)] [] σ = if nI (t (n - 1)) = nI (cks t (n - 1)) then some (some (.int 1), σ) else some (some (.int 0), σ) := by
    refine Eq.trans (m2 q5) ?_
    rw [q_X2_isOne_50, tg_P hS hP, if_pos rfl, h5, if_pos (nI_le (Nat.le_refl _) (by omega)), nI_subR (n := 1) (by omega), if_pos an, c_chk hS ht hb (by omega), zbI_e, ixn (by omega), ht (n - 1), sb_and _ bn]
  rw [fin]
  by_cases q6 : t (n - 1) = cks t (n - 1)
  · rw [if_pos (by rw [q6])]
    exact ⟨fun _ => rfl, fun y => absurd ⟨q2, q3, q4', q5', q6⟩ y⟩
  · rw [if_neg (fun y => q6 ((nI_eq (by omega) (by omega)).mp y))]
    exact ⟨fun y => absurd y.2.2.2.2 q6, fun _ => rfl⟩
/-- the reference's way -/
theorem r_two (hS : Sh σ) (ht : ∀ j, j < 1600 → gI σ 177 j = nI (t j)) (he : e + 1 < 1600) : zM 316 [.ref 176, .int (nI e)] σ = some (some (.int (nI (tw t e))), σ) := by
  have a1 := ai_nI (σ := σ) (t := 32) (u := 48) (.inl (tg_177 hS)) (ln_177 hS) (show e < 1600 by omega) (by omega)
  have a2 := ai_nI (σ := σ) (t := 32) (u := 48) (.inl (tg_177 hS)) (ln_177 hS) (show e + 1 < 1600 by omega) (by omega)
  have x1 : ix (nI e) = e := ixn (by omega)
  have x2 : ix (nI (e + 1)) = e + 1 := ixn (by omega)
  rw [q_X12_twoAt, nI_1 e, tg_176 hS, if_pos rfl, gR_176_0 hS, zeR_e, if_pos a1, if_pos rfl, zeR_e, if_pos a2, x1, x2, ht e (by omega), ht (e + 1) (by omega), nI_mulL 256, nI_add]
  rfl
theorem r_who (hS : Sh σ) (ht : ∀ j, j < 1600 → gI σ 177 j = nI (t j)) (hb : ∀ j, t j < 256) (he : e + 2 * m ≤ 1600) (hm : m ≤ 5) (hv : v = nI m) : zM 317 [.ref 176, .int (nI e), .int v] σ = some (some (.int (if tws t e m = 10000 then 1 else 0)), σ) := by
  subst hv
  have h := lp_seq (G := fun i => zR 2 317 4 [some (.ref 176), some (.int (nI e)), some (.int (nI m)), some (.int (nI (tws t e i))), some (.int (nI i))] [] σ) m (fun i hi => by
    rw [q_X12_isWhole_4, if_neg (nI_ge hi (by omega)), tg_176 hS, if_pos rfl, nI_1 i, nI_mulL 2 i, nI_add, r_two hS ht (by omega), zbI_e, nI_add]
    rfl)
  have b := tws_le hb (e := e) m
  rw [q_X12_isWhole]
  refine Eq.trans h ?_
  rw [q_X12_isWhole_4, if_pos (nI_le (Nat.le_refl _) (by omega))]
  by_cases q : tws t e m = 10000
  · rw [if_pos (show nI (tws t e m) = 10000 by rw [q]; rfl), if_pos q]
  · rw [if_neg (show ¬ nI (tws t e m) = 10000 by rw [nI_eqR (n := 10000) (by omega) (by omega)]; exact q), if_neg q]
theorem r_chk (hS : Sh σ) (ht : ∀ j, j < 1600 → gI σ 177 j = nI (t j)) (hb : ∀ j, t j < 256) (hm : m ≤ 1600) : zM 313 [.ref 177, .int (nI m)] σ = some (some (.int (nI (cks t m))), σ) := by
  have e := lp_seq (G := fun j => zR 1 313 4 [some (.ref 177), some (.int (nI m)), some (.int (nI (cks t j))), some (.int (nI j))] [] σ) m (fun j hj => by
    have c0 := cks_lt (t := t) j
    have b0 := hb j
    rw [q_X12_checked_4, if_neg (nI_ge hj (by omega)), if_pos (ai_nI (.inl (tg_177 hS)) (ln_177 hS) (show j < 1600 by omega) (by omega)), ixn (by omega), ht j (by omega), nI_mulL 5, nI_add, show (241 : Int32) = nI 241 from rfl, pk_rem (by omega) (by omega) (by omega), zli_e, nI_1]
    rfl)
  rw [q_X12_checked]
  refine Eq.trans e ?_
  rw [q_X12_checked_4, if_pos (nI_le (Nat.le_refl _) (by omega))]
theorem r_askN (hS : Sh σ) (h : gI σ 214 4 = nI M) (hM : M ≤ 4) {a b : Nat} (ha : a < 256) (hb : b < 256) : zM 242 [.ref 176, .int (nI a), .int (nI b)] σ = some (some (.int (if a < M ∧ 30 ≤ b ∧ b ≤ 49 then 1 else 0)), σ) := by
  rw [r_asked hS h hM]
  by_cases q : a < M
  · by_cases q2 : 30 ≤ b ∧ b ≤ 49
    · rw [if_pos (show (0 ≤ nI a ∧ nI a < nI M) ∧ 30 ≤ nI b ∧ nI b ≤ 49 from ⟨rng_ok q (by omega), (sz_nI hb).mpr q2⟩), if_pos ⟨q, q2⟩]
    · rw [if_neg (show ¬ ((0 ≤ nI a ∧ nI a < nI M) ∧ 30 ≤ nI b ∧ nI b ≤ 49) from fun y => q2 ((sz_nI hb).mp y.2)), if_neg (fun y => q2 y.2)]
  · rw [if_neg (show ¬ ((0 ≤ nI a ∧ nI a < nI M) ∧ 30 ≤ nI b ∧ nI b ≤ 49) from fun y => absurd y.1.2 (nI_nlt (by omega) (by omega))), if_neg (fun y => q y.1)]
theorem r_told (hS : Sh σ) (h3 : gI σ 214 3 = nI N) (hN : N ≤ 8) (h4 : gI σ 214 4 = nI M) (hM : M ≤ 4) (ht : ∀ j, j < 1600 → gI σ 177 j = nI (t j)) (hb : ∀ j, t j < 256) (hn : n ≤ 1600) : (IMG t n N M → zM 318 [.ref 176, .int (nI n)] σ = some (some (.int 1), σ)) ∧ (¬ IMG t n N M → zM 318 [.ref 176, .int (nI n)] σ = some (some (.int 0), σ)) := by
  by_cases q1 : n < 2
  · refine ⟨fun y => absurd y.2.1 (by omega), fun _ => ?_⟩
    rw [q_X12_isTold, if_pos (show nI n < 2 from nI_lt (b := 2) q1 (by omega))]
  have b0 := hb 0
  have a0 : ai σ 32 48 177 0 = true := ai_nI (σ := σ) (t := 32) (u := 48) (.inl (tg_177 hS)) (ln_177 hS) (show 0 < 1600 by omega) (by omega)
  have ix0 : ix (0 : Int32) = 0 := rfl
  have e2 : 2 + 12 * nI (t 0) + 6 * nI N = nI (2 + 12 * t 0 + 6 * N) := by
    rw [nI_mulL 12, nI_mulL 6, nI_addL 2, nI_add]
  have g : zM 318 [.ref 176, .int (nI n)] σ = if 20 < nI (t 0) then some (some (.int 0), σ) else if nI n = nI (2 + 12 * t 0 + 6 * N) then zR 3 318 24 [some (.ref 176), some (.int (nI n)), none] [] σ else some (some (.int 0), σ) := by
    rw [q_X12_isTold, if_neg (show ¬ nI n < 2 from nI_nlt (b := 2) (by omega) (by omega)), tg_176 hS, if_pos rfl, gR_176_0 hS, zeR_e, if_pos a0, ix0, if_pos rfl, zeR_e, if_pos a0, if_pos rfl, r_lasts hS h3, zbI_e, ht 0 (by omega), e2]
  rw [g]
  rcases (Classical.em (t 0 ≤ 20)).symm with q2 | q2
  · rw [if_pos (show (20 : Int32) < nI (t 0) from nI_lt (a := 20) (by omega) (by omega))]
    exact ⟨fun y => absurd y.1 q2, fun _ => rfl⟩
  rw [if_neg (show ¬ (20 : Int32) < nI (t 0) from nI_nlt (a := 20) (by omega) (by omega))]
  rcases (Classical.em (n = 2 + 12 * t 0 + 6 * N)).symm with q3 | q3
  · rw [if_neg (fun y => q3 ((nI_eq (by omega) (by omega)).mp y))]
    exact ⟨fun y => absurd y.2.1 q3, fun _ => rfl⟩
  rw [if_pos (show nI n = nI (2 + 12 * t 0 + 6 * N) by rw [← q3])]
  have an := ai_nI (σ := σ) (t := 32) (u := 48) (.inl (tg_177 hS)) (ln_177 hS) (show n - 1 < 1600 by omega) (by omega)
  have bn := hb (n - 1)
  have cn := cks_lt (t := t) (n - 1)
  have g2 : zR 3 318 24 [some (.ref 176), some (.int (nI n)), none] [] σ = if nI (t (n - 1)) = nI (cks t (n - 1)) then zR 3 318 41 [some (.ref 176), some (.int (nI n)), some (.int 0)] [] σ else some (some (.int 0), σ) := by
    rw [q_X12_isTold_24, nI_subR (n := 1) (by omega), tg_176 hS, if_pos rfl, gR_176_0 hS, zeR_e, if_pos an, if_pos rfl, zeR_e, r_chk hS ht hb (by omega), zbI_e, ixn (by omega), ht (n - 1) (by omega)]
  rw [g2]
  rcases (Classical.em (t (n - 1) = cks t (n - 1))).symm with q6 | q6
  · rw [if_neg (fun y => q6 ((nI_eq (by omega) (by omega)).mp y))]
    exact ⟨fun y => absurd y.2.2.2.2 q6, fun _ => rfl⟩
  rw [if_pos (show nI (t (n - 1)) = nI (cks t (n - 1)) by rw [q6])]
  have ep1 : ∀ p, 1 + 12 * nI p = nI (1 + 12 * p) := fun p => by rw [nI_mulL 12, nI_addL 1]
  have ep2 : ∀ p, 2 + 12 * nI p = nI (1 + 12 * p + 1) := fun p => by
    rw [nI_mulL 12, nI_addL 2]
    congr 1
    omega
  have ep3 : ∀ p, 3 + 12 * nI p = nI (1 + 12 * p + 2) := fun p => by
    rw [nI_mulL 12, nI_addL 3]
    congr 1
    omega
  have ek : ∀ k, nI (1 + 12 * t 0) + 6 * nI k = nI (1 + 12 * t 0 + 6 * k) := fun k => by rw [nI_mulL 6, nI_add]
  have pg : ∀ i, i < t 0 → zR 3 318 41 [some (.ref 176), some (.int (nI n)), some (.int (nI i))] [] σ = if (if t (1 + 12 * i) < M ∧ 30 ≤ t (1 + 12 * i + 1) ∧ t (1 + 12 * i + 1) ≤ 49 then (1 : Int32) else 0) = 0 then some (some (.int 0), σ) else zR 3 318 66 [some (.ref 176), some (.int (nI n)), some (.int (nI i))] [] σ := fun i hi => by
    have c1 := ai_nI (σ := σ) (t := 32) (u := 48) (.inl (tg_177 hS)) (ln_177 hS) (show 1 + 12 * i < 1600 by omega) (by omega)
    have c2 := ai_nI (σ := σ) (t := 32) (u := 48) (.inl (tg_177 hS)) (ln_177 hS) (show 1 + 12 * i + 1 < 1600 by omega) (by omega)
    have x1 : ix (nI (1 + 12 * i)) = 1 + 12 * i := ixn (by omega)
    have x2 : ix (nI (1 + 12 * i + 1)) = 1 + 12 * i + 1 := ixn (by omega)
    rw [q_X12_isTold_41, ep1, ep2, tg_176 hS, if_pos rfl, gR_176_0 hS, zeR_e, if_pos a0, ix0, ht 0 (by omega), if_neg (nI_ge hi (by omega)), if_pos rfl, zeR_e, if_pos c1, if_pos rfl, zeR_e, if_pos c2, if_pos rfl, x1, x2, ht (1 + 12 * i) (by omega), ht (1 + 12 * i + 1) (by omega), r_askN hS h4 hM (hb _) (hb _), zbI_e]
  have pg2 : ∀ i, i < t 0 → zR 3 318 66 [some (.ref 176), some (.int (nI n)), some (.int (nI i))] [] σ = if (if tws t (1 + 12 * i + 2) 5 = 10000 then (1 : Int32) else 0) = 0 then some (some (.int 0), σ) else zR 3 318 41 [some (.ref 176), some (.int (nI n)), some (.int (nI (i + 1)))] [] σ := fun i hi => by
    rw [q_X12_isTold_66, ep3, tg_176 hS, if_pos rfl, r_who (m := 5) (v := 5) hS ht hb (by omega) (by omega) rfl, zbI_e, nI_1 i]
  obtain ⟨l1, l2⟩ := lp_find (F := fun i => zR 3 318 41 [some (.ref 176), some (.int (nI n)), some (.int (nI i))] [] σ) (A := some (some (.int 0), σ)) (fun i => ¬ pOK t M (1 + 12 * i)) (t 0) (fun i hi hq => by
    rw [pg i hi, pg2 i hi]
    by_cases y1 : t (1 + 12 * i) < M ∧ 30 ≤ t (1 + 12 * i + 1) ∧ t (1 + 12 * i + 1) ≤ 49
    · rw [if_pos y1, if_neg (by decide), if_neg (show ¬ tws t (1 + 12 * i + 2) 5 = 10000 from fun z => hq ⟨y1.1, y1.2, z⟩), if_pos rfl]
    · rw [if_neg y1, if_pos rfl]) (fun i hi hq => by
    have hq' : pOK t M (1 + 12 * i) := Classical.not_not.mp hq
    rw [pg i hi, pg2 i hi, if_pos (show t (1 + 12 * i) < M ∧ 30 ≤ t (1 + 12 * i + 1) ∧ t (1 + 12 * i + 1) ≤ 49 from ⟨hq'.1, hq'.2.1⟩), if_neg (by decide), if_pos hq'.2.2, if_neg (by decide)])
  by_cases q4 : ∃ i, i < t 0 ∧ ¬ pOK t M (1 + 12 * i)
  · refine ⟨fun y => ?_, fun _ => l1 q4⟩
    obtain ⟨i, hi, hq⟩ := q4
    exact absurd (y.2.2.1 i hi) hq
  have q4' : ∀ p, p < t 0 → pOK t M (1 + 12 * p) := fun p hp => Classical.not_not.mp (fun y => q4 ⟨p, hp, y⟩)
  have l2' : zR 3 318 41 [some (.ref 176), some (.int (nI n)), some (.int 0)] [] σ = zR 3 318 81 [some (.ref 176), some (.int (nI n)), some (.int 0)] [] σ := by
    refine Eq.trans (l2 q4) ?_
    rw [q_X12_isTold_41, tg_176 hS, if_pos rfl, gR_176_0 hS, zeR_e, if_pos a0, ix0, ht 0 (by omega), if_pos (nI_le (Nat.le_refl _) (by omega))]
  rw [l2']
  have lg : ∀ k, k < N → zR 3 318 81 [some (.ref 176), some (.int (nI n)), some (.int (nI k))] [] σ = if (if tws t (1 + 12 * t 0 + 6 * k) 3 = 10000 then (1 : Int32) else 0) = 0 then some (some (.int 0), σ) else zR 3 318 81 [some (.ref 176), some (.int (nI n)), some (.int (nI (k + 1)))] [] σ := fun k hk => by
    rw [q_X12_isTold_81, tg_176 hS, if_pos rfl, r_lasts hS h3, zbI_e, if_neg (nI_ge hk (by omega)), tg_176 hS, if_pos rfl, gR_176_0 hS, zeR_e, if_pos a0, if_pos rfl, ix0, ht 0 (by omega), ep1, ek, r_who (m := 3) (v := 3) hS ht hb (by omega) (by omega) rfl, zbI_e, nI_1 k]
  obtain ⟨m1, m2⟩ := lp_find (F := fun i => zR 3 318 81 [some (.ref 176), some (.int (nI n)), some (.int (nI i))] [] σ) (A := some (some (.int 0), σ)) (fun i => ¬ tws t (1 + 12 * t 0 + 6 * i) 3 = 10000) N (fun i hi hq => by
    rw [lg i hi, if_neg hq, if_pos rfl]) (fun i hi hq => by
    have hq' : tws t (1 + 12 * t 0 + 6 * i) 3 = 10000 := Classical.not_not.mp hq
    rw [lg i hi, if_pos hq', if_neg (by decide)])
  by_cases q5 : ∃ i, i < N ∧ ¬ tws t (1 + 12 * t 0 + 6 * i) 3 = 10000
  · refine ⟨fun y => ?_, fun _ => m1 q5⟩
    obtain ⟨i, hi, hq⟩ := q5
    exact absurd (y.2.2.2.1 i hi) hq
  have q5' : ∀ k, k < N → tws t (1 + 12 * t 0 + 6 * k) 3 = 10000 := fun k hk => Classical.not_not.mp (fun y => q5 ⟨k, hk, y⟩)
  have fin : zR 3 318 81 [some (.ref 176), some (.int (nI n)), some (.int 0)] [] σ = some (some (.int 1), σ) := by
    refine Eq.trans (m2 q5) ?_
    rw [q_X12_isTold_81, tg_176 hS, if_pos rfl, r_lasts hS h3, zbI_e, if_pos (nI_le (Nat.le_refl _) (by omega))]
  exact ⟨fun _ => fin, fun y => absurd ⟨q2, q3, q4', q5', q6⟩ y⟩
end
