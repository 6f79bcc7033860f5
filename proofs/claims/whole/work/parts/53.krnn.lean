/-! the reference's numbers and names -/
/-- a word's letters as one number, unpadded -/
def nmp (t : Nat → Nat) (s : Nat) : Nat → Nat
  | 0 => 0
  | i + 1 => 27 * nmp t s i + (t (s + i) - 96)
section
variable {t : Nat → Nat} {n : Nat} {σ : zS} {st : lx}
theorem r_isIn (x a b : Int32) (σ : zS) : zM 188 [.long x.toInt64, .long a.toInt64, .long b.toInt64] σ = some (some (.int (if a ≤ x ∧ x ≤ b then 1 else 0)), σ) := by
  rw [q_X12_isIn]
  simp only [cmp_lt, cmp_gt, Int64.lt_iff_toInt_lt, Int32.toInt_toInt64, Int32.le_iff_toInt_le]
  repeat' split
  all_goals first | rfl | omega
theorem r_isInN {x a b : Nat} (hx : x < 2 ^ 31) (ha : a < 2 ^ 31) (hb : b < 2 ^ 31) (σ : zS) : zM 188 [.long (nI x).toInt64, .long (nI a).toInt64, .long (nI b).toInt64] σ = some (some (.int (if a ≤ x ∧ x ≤ b then 1 else 0)), σ) := by
  rw [r_isIn]
  simp only [nI_leI ha hx, nI_leI hx hb]
theorem dig_step {v c : Nat} (h : kO c = 2) : 10 * nI v + nI c - 48 = nI (10 * v + (c - 48)) := by
  have := kO2 h
  rw [show (10 : Int32) = nI 10 from rfl, pk_mul, nI_add, show (48 : Int32) = nI 48 from rfl, pk_sub (by omega)]
  congr 1
  omega
theorem let_step {v c : Nat} (h : kO c = 1) : 27 * lN v + (nI c).toInt64 - 97 + 1 = lN (27 * v + (c - 96)) := by
  have := kO1 h
  rw [nI_l (by omega), show (27 : Int64) = lN 27 from rfl, lN_mul, lN_add, show (97 : Int64) = lN 97 from rfl, lN_sub (by omega), lN_1]
  congr 1
  omega
theorem rn_27 {s m : Nat} {lo hi : Int32} (hR : RC σ t n) (h9 : gI σ 176 9 = nI s) (hmn : m ≤ n) (hsm : s ≤ m) (hl : ∀ j, s ≤ j → j < m → kO (t j) = 2) : ∀ d i, d + i = min 4 (m - s) → zR 2 200 27 [some (.ref 176), some (.int lo), some (.int hi), some (.int (nI (nvp t s i)))] [] (sI σ 176 2 (nI (s + i))) = zR 2 200 27 [some (.ref 176), some (.int lo), some (.int hi), some (.int (nI (nv t s m)))] [] (sI σ 176 2 (nI (s + min 4 (m - s)))) := by
  obtain ⟨hS, hn, hc, htx, h3, hwd⟩ := hR
  intro d
  induction d with
  | zero =>
    intro i hi
    have hi : i = min 4 (m - s) := by omega
    unfold nv
    rw [← hi]
  | succ d ih =>
    intro i hi
    have hk := hl (s + i) (by omega) (by omega)
    rw [← ih (i + 1) (by omega), q_X12_number_27]
    simp -implicitDefEqProofs only [tg_sI, ln_sI, tg_sL, ln_sL, tg_sR, ln_sR, tg_sC, ln_sC, ai_sI, ai_sL, gL_sI, gR_sI, gI_sL, gR_sL, gI_sR, gL_sR, gI_sI, gL_sL, gR_sR, zlt_e, zln_e, zli_e, zll_e, zbI_e, zbL_e, zbR_e, zbV_e, zeR_e, zeN_s, zeN_n, Nat.reduceEqDiff, and_self, and_true, true_and, and_false, false_and, ite_true, ite_false, reduceIte, tg_176 hS, gR_176_0 hS, h3, h9]
    rw [if_neg (nI_ge (by omega) (by omega)), if_pos (ai_nI (.inl (tg_177 hS)) (ln_177 hS) (by omega) (by omega)), ixn (by omega), htx (s + i) (by omega), r_isDigit (hc _), if_pos hk]
    simp -implicitDefEqProofs only [tg_sI, ln_sI, tg_sL, ln_sL, tg_sR, ln_sR, tg_sC, ln_sC, ai_sI, ai_sL, gL_sI, gR_sI, gI_sL, gR_sL, gI_sR, gL_sR, gI_sI, gL_sL, gR_sR, zlt_e, zln_e, zli_e, zll_e, zbI_e, zbL_e, zbR_e, zbV_e, zeR_e, zeN_s, zeN_n, Nat.reduceEqDiff, and_self, and_true, true_and, and_false, false_and, ite_true, ite_false, reduceIte, tg_176 hS, gR_176_0 hS, h3, h9]
    rw [if_neg (show ¬ (1 : Int32) = 0 by decide), pk_sub (by omega), if_neg (show ¬ nI (s + i - s) = 4 from fun q => by have := (nI_eq (b := 4) (by omega) (by omega)).mp q; omega), if_pos (ai_nI (.inl (tg_177 hS)) (ln_177 hS) (by omega) (by omega)), ixn (by omega), htx (s + i) (by omega), dig_step hk, q_X12_number_65]
    simp -implicitDefEqProofs only [tg_sI, ln_sI, tg_sL, ln_sL, tg_sR, ln_sR, tg_sC, ln_sC, ai_sI, ai_sL, gL_sI, gR_sI, gI_sL, gR_sL, gI_sR, gL_sR, gI_sI, gL_sL, gR_sR, zlt_e, zln_e, zli_e, zll_e, zbI_e, zbL_e, zbR_e, zbV_e, zeR_e, zeN_s, zeN_n, Nat.reduceEqDiff, and_self, and_true, true_and, and_false, false_and, ite_true, ite_false, reduceIte, tg_176 hS]
    rw [sI_same, nI_1]
    rfl
theorem rn_ex {s m : Nat} {lo hi v : Nat} (hh : RC σ t n) (ho : lO t n (.inl (s, m + 1)) ∨ True) (hm : ¬ (m < n ∧ kO (t m) = 2)) (hmn : m ≤ n) (h9 : gI σ 176 9 = nI s) (hv : v < 10000) (hlo : lo < 10000) (hhi : hi < 10000) (h2 : gI σ 176 2 = nI m) : zR 2 200 27 [some (.ref 176), some (.int (nI lo)), some (.int (nI hi)), some (.int (nI v))] [] σ = if lo ≤ v ∧ v ≤ hi then some (some (.int (nI v)), sI σ 176 4 (nI m)) else zbV (zM 191 [.ref 176, .int 2, .int (nI s)] (sI σ 176 4 (nI m))) (fun σ1 => some (some (.int (nI v)), σ1)) := by
  obtain ⟨hS, hn, hc, htx, h3, hwd⟩ := hh
  rw [q_X12_number_27]
  simp -implicitDefEqProofs only [tg_sI, ln_sI, tg_sL, ln_sL, tg_sR, ln_sR, tg_sC, ln_sC, ai_sI, ai_sL, gL_sI, gR_sI, gI_sL, gR_sL, gI_sR, gL_sR, gI_sI, gL_sL, gR_sR, zlt_e, zln_e, zli_e, zll_e, zbI_e, zbL_e, zbR_e, zbV_e, zeR_e, zeN_s, zeN_n, Nat.reduceEqDiff, and_self, and_true, true_and, and_false, false_and, ite_true, ite_false, reduceIte, tg_176 hS, gR_176_0 hS, h3, h9, h2]
  have fin : zbI (zM 188 [.long (nI v).toInt64, .long (nI lo).toInt64, .long (nI hi).toInt64] (sI σ 176 4 (nI m))) (fun x2 σ2 => if x2 = 0 then (zR 2 200 84 [some (.ref 176), some (.int (nI lo)), some (.int (nI hi)), some (.int (nI v))] [] σ2) else (zR 2 200 89 [some (.ref 176), some (.int (nI lo)), some (.int (nI hi)), some (.int (nI v))] [] σ2)) = if lo ≤ v ∧ v ≤ hi then some (some (.int (nI v)), sI σ 176 4 (nI m)) else zbV (zM 191 [.ref 176, .int 2, .int (nI s)] (sI σ 176 4 (nI m))) (fun σ1 => some (some (.int (nI v)), σ1)) := by
    rw [r_isInN (by omega) (by omega) (by omega), zbI_e]
    by_cases q : lo ≤ v ∧ v ≤ hi
    · rw [if_pos q, if_neg (by decide), if_pos q, q_X12_number_89]
    · rw [if_neg q, if_pos rfl, if_neg q, q_X12_number_84]
      simp -implicitDefEqProofs only [tg_sI, ln_sI, tg_sL, ln_sL, tg_sR, ln_sR, tg_sC, ln_sC, ai_sI, ai_sL, gL_sI, gR_sI, gI_sL, gR_sL, gI_sR, gL_sR, gI_sI, gL_sL, gR_sR, zlt_e, zln_e, zli_e, zll_e, zbI_e, zbL_e, zbR_e, zbV_e, zeR_e, zeN_s, zeN_n, Nat.reduceEqDiff, and_self, and_true, true_and, and_false, false_and, ite_true, ite_false, reduceIte, tg_176 hS, h9]
      simp only [q_X12_number_89]
  by_cases q : m < n
  · rw [if_neg (nI_ge q (by omega)), if_pos (ai_nI (.inl (tg_177 hS)) (ln_177 hS) (by omega) (by omega)), ixn (by omega), htx m (by omega), r_isDigit (hc _), if_neg (fun z => hm ⟨q, z⟩)]
    simp -implicitDefEqProofs only [tg_sI, ln_sI, tg_sL, ln_sL, tg_sR, ln_sR, tg_sC, ln_sC, ai_sI, ai_sL, gL_sI, gR_sI, gI_sL, gR_sL, gI_sR, gL_sR, gI_sI, gL_sL, gR_sR, zlt_e, zln_e, zli_e, zll_e, zbI_e, zbL_e, zbR_e, zbV_e, zeR_e, zeN_s, zeN_n, Nat.reduceEqDiff, and_self, and_true, true_and, and_false, false_and, ite_true, ite_false, reduceIte, tg_176 hS, h2]
    exact fin
  · rw [if_pos (nI_le (by omega) (by omega))]
    exact fin
theorem r_number (h : RS σ t n st) {lo hi : Nat} (hhi : hi < 10000) (hlo : lo ≤ hi) : ∃ v σ', zM 200 [.ref 176, .int (nI lo), .int (nI hi)] σ = some (some (.int v), σ') ∧ RS σ' t n (lU t n lo hi st) ∧ (lL (lU t n lo hi st) = true → v = nI (lUv t n st) ∧ gI σ' 176 9 = nI (lp st)) := by
  have hS := h.1.1
  rw [q_X12_number]
  simp -implicitDefEqProofs only [tg_sI, ln_sI, tg_sL, ln_sL, tg_sR, ln_sR, tg_sC, ln_sC, ai_sI, ai_sL, gL_sI, gR_sI, gI_sL, gR_sL, gI_sR, gL_sR, gI_sI, gL_sL, gR_sR, zlt_e, zln_e, zli_e, zll_e, zbI_e, zbL_e, zbR_e, zbV_e, zeR_e, zeN_s, zeN_n, Nat.reduceEqDiff, and_self, and_true, true_and, and_false, false_and, ite_true, ite_false, reduceIte, tg_176 hS]
  match st, h with
  | .inl (s, e), h =>
    have hh := h
    have h256 := h.1.2.2.1
    obtain ⟨hR, ho, ⟨a, ha, hsa, h2⟩, h4, h5, h6⟩ := h
    have hn := hR.2.1
    have ho1 := ho.1
    have ho2 := ho.2.1
    have lUe : lU t n lo hi (.inl (s, e)) = if nuT t n s e = true then (if tkE t n s ≤ s + 4 then (if lo ≤ nv t s (tkE t n s) ∧ nv t s (tkE t n s) ≤ hi then la t n (.inl (s, e)) else .inr (2, s)) else .inr (1, s + 4)) else .inr (1, s) := rfl
    have hR2 := RC_at (j := 2) (v := nI s) hR (by decide)
    obtain ⟨σf, f1, f2⟩ := r_fail (RS_look hh) (f := 1) (p := s) (by decide) (by decide) (by omega)
    have f1 : zM 191 [.ref 176, .int 1, .int (nI s)] (sI σ 176 2 (nI s)) = some (none, σf) := f1
    rw [h5, if_pos rfl, r_look hh]
    simp -implicitDefEqProofs only [tg_sI, ln_sI, tg_sL, ln_sL, tg_sR, ln_sR, tg_sC, ln_sC, ai_sI, ai_sL, gL_sI, gR_sI, gI_sL, gR_sL, gI_sR, gL_sR, gI_sI, gL_sL, gR_sR, zlt_e, zln_e, zli_e, zll_e, zbI_e, zbL_e, zbR_e, zbV_e, zeR_e, zeN_s, zeN_n, Nat.reduceEqDiff, and_self, and_true, true_and, and_false, false_and, ite_true, ite_false, reduceIte]
    by_cases hs : s < n
    · rw [if_pos hs, r_isDigit (h256 s)]
      simp -implicitDefEqProofs only [tg_sI, ln_sI, tg_sL, ln_sL, tg_sR, ln_sR, tg_sC, ln_sC, ai_sI, ai_sL, gL_sI, gR_sI, gI_sL, gR_sL, gI_sR, gL_sR, gI_sI, gL_sL, gR_sR, zlt_e, zln_e, zli_e, zll_e, zbI_e, zbL_e, zbR_e, zbV_e, zeR_e, zeN_s, zeN_n, Nat.reduceEqDiff, and_self, and_true, true_and, and_false, false_and, ite_true, ite_false, reduceIte, tg_176 hS, h4]
      by_cases hk : kO (t s) = 2
      · rw [if_pos hk, if_neg (show ¬ (1 : Int32) = 0 by decide)]
        simp only [eq_ended (s := s) (e := e) (by omega) (by omega)]
        by_cases he : e = s + 1
        · have hnu : ¬ nuT t n s e = true := by unfold nuT; simp [he]
          rw [if_pos he, lUe, if_neg hnu, f1]
          simp -implicitDefEqProofs only [tg_sI, ln_sI, tg_sL, ln_sL, tg_sR, ln_sR, tg_sC, ln_sC, ai_sI, ai_sL, gL_sI, gR_sI, gI_sL, gR_sL, gI_sR, gL_sR, gI_sI, gL_sL, gR_sR, zlt_e, zln_e, zli_e, zll_e, zbI_e, zbL_e, zbR_e, zbV_e, zeR_e, zeN_s, zeN_n, Nat.reduceEqDiff, and_self, and_true, true_and, and_false, false_and, ite_true, ite_false, reduceIte, q_X12_number_19]
          exact ⟨_, _, rfl, f2, fun z => by cases z⟩
        · have hnu : nuT t n s e = true := by unfold nuT; simp [hs, hk, he]
          have e3 : tkE t n s = ru t n 2 s := by unfold tkE; rw [if_neg (by omega), hk]
          have l1 := tkE_gt (t := t) (n := n) hs (by omega)
          have l2 : tkE t n s ≤ n := tkE_le hs
          have hin : ∀ j, s ≤ j → j < tkE t n s → kO (t j) = 2 := by rw [e3]; exact ru_in s
          have hend : ¬ (tkE t n s < n ∧ kO (t (tkE t n s)) = 2) := by rw [e3]; exact ru_end s
          have hv : nv t s (tkE t n s) < 10000 := nv_lt hin
          have hR3 : RC (sI (sI σ 176 2 (nI s)) 176 9 (nI s)) t n := RC_at hR2 (by decide)
          rw [if_neg he]
          have L := rn_27 (σ := sI (sI σ 176 2 (nI s)) 176 9 (nI s)) (s := s) (m := tkE t n s) (lo := nI lo) (hi := nI hi) hR3 rfl l2 (by omega) hin (min 4 (tkE t n s - s)) 0 rfl
          have e0 : sI (sI (sI σ 176 2 (nI s)) 176 9 (nI s)) 176 2 (nI (s + 0)) = sI (sI σ 176 2 (nI s)) 176 9 (nI s) := sI_idv rfl
          rw [e0] at L
          have L : zR 2 200 27 [some (.ref 176), some (.int (nI lo)), some (.int (nI hi)), some (.int 0)] [] (sI (sI σ 176 2 (nI s)) 176 9 (nI s)) = _ := L
          rw [L, lUe, if_pos hnu]
          by_cases h44 : tkE t n s ≤ s + 4
          · have e5 : s + min 4 (tkE t n s - s) = tkE t n s := by omega
            rw [e5, rn_ex (m := tkE t n s) (s := s) (RC_at hR3 (by decide)) (.inr trivial) hend l2 rfl hv (by omega) (by omega) rfl, if_pos h44]
            by_cases q : lo ≤ nv t s (tkE t n s) ∧ nv t s (tkE t n s) ≤ hi
            · rw [if_pos q, if_pos q]
              refine ⟨_, _, rfl, ⟨RC_at (RC_at (RC_at (RC_at hR (by decide)) (by decide)) (by decide)) (by decide), lO_la hs ho, ⟨tkE t n s, l2, rfl, rfl⟩, ?_, h5, h6⟩, fun _ => ⟨rfl, rfl⟩⟩
              show nI (tkE t n s) = nI (tkG t n s e) - 1
              unfold tkG
              rw [if_neg (by omega), nI_pred]
            · rw [if_neg q, if_neg q]
              have hX : RS (sI (sI (sI (sI σ 176 2 (nI s)) 176 9 (nI s)) 176 2 (nI (tkE t n s))) 176 4 (nI (tkE t n s))) t n (la t n (.inl (s, e))) := by
                refine ⟨RC_at (RC_at (RC_at (RC_at hR (by decide)) (by decide)) (by decide)) (by decide), lO_la hs ho, ⟨tkE t n s, l2, rfl, rfl⟩, ?_, h5, h6⟩
                show nI (tkE t n s) = nI (tkG t n s e) - 1
                unfold tkG
                rw [if_neg (by omega), nI_pred]
              obtain ⟨σg, g1, g2⟩ := r_fail hX (f := 2) (p := s) (by decide) (by decide) (by omega)
              have g1 : zM 191 [.ref 176, .int 2, .int (nI s)] _ = some (none, σg) := g1
              rw [g1, zbV_e]
              exact ⟨_, _, rfl, g2, fun z => by cases z⟩
          · have e5 : s + min 4 (tkE t n s - s) = s + 4 := by omega
            rw [e5, if_neg h44, q_X12_number_27]
            have htx := hR.2.2.2.1
            have h3 := hR.2.2.2.2.1
            simp -implicitDefEqProofs only [tg_sI, ln_sI, tg_sL, ln_sL, tg_sR, ln_sR, tg_sC, ln_sC, ai_sI, ai_sL, gL_sI, gR_sI, gI_sL, gR_sL, gI_sR, gL_sR, gI_sI, gL_sL, gR_sR, zlt_e, zln_e, zli_e, zll_e, zbI_e, zbL_e, zbR_e, zbV_e, zeR_e, zeN_s, zeN_n, Nat.reduceEqDiff, and_self, and_true, true_and, and_false, false_and, ite_true, ite_false, reduceIte, tg_176 hS, gR_176_0 hS, h3]
            rw [if_neg (nI_ge (by omega) (by omega)), if_pos (ai_nI (.inl (tg_177 hS)) (ln_177 hS) (by omega) (by omega)), ixn (by omega), htx (s + 4) (by omega), r_isDigit (h256 _), if_pos (hin (s + 4) (by omega) (by omega))]
            simp -implicitDefEqProofs only [tg_sI, ln_sI, tg_sL, ln_sL, tg_sR, ln_sR, tg_sC, ln_sC, ai_sI, ai_sL, gL_sI, gR_sI, gI_sL, gR_sL, gI_sR, gL_sR, gI_sI, gL_sL, gR_sR, zlt_e, zln_e, zli_e, zll_e, zbI_e, zbL_e, zbR_e, zbV_e, zeR_e, zeN_s, zeN_n, Nat.reduceEqDiff, and_self, and_true, true_and, and_false, false_and, ite_true, ite_false, reduceIte, tg_176 hS]
            rw [if_neg (show ¬ (1 : Int32) = 0 by decide), pk_sub (by omega), if_pos (show nI (s + 4 - s) = 4 by rw [show s + 4 - s = 4 by omega]; rfl)]
            have hX : RS (sI (sI (sI σ 176 2 (nI s)) 176 9 (nI s)) 176 2 (nI (s + 4))) t n (.inl (s + 4, e)) := by
              refine ⟨RC_at (RC_at (RC_at hR (by decide)) (by decide)) (by decide), ⟨by omega, by omega, fun _ => by rw [hin (s + 4) (by omega) (by omega)]; decide⟩, ⟨s + 4, by omega, ru_stop (by rw [hin (s + 4) (by omega) (by omega)]; omega), rfl⟩, h4, h5, h6⟩
            obtain ⟨σg, g1, g2⟩ := r_fail hX (f := 1) (p := s + 4) (by decide) (by decide) (by omega)
            have g1 : zM 191 [.ref 176, .int 1, .int (nI (s + 4))] _ = some (none, σg) := g1
            rw [g1, zbV_e]
            exact ⟨_, _, rfl, g2, fun z => by cases z⟩
      · have hnu : ¬ nuT t n s e = true := by unfold nuT; simp [hk]
        rw [if_neg hk, if_pos rfl, lUe, if_neg hnu, f1]
        simp -implicitDefEqProofs only [tg_sI, ln_sI, tg_sL, ln_sL, tg_sR, ln_sR, tg_sC, ln_sC, ai_sI, ai_sL, gL_sI, gR_sI, gI_sL, gR_sL, gI_sR, gL_sR, gI_sI, gL_sL, gR_sR, zlt_e, zln_e, zli_e, zll_e, zbI_e, zbL_e, zbR_e, zbV_e, zeR_e, zeN_s, zeN_n, Nat.reduceEqDiff, and_self, and_true, true_and, and_false, false_and, ite_true, ite_false, reduceIte, q_X12_number_19]
        exact ⟨_, _, rfl, f2, fun z => by cases z⟩
    · have hnu : ¬ nuT t n s e = true := by unfold nuT; simp [hs]
      rw [if_neg hs, q_X12_isDigit, if_pos (by decide)]
      simp -implicitDefEqProofs only [tg_sI, ln_sI, tg_sL, ln_sL, tg_sR, ln_sR, tg_sC, ln_sC, ai_sI, ai_sL, gL_sI, gR_sI, gI_sL, gR_sL, gI_sR, gL_sR, gI_sI, gL_sL, gR_sR, zlt_e, zln_e, zli_e, zll_e, zbI_e, zbL_e, zbR_e, zbV_e, zeR_e, zeN_s, zeN_n, Nat.reduceEqDiff, and_self, and_true, true_and, and_false, false_and, ite_true, ite_false, reduceIte, tg_176 hS]
      rw [lUe, if_neg hnu, f1]
      simp -implicitDefEqProofs only [tg_sI, ln_sI, tg_sL, ln_sL, tg_sR, ln_sR, tg_sC, ln_sC, ai_sI, ai_sL, gL_sI, gR_sI, gI_sL, gR_sL, gI_sR, gL_sR, gI_sI, gL_sL, gR_sR, zlt_e, zln_e, zli_e, zll_e, zbI_e, zbL_e, zbR_e, zbV_e, zeR_e, zeN_s, zeN_n, Nat.reduceEqDiff, and_self, and_true, true_and, and_false, false_and, ite_true, ite_false, reduceIte, q_X12_number_19]
      exact ⟨_, _, rfl, f2, fun z => by cases z⟩
  | .inr (f, p), h =>
    rw [if_neg (RS_d h)]
    exact ⟨_, _, rfl, h, fun z => by cases z⟩
theorem nm_30 {s m : Nat} (hR : RC σ t n) (h45 : gI σ 176 45 = nI s) (hmn : m ≤ n) (hsm : s ≤ m) (hl : ∀ j, s ≤ j → j < m → kO (t j) = 1) : ∀ d i, d + i = min 6 (m - s) → zR 4 202 30 [some (.ref 176), some (.long (lN (nmp t s i))), none] [] (sI σ 176 2 (nI (s + i))) = zR 4 202 30 [some (.ref 176), some (.long (lN (nmp t s (min 6 (m - s))))), none] [] (sI σ 176 2 (nI (s + min 6 (m - s)))) := by
  obtain ⟨hS, hn, hc, htx, h3, hwd⟩ := hR
  intro d
  induction d with
  | zero =>
    intro i hi
    have hi : i = min 6 (m - s) := by omega
    rw [← hi]
  | succ d ih =>
    intro i hi
    have hk := hl (s + i) (by omega) (by omega)
    rw [← ih (i + 1) (by omega), q_X12_name_30]
    simp -implicitDefEqProofs only [tg_sI, ln_sI, tg_sL, ln_sL, tg_sR, ln_sR, tg_sC, ln_sC, ai_sI, ai_sL, gL_sI, gR_sI, gI_sL, gR_sL, gI_sR, gL_sR, gI_sI, gL_sL, gR_sR, zlt_e, zln_e, zli_e, zll_e, zbI_e, zbL_e, zbR_e, zbV_e, zeR_e, zeN_s, zeN_n, Nat.reduceEqDiff, and_self, and_true, true_and, and_false, false_and, ite_true, ite_false, reduceIte, tg_176 hS, gR_176_0 hS, h3, h45]
    rw [if_neg (nI_ge (by omega) (by omega)), if_pos (ai_nI (.inl (tg_177 hS)) (ln_177 hS) (by omega) (by omega)), ixn (by omega), htx (s + i) (by omega), r_isLetter (hc _), if_pos hk]
    simp -implicitDefEqProofs only [tg_sI, ln_sI, tg_sL, ln_sL, tg_sR, ln_sR, tg_sC, ln_sC, ai_sI, ai_sL, gL_sI, gR_sI, gI_sL, gR_sL, gI_sR, gL_sR, gI_sI, gL_sL, gR_sR, zlt_e, zln_e, zli_e, zll_e, zbI_e, zbL_e, zbR_e, zbV_e, zeR_e, zeN_s, zeN_n, Nat.reduceEqDiff, and_self, and_true, true_and, and_false, false_and, ite_true, ite_false, reduceIte, tg_176 hS, gR_176_0 hS, h3, h45]
    rw [if_neg (show ¬ (1 : Int32) = 0 by decide), pk_sub (by omega), if_neg (show ¬ nI (s + i - s) = 6 from fun q => by have := (nI_eq (b := 6) (by omega) (by omega)).mp q; omega), if_pos (ai_nI (.inl (tg_177 hS)) (ln_177 hS) (by omega) (by omega)), ixn (by omega), htx (s + i) (by omega), let_step hk, q_X12_name_71]
    simp -implicitDefEqProofs only [tg_sI, ln_sI, tg_sL, ln_sL, tg_sR, ln_sR, tg_sC, ln_sC, ai_sI, ai_sL, gL_sI, gR_sI, gI_sL, gR_sL, gI_sR, gL_sR, gI_sI, gL_sL, gR_sR, zlt_e, zln_e, zli_e, zll_e, zbI_e, zbL_e, zbR_e, zbV_e, zeR_e, zeN_s, zeN_n, Nat.reduceEqDiff, and_self, and_true, true_and, and_false, false_and, ite_true, ite_false, reduceIte, tg_176 hS]
    rw [sI_same, nI_1]
    rfl
theorem r_name (h : RS σ t n st) : ∃ v σ', zM 202 [.ref 176] σ = some (some (.long v), σ') ∧ RS σ' t n (lM t n st) ∧ (lL (lM t n st) = true → v = lN (nmp t (lp st) (tkE t n (lp st) - lp st)) ∧ gI σ' 176 45 = nI (lp st)) := by
  have hS := h.1.1
  rw [q_X12_name]
  simp -implicitDefEqProofs only [tg_sI, ln_sI, tg_sL, ln_sL, tg_sR, ln_sR, tg_sC, ln_sC, ai_sI, ai_sL, gL_sI, gR_sI, gI_sL, gR_sL, gI_sR, gL_sR, gI_sI, gL_sL, gR_sR, zlt_e, zln_e, zli_e, zll_e, zbI_e, zbL_e, zbR_e, zbV_e, zeR_e, zeN_s, zeN_n, Nat.reduceEqDiff, and_self, and_true, true_and, and_false, false_and, ite_true, ite_false, reduceIte, tg_176 hS]
  match st, h with
  | .inl (s, e), h =>
    have hh := h
    have h256 := h.1.2.2.1
    obtain ⟨hR, ho, ⟨a, ha, hsa, h2⟩, h4, h5, h6⟩ := h
    have hn := hR.2.1
    have ho1 := ho.1
    have ho2 := ho.2.1
    have lMe : lM t n (.inl (s, e)) = if naT t n s e = true then (if tkE t n s ≤ s + 6 then la t n (.inl (s, e)) else .inr (1, s + 6)) else .inr (1, s) := rfl
    have hR2 := RC_at (j := 2) (v := nI s) hR (by decide)
    obtain ⟨σf, f1, f2⟩ := r_fail (RS_look hh) (f := 1) (p := s) (by decide) (by decide) (by omega)
    have f1 : zM 191 [.ref 176, .int 1, .int (nI s)] (sI σ 176 2 (nI s)) = some (none, σf) := f1
    have F17 : zR 4 202 17 [some (.ref 176), none, none] [] (sI σ 176 2 (nI s)) = some (some (.long 0), σf) := by
      rw [q_X12_name_17]
      simp -implicitDefEqProofs only [tg_sI, ln_sI, tg_sL, ln_sL, tg_sR, ln_sR, tg_sC, ln_sC, ai_sI, ai_sL, gL_sI, gR_sI, gI_sL, gR_sL, gI_sR, gL_sR, gI_sI, gL_sL, gR_sR, zlt_e, zln_e, zli_e, zll_e, zbI_e, zbL_e, zbR_e, zbV_e, zeR_e, zeN_s, zeN_n, Nat.reduceEqDiff, and_self, and_true, true_and, and_false, false_and, ite_true, ite_false, reduceIte, tg_176 hS]
      rw [f1, zbV_e, q_X12_name_22]
    rw [h5, if_pos rfl, r_look hh]
    simp -implicitDefEqProofs only [tg_sI, ln_sI, tg_sL, ln_sL, tg_sR, ln_sR, tg_sC, ln_sC, ai_sI, ai_sL, gL_sI, gR_sI, gI_sL, gR_sL, gI_sR, gL_sR, gI_sI, gL_sL, gR_sR, zlt_e, zln_e, zli_e, zll_e, zbI_e, zbL_e, zbR_e, zbV_e, zeR_e, zeN_s, zeN_n, Nat.reduceEqDiff, and_self, and_true, true_and, and_false, false_and, ite_true, ite_false, reduceIte]
    by_cases hs : s < n
    · rw [if_pos hs, r_isLetter (h256 s)]
      simp -implicitDefEqProofs only [tg_sI, ln_sI, tg_sL, ln_sL, tg_sR, ln_sR, tg_sC, ln_sC, ai_sI, ai_sL, gL_sI, gR_sI, gI_sL, gR_sL, gI_sR, gL_sR, gI_sI, gL_sL, gR_sR, zlt_e, zln_e, zli_e, zll_e, zbI_e, zbL_e, zbR_e, zbV_e, zeR_e, zeN_s, zeN_n, Nat.reduceEqDiff, and_self, and_true, true_and, and_false, false_and, ite_true, ite_false, reduceIte, tg_176 hS, h4]
      by_cases hk : kO (t s) = 1
      · rw [if_pos hk, if_neg (show ¬ (1 : Int32) = 0 by decide)]
        simp only [eq_ended (s := s) (e := e) (by omega) (by omega)]
        by_cases he : e = s + 1
        · have hna : ¬ naT t n s e = true := by unfold naT; simp [he]
          rw [if_pos he, lMe, if_neg hna, F17]
          exact ⟨_, _, rfl, f2, fun z => by cases z⟩
        · rw [if_neg he, r_own (RS_look hh) rfl]
          simp -implicitDefEqProofs only [tg_sI, ln_sI, tg_sL, ln_sL, tg_sR, ln_sR, tg_sC, ln_sC, ai_sI, ai_sL, gL_sI, gR_sI, gI_sL, gR_sL, gI_sR, gL_sR, gI_sI, gL_sL, gR_sR, zlt_e, zln_e, zli_e, zll_e, zbI_e, zbL_e, zbR_e, zbV_e, zeR_e, zeN_s, zeN_n, Nat.reduceEqDiff, and_self, and_true, true_and, and_false, false_and, ite_true, ite_false, reduceIte, ite10]
          by_cases how : owT t n s e < 35
          · have hna : ¬ naT t n s e = true := by unfold naT; simp [how]
            rw [if_neg (fun z => z how), lMe, if_neg hna, F17]
            exact ⟨_, _, rfl, f2, fun z => by cases z⟩
          · have hna : naT t n s e = true := by unfold naT; simp only [Bool.and_eq_true, decide_eq_true_eq, Bool.not_eq_true', decide_eq_false_iff_not]; exact ⟨⟨⟨hs, hk⟩, he⟩, how⟩
            have e3 : tkE t n s = ru t n 1 s := by unfold tkE; rw [if_neg (by omega), hk]
            have l1 := tkE_gt (t := t) (n := n) hs (by omega)
            have l2 : tkE t n s ≤ n := tkE_le hs
            have hin : ∀ j, s ≤ j → j < tkE t n s → kO (t j) = 1 := by rw [e3]; exact ru_in s
            have hend : ¬ (tkE t n s < n ∧ kO (t (tkE t n s)) = 1) := by rw [e3]; exact ru_end s
            have hR3 : RC (sI (sI σ 176 2 (nI s)) 176 45 (nI s)) t n := RC_at hR2 (by decide)
            rw [if_pos how, q_X12_name_24]
            simp -implicitDefEqProofs only [tg_sI, ln_sI, tg_sL, ln_sL, tg_sR, ln_sR, tg_sC, ln_sC, ai_sI, ai_sL, gL_sI, gR_sI, gI_sL, gR_sL, gI_sR, gL_sR, gI_sI, gL_sL, gR_sR, zlt_e, zln_e, zli_e, zll_e, zbI_e, zbL_e, zbR_e, zbV_e, zeR_e, zeN_s, zeN_n, Nat.reduceEqDiff, and_self, and_true, true_and, and_false, false_and, ite_true, ite_false, reduceIte, tg_176 hS]
            have L := nm_30 (σ := sI (sI σ 176 2 (nI s)) 176 45 (nI s)) (s := s) (m := tkE t n s) hR3 rfl l2 (by omega) hin (min 6 (tkE t n s - s)) 0 rfl
            have e0 : sI (sI (sI σ 176 2 (nI s)) 176 45 (nI s)) 176 2 (nI (s + 0)) = sI (sI σ 176 2 (nI s)) 176 45 (nI s) := sI_idv rfl
            rw [e0] at L
            have L : zR 4 202 30 [some (.ref 176), some (.long 0), none] [] (sI (sI σ 176 2 (nI s)) 176 45 (nI s)) = _ := L
            have htx := hR.2.2.2.1
            have h3 := hR.2.2.2.2.1
            rw [L, lMe, if_pos hna, q_X12_name_30]
            simp -implicitDefEqProofs only [tg_sI, ln_sI, tg_sL, ln_sL, tg_sR, ln_sR, tg_sC, ln_sC, ai_sI, ai_sL, gL_sI, gR_sI, gI_sL, gR_sL, gI_sR, gL_sR, gI_sI, gL_sL, gR_sR, zlt_e, zln_e, zli_e, zll_e, zbI_e, zbL_e, zbR_e, zbV_e, zeR_e, zeN_s, zeN_n, Nat.reduceEqDiff, and_self, and_true, true_and, and_false, false_and, ite_true, ite_false, reduceIte, tg_176 hS, gR_176_0 hS, h3]
            by_cases h66 : tkE t n s ≤ s + 6
            · have e5 : s + min 6 (tkE t n s - s) = tkE t n s := by omega
              have e6 : min 6 (tkE t n s - s) = tkE t n s - s := by omega
              have hX : RS (sI (sI (sI (sI σ 176 2 (nI s)) 176 45 (nI s)) 176 2 (nI (tkE t n s))) 176 4 (nI (tkE t n s))) t n (la t n (.inl (s, e))) := by
                refine ⟨RC_at (RC_at (RC_at (RC_at hR (by decide)) (by decide)) (by decide)) (by decide), lO_la hs ho, ⟨tkE t n s, l2, rfl, rfl⟩, ?_, h5, h6⟩
                show nI (tkE t n s) = nI (tkG t n s e) - 1
                unfold tkG
                rw [if_neg (by omega), nI_pred]
              rw [e5, e6, if_pos h66]
              by_cases q : tkE t n s < n
              · rw [if_neg (nI_ge q (by omega)), if_pos (ai_nI (.inl (tg_177 hS)) (ln_177 hS) (by omega) (by omega)), ixn (by omega), htx _ (by omega), r_isLetter (h256 _), if_neg (fun z => hend ⟨q, z⟩)]
                simp -implicitDefEqProofs only [tg_sI, ln_sI, tg_sL, ln_sL, tg_sR, ln_sR, tg_sC, ln_sC, ai_sI, ai_sL, gL_sI, gR_sI, gI_sL, gR_sL, gI_sR, gL_sR, gI_sI, gL_sL, gR_sR, zlt_e, zln_e, zli_e, zll_e, zbI_e, zbL_e, zbR_e, zbV_e, zeR_e, zeN_s, zeN_n, Nat.reduceEqDiff, and_self, and_true, true_and, and_false, false_and, ite_true, ite_false, reduceIte, tg_176 hS]
                exact ⟨_, _, rfl, hX, fun _ => ⟨rfl, rfl⟩⟩
              · rw [if_pos (nI_le (by omega) (by omega))]
                exact ⟨_, _, rfl, hX, fun _ => ⟨rfl, rfl⟩⟩
            · have e5 : s + min 6 (tkE t n s - s) = s + 6 := by omega
              rw [e5, if_neg h66, if_neg (nI_ge (by omega) (by omega)), if_pos (ai_nI (.inl (tg_177 hS)) (ln_177 hS) (by omega) (by omega)), ixn (by omega), htx (s + 6) (by omega), r_isLetter (h256 _), if_pos (hin (s + 6) (by omega) (by omega))]
              simp -implicitDefEqProofs only [tg_sI, ln_sI, tg_sL, ln_sL, tg_sR, ln_sR, tg_sC, ln_sC, ai_sI, ai_sL, gL_sI, gR_sI, gI_sL, gR_sL, gI_sR, gL_sR, gI_sI, gL_sL, gR_sR, zlt_e, zln_e, zli_e, zll_e, zbI_e, zbL_e, zbR_e, zbV_e, zeR_e, zeN_s, zeN_n, Nat.reduceEqDiff, and_self, and_true, true_and, and_false, false_and, ite_true, ite_false, reduceIte, tg_176 hS]
              rw [if_neg (show ¬ (1 : Int32) = 0 by decide), pk_sub (by omega), if_pos (show nI (s + 6 - s) = 6 by rw [show s + 6 - s = 6 by omega]; rfl)]
              have hX : RS (sI (sI (sI σ 176 2 (nI s)) 176 45 (nI s)) 176 2 (nI (s + 6))) t n (.inl (s + 6, e)) := by
                refine ⟨RC_at (RC_at (RC_at hR (by decide)) (by decide)) (by decide), ⟨by omega, by omega, fun _ => by rw [hin (s + 6) (by omega) (by omega)]; decide⟩, ⟨s + 6, by omega, ru_stop (by rw [hin (s + 6) (by omega) (by omega)]; omega), rfl⟩, h4, h5, h6⟩
              obtain ⟨σg, g1, g2⟩ := r_fail hX (f := 1) (p := s + 6) (by decide) (by decide) (by omega)
              have g1 : zM 191 [.ref 176, .int 1, .int (nI (s + 6))] _ = some (none, σg) := g1
              rw [g1, zbV_e]
              exact ⟨_, _, rfl, g2, fun z => by cases z⟩
      · have hna : ¬ naT t n s e = true := by unfold naT; simp [hk]
        rw [if_neg hk, if_pos rfl, lMe, if_neg hna, F17]
        exact ⟨_, _, rfl, f2, fun z => by cases z⟩
    · have hna : ¬ naT t n s e = true := by unfold naT; simp [hs]
      rw [if_neg hs, q_X12_isLetter, if_pos (by decide)]
      simp -implicitDefEqProofs only [tg_sI, ln_sI, tg_sL, ln_sL, tg_sR, ln_sR, tg_sC, ln_sC, ai_sI, ai_sL, gL_sI, gR_sI, gI_sL, gR_sL, gI_sR, gL_sR, gI_sI, gL_sL, gR_sR, zlt_e, zln_e, zli_e, zll_e, zbI_e, zbL_e, zbR_e, zbV_e, zeR_e, zeN_s, zeN_n, Nat.reduceEqDiff, and_self, and_true, true_and, and_false, false_and, ite_true, ite_false, reduceIte, tg_176 hS]
      rw [lMe, if_neg hna, F17]
      exact ⟨_, _, rfl, f2, fun z => by cases z⟩
  | .inr (f, p), h =>
    rw [if_neg (RS_d h)]
    exact ⟨_, _, rfl, h, fun z => by cases z⟩
end
