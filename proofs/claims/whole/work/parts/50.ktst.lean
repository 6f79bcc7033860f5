/-! states of a reader: live at the token s, the last word or number ended at e - 1 (0: none yet); or dead with a fault and its place -/
abbrev lx : Type := (Nat × Nat) ⊕ (Nat × Nat)
/-- the token's end -/
def tkE (t : Nat → Nat) (n s : Nat) : Nat := if kO (t s) = 3 then s + 1 else ru t n (kO (t s)) s
def tkS (t : Nat → Nat) (n s : Nat) : Nat := ru t n 5 (tkE t n s)
def tkG (t : Nat → Nat) (n s e : Nat) : Nat := if kO (t s) = 3 then e else tkE t n s + 1
def owC (t : Nat → Nat) (n s e : Nat) : Bool := decide (s < n) && decide (kO (t s) = 1) && decide (e ≠ s + 1) && decide (ru t n 1 s ≤ s + 6)
/-- the own word at s; 35 for none -/
def owT (t : Nat → Nat) (n s e : Nat) : Nat := if owC t n s e = true then owN (wv t s (ru t n 1 s)) else 35
def sgT (t : Nat → Nat) (n s : Nat) : Nat := if s < n ∧ kO (t s) = 3 then t s else 256
def nuT (t : Nat → Nat) (n s e : Nat) : Bool := decide (s < n) && decide (kO (t s) = 2) && decide (e ≠ s + 1)
def naT (t : Nat → Nat) (n s e : Nat) : Bool := decide (s < n) && decide (kO (t s) = 1) && decide (e ≠ s + 1) && !decide (owT t n s e < 35)
def lw (t : Nat → Nat) (n : Nat) (st : lx) : Nat := match st with
  | .inl (s, e) => owT t n s e
  | .inr _ => 35
def ls (t : Nat → Nat) (n : Nat) (st : lx) : Nat := match st with
  | .inl (s, _) => sgT t n s
  | .inr _ => 256
def lE (n : Nat) (st : lx) : Bool := match st with
  | .inl (s, _) => decide (n ≤ s)
  | .inr _ => true
def lN_ (t : Nat → Nat) (n : Nat) (st : lx) : Bool := match st with
  | .inl (s, e) => nuT t n s e
  | .inr _ => false
def lp (st : lx) : Nat := match st with
  | .inl (s, _) => s
  | .inr _ => 0
def lf (st : lx) (f p : Nat) : lx := match st with
  | .inl _ => .inr (f, p)
  | .inr q => .inr q
def la (t : Nat → Nat) (n : Nat) (st : lx) : lx := match st with
  | .inl (s, e) => .inl (tkS t n s, tkG t n s e)
  | .inr q => .inr q
def lL (st : lx) : Bool := match st with
  | .inl _ => true
  | .inr _ => false
def lW (t : Nat → Nat) (n w : Nat) (st : lx) : lx := if lw t n st = w then la t n st else lf st 1 (lp st)
def lG (t : Nat → Nat) (n c : Nat) (st : lx) : lx := if ls t n st = c then la t n st else lf st 1 (lp st)
/-- a number within lo .. hi: where it leads -/
def lU (t : Nat → Nat) (n lo hi : Nat) (st : lx) : lx := match st with
  | .inl (s, e) => if nuT t n s e = true then (if tkE t n s ≤ s + 4 then (if lo ≤ nv t s (tkE t n s) ∧ nv t s (tkE t n s) ≤ hi then la t n (.inl (s, e)) else .inr (2, s)) else .inr (1, s + 4)) else .inr (1, s)
  | .inr q => .inr q
def lUv (t : Nat → Nat) (n : Nat) (st : lx) : Nat := nv t (lp st) (tkE t n (lp st))
/-- a name: where it leads -/
def lM (t : Nat → Nat) (n : Nat) (st : lx) : lx := match st with
  | .inl (s, e) => if naT t n s e = true then (if tkE t n s ≤ s + 6 then la t n (.inl (s, e)) else .inr (1, s + 6)) else .inr (1, s)
  | .inr q => .inr q
/-- standing: live states lie in the text -/
def lO (t : Nat → Nat) (n : Nat) (st : lx) : Prop := match st with
  | .inl (s, e) => s ≤ n ∧ e ≤ s + 1 ∧ (s < n → kO (t s) ≠ 5)
  | .inr (f, p) => 0 < f ∧ f < 6 ∧ p < 2000
def CS (σ : zS) (t : Nat → Nat) (n : Nat) (st : lx) : Prop := TC σ t n ∧ lO t n st ∧ match st with
  | .inl (s, e) => TD σ t n s (e = s + 1) ∧ gI σ 8 8 = 0 ∧ gI σ 8 9 = -1
  | .inr (f, p) => gI σ 8 8 = nI f ∧ gI σ 8 9 = nI p ∧ gI σ 8 4 = 0
section
variable {t : Nat → Nat} {n : Nat}
theorem tkE_gt {s : Nat} (h : s < n) (h5 : kO (t s) ≠ 5) : s < tkE t n s := by
  unfold tkE
  split
  · omega
  · rw [ru_step ⟨h, rfl⟩]
    have := ru_ge (t := t) (n := n) (k := kO (t s)) (s + 1)
    omega
theorem tkE_le {s : Nat} (h : s < n) : tkE t n s ≤ n := by
  unfold tkE
  split
  · omega
  · exact ru_le (by omega)
theorem tkS_ge {s : Nat} : tkE t n s ≤ tkS t n s := ru_ge _
theorem tkS_le {s : Nat} (h : s < n) : tkS t n s ≤ n := ru_le (tkE_le h)
theorem tkG_le {s e : Nat} (h : s < n) (h5 : kO (t s) ≠ 5) (he : e ≤ s + 1) : tkG t n s e ≤ tkS t n s + 1 := by
  have := tkE_gt h h5
  have := tkS_ge (t := t) (n := n) (s := s)
  unfold tkG
  split <;> omega
theorem lO_la {s e : Nat} (h : s < n) (ho : lO t n (.inl (s, e))) : lO t n (la t n (.inl (s, e))) := ⟨tkS_le h, tkG_le h (ho.2.2 h) ho.2.1, fun q k => ru_end (t := t) (n := n) (k := 5) (tkE t n s) ⟨q, k⟩⟩
theorem owT_lt {s e : Nat} (h : owT t n s e < 35) : s < n ∧ kO (t s) = 1 ∧ e ≠ s + 1 ∧ ru t n 1 s ≤ s + 6 := by
  unfold owT at h
  split at h
  · rename_i q
    unfold owC at q
    simp only [Bool.and_eq_true, decide_eq_true_eq] at q
    exact ⟨q.1.1.1, q.1.1.2, q.1.2, q.2⟩
  · omega
theorem sgT_lt {s : Nat} (h : sgT t n s < 256) : s < n ∧ kO (t s) = 3 := by
  unfold sgT at h
  split at h
  · assumption
  · omega
theorem sgT_no {s : Nat} (h : ¬ (s < n ∧ kO (t s) = 3)) : sgT t n s = 256 := by unfold sgT; rw [if_neg h]
theorem sgT_yes {s : Nat} (h : s < n) (hk : kO (t s) = 3) : sgT t n s = t s := by unfold sgT; rw [if_pos ⟨h, hk⟩]
theorem nuT_t {s e : Nat} (h : nuT t n s e = true) : s < n ∧ kO (t s) = 2 ∧ e ≠ s + 1 := by
  unfold nuT at h
  simp only [Bool.and_eq_true, decide_eq_true_eq] at h
  exact ⟨h.1.1, h.1.2, h.2⟩
theorem naT_t {s e : Nat} (h : naT t n s e = true) : s < n ∧ kO (t s) = 1 ∧ e ≠ s + 1 ∧ ¬ owT t n s e < 35 := by
  unfold naT at h
  simp only [Bool.and_eq_true, decide_eq_true_eq, Bool.not_eq_true', decide_eq_false_iff_not] at h
  exact ⟨h.1.1.1, h.1.1.2, h.1.2, h.2⟩
theorem owN_le (v : Nat) : owN v ≤ 35 := by
  unfold owN
  exact List.findIdx_le_length
theorem owT_le {s e : Nat} : owT t n s e ≤ 35 := by
  unfold owT
  split
  · exact owN_le _
  · omega
theorem lw_le (st : lx) : lw t n st ≤ 35 := by
  unfold lw
  split
  · exact owT_le
  · omega
def owJ (w : Nat) : Int32 := if w < 35 then nI w else -1
theorem owJ_eq {w v : Nat} (hw : w ≤ 35) (hv : v < 35) : (owJ w = nI v) = (w = v) := by
  have : ∀ w, w ≤ 35 → ∀ v, v < 35 → decide (owJ w = nI v) = decide (w = v) := by decide +kernel
  have := this w hw v hv
  exact propext (by simpa using this)
variable {σ : zS} {st : lx}
theorem c_own (h : CS σ t n st) : zM 104 [.ref 8] σ = some (some (.int (owJ (lw t n st))), σ) := by
  obtain ⟨hT, ho, h⟩ := h
  have hS := hT.1
  rw [q_X10_ownWord]
  simp -implicitDefEqProofs only [tg_sI, ln_sI, tg_sL, ln_sL, tg_sR, ln_sR, tg_sC, ln_sC, ai_sI, ai_sL, gL_sI, gR_sI, gI_sL, gR_sL, gI_sR, gL_sR, gI_sI, gL_sL, gR_sR, zlt_e, zln_e, zli_e, zll_e, zbI_e, zbL_e, zbR_e, zbV_e, zeR_e, zeN_s, zeN_n, Nat.reduceEqDiff, and_self, and_true, true_and, and_false, false_and, ite_true, ite_false, reduceIte, tg_8 hS]
  match st, ho, h with
  | .inl (s, e), ho, h =>
    obtain ⟨⟨d1, d2, d3, d4, d5⟩, h8, h9⟩ := h
    show _ = some (some (Value.int (owJ (owT t n s e))), σ)
    by_cases hs : s < n
    · rcases kO_cases (t s) with k | k | k | k
      · obtain ⟨g1, g2, g3, g4, g5⟩ := d4 hs k
        by_cases he : e = s + 1
        · rw [g1 he, if_neg (by decide)]
          unfold owT owC
          simp [he, owJ]
        · rw [g2 he, if_pos rfl, g5]
          unfold owT owC
          by_cases h6 : ru t n 1 s ≤ s + 6
          · rw [if_pos h6]
            simp [hs, k, he, h6]
            unfold owI owJ
            rfl
          · rw [if_neg h6]
            simp [h6, owJ]
      · obtain ⟨g1, g2, -⟩ := d5 hs k
        have hk : ¬ gI σ 8 4 = 1 := by
          by_cases he : e = s + 1
          · rw [g1 he]; decide
          · rw [g2 he]; decide
        rw [if_neg hk]
        unfold owT owC
        simp [k, owJ]
      · obtain ⟨g1, -⟩ := d3 hs k
        rw [g1, if_neg (by decide)]
        unfold owT owC
        simp [k, owJ]
      · exact absurd k (ho.2.2 hs)
    · obtain ⟨g1, -⟩ := d2 (by omega)
      rw [g1, if_neg (by decide)]
      unfold owT owC
      simp [hs, owJ]
  | .inr (f, p), ho, h =>
    rw [h.2.2, if_neg (by decide)]
    rfl
theorem c_atWord (h : CS σ t n st) {w : Nat} (hw : w < 35) : zM 105 [.ref 8, .int (nI w)] σ = some (some (.int (if lw t n st = w then 1 else 0)), σ) := by
  rw [q_X10_atWord]
  simp -implicitDefEqProofs only [tg_sI, ln_sI, tg_sL, ln_sL, tg_sR, ln_sR, tg_sC, ln_sC, ai_sI, ai_sL, gL_sI, gR_sI, gI_sL, gR_sL, gI_sR, gL_sR, gI_sI, gL_sL, gR_sR, zlt_e, zln_e, zli_e, zll_e, zbI_e, zbL_e, zbR_e, zbV_e, zeR_e, zeN_s, zeN_n, Nat.reduceEqDiff, and_self, and_true, true_and, and_false, false_and, ite_true, ite_false, reduceIte, tg_8 h.1.1, c_own h, owJ_eq (lw_le st) hw]
  split <;> rfl
theorem c_atSign (h : CS σ t n st) {c : Nat} (hc : c < 256) : zM 103 [.ref 8, .int (nI c)] σ = some (some (.int (if ls t n st = c then 1 else 0)), σ) := by
  obtain ⟨hT, ho, h⟩ := h
  have hS := hT.1
  have h256 := hT.2.2.1
  rw [q_X10_atSign]
  simp -implicitDefEqProofs only [tg_sI, ln_sI, tg_sL, ln_sL, tg_sR, ln_sR, tg_sC, ln_sC, ai_sI, ai_sL, gL_sI, gR_sI, gI_sL, gR_sL, gI_sR, gL_sR, gI_sI, gL_sL, gR_sR, zlt_e, zln_e, zli_e, zll_e, zbI_e, zbL_e, zbR_e, zbV_e, zeR_e, zeN_s, zeN_n, Nat.reduceEqDiff, and_self, and_true, true_and, and_false, false_and, ite_true, ite_false, reduceIte, tg_8 hS]
  match st, ho, h with
  | .inl (s, e), ho, h =>
    obtain ⟨⟨d1, d2, d3, d4, d5⟩, h8, h9⟩ := h
    show _ = some (some (Value.int (if sgT t n s = c then 1 else 0)), σ)
    by_cases hs : s < n
    · rcases kO_cases (t s) with k | k | k | k
      · obtain ⟨g1, g2, -⟩ := d4 hs k
        have hk : ¬ gI σ 8 4 = 3 := by
          by_cases he : e = s + 1
          · rw [g1 he]; decide
          · rw [g2 he]; decide
        rw [if_neg hk, sgT_no (by omega), if_neg (by omega)]
      · obtain ⟨g1, g2, -⟩ := d5 hs k
        have hk : ¬ gI σ 8 4 = 3 := by
          by_cases he : e = s + 1
          · rw [g1 he]; decide
          · rw [g2 he]; decide
        rw [if_neg hk, sgT_no (by omega), if_neg (by omega)]
      · obtain ⟨g1, g2, -⟩ := d3 hs k
        rw [g1, if_pos rfl, g2, sgT_yes hs k]
        have := h256 s
        by_cases hq : t s = c
        · rw [if_pos (show nI (t s) = nI c by rw [hq]), if_pos hq]
        · rw [if_neg (show ¬ nI (t s) = nI c from fun q => hq ((nI_eq (by omega) (by omega)).mp q)), if_neg hq]
      · exact absurd k (ho.2.2 hs)
    · obtain ⟨g1, -⟩ := d2 (by omega)
      rw [g1, if_neg (by decide), sgT_no (by omega), if_neg (by omega)]
  | .inr (f, p), ho, h =>
    rw [h.2.2, if_neg (by decide)]
    show _ = some (some (Value.int (if 256 = c then 1 else 0)), σ)
    rw [if_neg (by omega)]
theorem c_atEnd (h : CS σ t n st) : zM 101 [.ref 8] σ = some (some (.int (if lE n st = true then 1 else 0)), σ) := by
  obtain ⟨hT, ho, h⟩ := h
  have hS := hT.1
  rw [q_X10_atEnd]
  simp -implicitDefEqProofs only [tg_sI, ln_sI, tg_sL, ln_sL, tg_sR, ln_sR, tg_sC, ln_sC, ai_sI, ai_sL, gL_sI, gR_sI, gI_sL, gR_sL, gI_sR, gL_sR, gI_sI, gL_sL, gR_sR, zlt_e, zln_e, zli_e, zll_e, zbI_e, zbL_e, zbR_e, zbV_e, zeR_e, zeN_s, zeN_n, Nat.reduceEqDiff, and_self, and_true, true_and, and_false, false_and, ite_true, ite_false, reduceIte, tg_8 hS]
  match st, ho, h with
  | .inl (s, e), ho, h =>
    obtain ⟨⟨d1, d2, d3, d4, d5⟩, h8, h9⟩ := h
    show _ = some (some (Value.int (if decide (n ≤ s) = true then 1 else 0)), σ)
    by_cases hs : s < n
    · rw [if_neg (show ¬ decide (n ≤ s) = true by simp; omega)]
      rcases kO_cases (t s) with k | k | k | k
      · obtain ⟨g1, g2, -⟩ := d4 hs k
        have hk : ¬ gI σ 8 4 = 0 := by
          by_cases he : e = s + 1
          · rw [g1 he]; decide
          · rw [g2 he]; decide
        rw [if_neg hk]
      · obtain ⟨g1, g2, -⟩ := d5 hs k
        have hk : ¬ gI σ 8 4 = 0 := by
          by_cases he : e = s + 1
          · rw [g1 he]; decide
          · rw [g2 he]; decide
        rw [if_neg hk]
      · obtain ⟨g1, g2, -⟩ := d3 hs k
        rw [g1, if_neg (by decide)]
      · exact absurd k (ho.2.2 hs)
    · obtain ⟨g1, -⟩ := d2 (by omega)
      rw [g1, if_pos rfl, if_pos (by simp; omega)]
  | .inr (f, p), ho, h =>
    rw [h.2.2, if_pos rfl]
    rfl
theorem c_atNumber (h : CS σ t n st) : zM 102 [.ref 8] σ = some (some (.int (if lN_ t n st = true then 1 else 0)), σ) := by
  obtain ⟨hT, ho, h⟩ := h
  have hS := hT.1
  rw [q_X10_atNumber]
  simp -implicitDefEqProofs only [tg_sI, ln_sI, tg_sL, ln_sL, tg_sR, ln_sR, tg_sC, ln_sC, ai_sI, ai_sL, gL_sI, gR_sI, gI_sL, gR_sL, gI_sR, gL_sR, gI_sI, gL_sL, gR_sR, zlt_e, zln_e, zli_e, zll_e, zbI_e, zbL_e, zbR_e, zbV_e, zeR_e, zeN_s, zeN_n, Nat.reduceEqDiff, and_self, and_true, true_and, and_false, false_and, ite_true, ite_false, reduceIte, tg_8 hS]
  match st, ho, h with
  | .inl (s, e), ho, h =>
    obtain ⟨⟨d1, d2, d3, d4, d5⟩, h8, h9⟩ := h
    show _ = some (some (Value.int (if nuT t n s e = true then 1 else 0)), σ)
    unfold nuT
    by_cases hs : s < n
    · rcases kO_cases (t s) with k | k | k | k
      · obtain ⟨g1, g2, -⟩ := d4 hs k
        have hk : ¬ gI σ 8 4 = 2 := by
          by_cases he : e = s + 1
          · rw [g1 he]; decide
          · rw [g2 he]; decide
        rw [if_neg hk, if_neg (by simp [k])]
      · obtain ⟨g1, g2, -⟩ := d5 hs k
        by_cases he : e = s + 1
        · rw [g1 he, if_neg (by decide), if_neg (by simp [he])]
        · rw [g2 he, if_pos rfl, if_pos (by simp [hs, k, he])]
      · obtain ⟨g1, g2, -⟩ := d3 hs k
        rw [g1, if_neg (by decide), if_neg (by simp [k])]
      · exact absurd k (ho.2.2 hs)
    · obtain ⟨g1, -⟩ := d2 (by omega)
      rw [g1, if_neg (by decide), if_neg (by simp [hs])]
  | .inr (f, p), ho, h =>
    rw [h.2.2, if_neg (by decide)]
    rfl
/-- one step on from a token that isn't glued -/
theorem c_adv {s e : Nat} (h : CS σ t n (.inl (s, e))) (hs : s < n) (hg : kO (t s) = 3 ∨ e ≠ s + 1) : ∃ σ', zM 97 [.ref 8] σ = some (none, σ') ∧ CS σ' t n (la t n (.inl (s, e))) := by
  obtain ⟨hT, ho, ⟨d1, d2, d3, d4, d5⟩, h8, h9⟩ := h
  have h5 := ho.2.2 hs
  have hx : gI σ 8 3 = nI (tkE t n s) := by
    unfold tkE
    rcases kO_cases (t s) with k | k | k | k
    · rw [if_neg (by omega), k]; exact (d4 hs k).2.2.2.1
    · rw [if_neg (by omega), k]; exact (d5 hs k).2.2.2
    · rw [if_pos k]; exact (d3 hs k).2.2
    · exact absurd k h5
  obtain ⟨σ', h1, h2, h3⟩ := s_adv hT (tkE_le hs) hx
  have hk := zM_ke h1
  refine ⟨σ', h1, h2, lO_la hs ho, ?_, ?_, ?_⟩
  · have e2 : ((gI σ 8 4 = 1 ∨ gI σ 8 4 = 2) ∧ ru t n 5 (tkE t n s) = tkE t n s) = (tkG t n s e = tkS t n s + 1) := by
      have a1 := tkE_gt hs h5
      have a2 := tkS_ge (t := t) (n := n) (s := s)
      have a3 := ho.2.1
      unfold tkG
      rcases kO_cases (t s) with k | k | k | k
      · have he : e ≠ s + 1 := by rcases hg with q | q; · omega
                                  · exact q
        rw [if_neg (by omega), (d4 hs k).2.1 he]
        simp only [true_or, true_and]
        show (tkS t n s = tkE t n s) = _
        exact propext ⟨fun q => by omega, fun q => by omega⟩
      · have he : e ≠ s + 1 := by rcases hg with q | q; · omega
                                  · exact q
        rw [if_neg (by omega), (d5 hs k).2.1 he]
        simp only [or_true, true_and]
        show (tkS t n s = tkE t n s) = _
        exact propext ⟨fun q => by omega, fun q => by omega⟩
      · rw [if_pos k, (d3 hs k).1]
        exact propext ⟨fun q => by rcases q.1 with z | z <;> exact absurd z (by decide), fun q => by omega⟩
      · exact absurd k h5
    rw [e2] at h3
    exact h3
  · rw [hk.gI (tg_8 hT.1) (by decide) rfl]; exact h8
  · rw [hk.gI (tg_8 hT.1) (by decide) rfl]; exact h9
theorem c_fail (h : CS σ t n st) {f p : Nat} (hf : 0 < f) (hf6 : f < 6) (hp : p < 2000) : ∃ σ', zM 106 [.ref 8, .int (nI f), .int (nI p)] σ = some (none, σ') ∧ CS σ' t n (lf st f p) := by
  obtain ⟨hT, ho, h⟩ := h
  have hS := hT.1
  rw [q_X10_fail]
  simp -implicitDefEqProofs only [tg_sI, ln_sI, tg_sL, ln_sL, tg_sR, ln_sR, tg_sC, ln_sC, ai_sI, ai_sL, gL_sI, gR_sI, gI_sL, gR_sL, gI_sR, gL_sR, gI_sI, gL_sL, gR_sR, zlt_e, zln_e, zli_e, zll_e, zbI_e, zbL_e, zbR_e, zbV_e, zeR_e, zeN_s, zeN_n, Nat.reduceEqDiff, and_self, and_true, true_and, and_false, false_and, ite_true, ite_false, reduceIte, tg_8 hS]
  match st, ho, h with
  | .inl (s, e), ho, h =>
    rw [h.2.1, if_pos rfl]
    exact ⟨_, rfl, TC_tok (TC_tok (TC_tok (TC_tok (TC_tok hT (by decide)) (by decide)) (by decide)) (by decide)) (by decide), ⟨hf, hf6, hp⟩, rfl, rfl, rfl⟩
  | .inr (f', p'), ho, h =>
    rw [h.1, if_neg (nI_ne0 ho.1 (by have := ho.2.1; omega))]
    exact ⟨_, rfl, TC_tok (TC_tok (TC_tok hT (by decide)) (by decide)) (by decide), ho, h.1, h.2.1, rfl⟩
theorem c_failHere (h : CS σ t n st) {f : Nat} (hf : 0 < f) (hf6 : f < 6) : ∃ σ', zM 107 [.ref 8, .int (nI f)] σ = some (none, σ') ∧ CS σ' t n (lf st f (lp st)) := by
  have hS := h.1.1
  rw [q_X10_failHere]
  simp -implicitDefEqProofs only [tg_sI, ln_sI, tg_sL, ln_sL, tg_sR, ln_sR, tg_sC, ln_sC, ai_sI, ai_sL, gL_sI, gR_sI, gI_sL, gR_sL, gI_sR, gL_sR, gI_sI, gL_sL, gR_sR, zlt_e, zln_e, zli_e, zll_e, zbI_e, zbL_e, zbR_e, zbV_e, zeR_e, zeN_s, zeN_n, Nat.reduceEqDiff, and_self, and_true, true_and, and_false, false_and, ite_true, ite_false, reduceIte, tg_8 hS]
  match st, h with
  | .inl (s, e), h =>
    have h5 : gI σ 8 5 = nI s := h.2.2.1.1
    have := h.2.1.1
    have := h.1.2.1
    obtain ⟨σ', h1, h2⟩ := c_fail h hf hf6 (p := s) (by omega)
    rw [h5, h1]
    exact ⟨_, rfl, h2⟩
  | .inr (f', p'), h =>
    have ho := h.2.1
    have h8 : gI σ 8 8 = nI f' := h.2.2.1
    rw [q_X10_fail]
    simp -implicitDefEqProofs only [tg_sI, ln_sI, tg_sL, ln_sL, tg_sR, ln_sR, tg_sC, ln_sC, ai_sI, ai_sL, gL_sI, gR_sI, gI_sL, gR_sL, gI_sR, gL_sR, gI_sI, gL_sL, gR_sR, zlt_e, zln_e, zli_e, zll_e, zbI_e, zbL_e, zbR_e, zbV_e, zeR_e, zeN_s, zeN_n, Nat.reduceEqDiff, and_self, and_true, true_and, and_false, false_and, ite_true, ite_false, reduceIte, tg_8 hS]
    rw [h8, if_neg (nI_ne0 ho.1 (by have := ho.2.1; omega))]
    exact ⟨_, rfl, TC_tok (TC_tok (TC_tok h.1 (by decide)) (by decide)) (by decide), ho, h.2.2.1, h.2.2.2.1, rfl⟩
theorem lw_live (h : lw t n st < 35) : ∃ s e, st = .inl (s, e) ∧ s < n ∧ kO (t s) = 1 ∧ e ≠ s + 1 ∧ ru t n 1 s ≤ s + 6 := by
  match st, h with
  | .inl (s, e), h => exact ⟨s, e, rfl, owT_lt h⟩
  | .inr _, h => exact absurd h (by show ¬ 35 < 35; omega)
theorem ls_live (h : ls t n st < 256) : ∃ s e, st = .inl (s, e) ∧ s < n ∧ kO (t s) = 3 ∧ t s = ls t n st := by
  match st, h with
  | .inl (s, e), h =>
    have := sgT_lt h
    refine ⟨s, e, rfl, this.1, this.2, ?_⟩
    show _ = sgT t n s
    rw [sgT, if_pos this]
  | .inr _, h => exact absurd h (by show ¬ 256 < 256; omega)
theorem c_advW (h : CS σ t n st) (hw : lw t n st < 35) : ∃ σ', zM 97 [.ref 8] σ = some (none, σ') ∧ CS σ' t n (la t n st) := by
  obtain ⟨s, e, rfl, h1, h2, h3, h4⟩ := lw_live hw
  exact c_adv h h1 (.inr h3)
theorem c_advS (h : CS σ t n st) (hw : ls t n st < 256) : ∃ σ', zM 97 [.ref 8] σ = some (none, σ') ∧ CS σ' t n (la t n st) := by
  obtain ⟨s, e, rfl, h1, h2, h3⟩ := ls_live hw
  exact c_adv h h1 (.inl h2)
theorem c_takeWord (h : CS σ t n st) {w : Nat} (hw : w < 35) : ∃ σ', zM 108 [.ref 8, .int (nI w)] σ = some (none, σ') ∧ CS σ' t n (lW t n w st) := by
  rw [q_X10_takeWord]
  simp -implicitDefEqProofs only [tg_sI, ln_sI, tg_sL, ln_sL, tg_sR, ln_sR, tg_sC, ln_sC, ai_sI, ai_sL, gL_sI, gR_sI, gI_sL, gR_sL, gI_sR, gL_sR, gI_sI, gL_sL, gR_sR, zlt_e, zln_e, zli_e, zll_e, zbI_e, zbL_e, zbR_e, zbV_e, zeR_e, zeN_s, zeN_n, Nat.reduceEqDiff, and_self, and_true, true_and, and_false, false_and, ite_true, ite_false, reduceIte, tg_8 h.1.1, c_atWord h hw]
  unfold lW
  by_cases q : lw t n st = w
  · rw [if_pos q, if_pos q, if_neg (by decide)]
    obtain ⟨σ', h1, h2⟩ := c_advW h (by omega)
    rw [h1]
    exact ⟨_, rfl, h2⟩
  · rw [if_neg q, if_neg q, if_pos rfl]
    obtain ⟨σ', h1, h2⟩ := c_failHere h (f := 1) (by decide) (by decide)
    rw [show (1 : Int32) = nI 1 from rfl, h1]
    exact ⟨_, rfl, h2⟩
theorem c_takeSign (h : CS σ t n st) {c : Nat} (hc : c < 256) : ∃ σ', zM 109 [.ref 8, .int (nI c)] σ = some (none, σ') ∧ CS σ' t n (lG t n c st) := by
  rw [q_X10_takeSign]
  simp -implicitDefEqProofs only [tg_sI, ln_sI, tg_sL, ln_sL, tg_sR, ln_sR, tg_sC, ln_sC, ai_sI, ai_sL, gL_sI, gR_sI, gI_sL, gR_sL, gI_sR, gL_sR, gI_sI, gL_sL, gR_sR, zlt_e, zln_e, zli_e, zll_e, zbI_e, zbL_e, zbR_e, zbV_e, zeR_e, zeN_s, zeN_n, Nat.reduceEqDiff, and_self, and_true, true_and, and_false, false_and, ite_true, ite_false, reduceIte, tg_8 h.1.1, c_atSign h hc]
  unfold lG
  by_cases q : ls t n st = c
  · rw [if_pos q, if_pos q, if_neg (by decide)]
    obtain ⟨σ', h1, h2⟩ := c_advS h (by omega)
    rw [h1]
    exact ⟨_, rfl, h2⟩
  · rw [if_neg q, if_neg q, if_pos rfl]
    obtain ⟨σ', h1, h2⟩ := c_failHere h (f := 1) (by decide) (by decide)
    rw [show (1 : Int32) = nI 1 from rfl, h1]
    exact ⟨_, rfl, h2⟩
theorem nv_lt {s m : Nat} (hl : ∀ j, s ≤ j → j < m → kO (t j) = 2) : nv t s m < 10000 := by
  unfold nv
  have hd : ∀ i, i < m - s → t (s + i) - 48 ≤ 9 := fun i hi => by have := kO2 (hl (s + i) (by omega) (by omega)); omega
  rcases Nat.lt_or_ge (m - s) 4 with h | h
  · rw [Nat.min_eq_right (by omega)]
    generalize m - s = d at *
    match d, h with
    | 0, _ => simp [nvp]
    | 1, _ => have := hd 0 (by omega); simp only [nvp]; omega
    | 2, _ => have := hd 0 (by omega); have := hd 1 (by omega); simp only [nvp]; omega
    | 3, _ => have := hd 0 (by omega); have := hd 1 (by omega); have := hd 2 (by omega); simp only [nvp]; omega
  · rw [Nat.min_eq_left (by omega)]
    have := hd 0 (by omega); have := hd 1 (by omega); have := hd 2 (by omega); have := hd 3 (by omega)
    simp only [nvp]
    omega
theorem c_takeNumber (h : CS σ t n st) {lo hi : Nat} (hhi : hi < 10000) (hlo : lo ≤ hi) : ∃ σ', zM 110 [.ref 8, .int (nI lo), .int (nI hi)] σ = some (some (.int (nI (if lL (lU t n lo hi st) = true then lUv t n st else lo))), σ') ∧ CS σ' t n (lU t n lo hi st) := by
  have hS := h.1.1
  rw [q_X10_takeNumber]
  simp -implicitDefEqProofs only [tg_sI, ln_sI, tg_sL, ln_sL, tg_sR, ln_sR, tg_sC, ln_sC, ai_sI, ai_sL, gL_sI, gR_sI, gI_sL, gR_sL, gI_sR, gL_sR, gI_sI, gL_sL, gR_sR, zlt_e, zln_e, zli_e, zll_e, zbI_e, zbL_e, zbR_e, zbV_e, zeR_e, zeN_s, zeN_n, Nat.reduceEqDiff, and_self, and_true, true_and, and_false, false_and, ite_true, ite_false, reduceIte, tg_8 hS]
  match st, h with
  | .inl (s, e), h =>
    have h0 := h
    obtain ⟨hT, ho, ⟨d1, d2, d3, d4, d5⟩, h8, h9⟩ := h0
    have hn := hT.2.1
    obtain ⟨σf, f1, f2⟩ := c_failHere h (f := 1) (by decide) (by decide)
    obtain ⟨σg, g1, g2⟩ := c_failHere h (f := 2) (by decide) (by decide)
    have f1 : zM 107 [.ref 8, .int 1] σ = some (none, σf) := f1
    have g1 : zM 107 [.ref 8, .int 2] σ = some (none, σg) := g1
    have lUe : lU t n lo hi (.inl (s, e)) = if nuT t n s e = true then (if tkE t n s ≤ s + 4 then (if lo ≤ nv t s (tkE t n s) ∧ nv t s (tkE t n s) ≤ hi then la t n (.inl (s, e)) else .inr (2, s)) else .inr (1, s + 4)) else .inr (1, s) := rfl
    by_cases hnu : nuT t n s e = true
    · obtain ⟨hs, hk, he⟩ := nuT_t hnu
      obtain ⟨-, k2, k3, k4⟩ := d5 hs hk
      have k2 := k2 he
      have e3 : tkE t n s = ru t n 2 s := by unfold tkE; rw [if_neg (by omega), hk]
      have l1 := tkE_gt (t := t) (n := n) hs (by omega)
      have l2 : tkE t n s ≤ n := tkE_le hs
      have hin : ∀ j, s ≤ j → j < ru t n 2 s → kO (t j) = 2 := ru_in s
      have hv : nv t s (tkE t n s) < 10000 := nv_lt (by rw [e3]; exact hin)
      rw [← e3] at k3 k4
      rw [lUe, if_pos hnu, k2, if_pos rfl, k4, k3, d1, pk_sub (by omega)]
      by_cases h4 : tkE t n s ≤ s + 4
      · rw [if_pos (show nI (tkE t n s - s) ≤ 4 from nI_le (b := 4) (by omega) (by omega)), if_pos h4]
        by_cases hl1 : nv t s (tkE t n s) < lo
        · rw [if_pos (nI_lt hl1 (by omega)), if_neg (show ¬ (lo ≤ nv t s (tkE t n s) ∧ nv t s (tkE t n s) ≤ hi) by omega), g1]
          exact ⟨_, rfl, g2⟩
        · rw [if_neg (nI_nlt (by omega) (by omega))]
          by_cases hl2 : nv t s (tkE t n s) ≤ hi
          · rw [if_pos (nI_le hl2 (by omega)), if_pos (show lo ≤ nv t s (tkE t n s) ∧ nv t s (tkE t n s) ≤ hi from ⟨by omega, hl2⟩)]
            obtain ⟨σ', h1, h2⟩ := c_adv h hs (.inr he)
            rw [h1]
            exact ⟨_, rfl, h2⟩
          · rw [if_neg (show ¬ nI (nv t s (tkE t n s)) ≤ nI hi from nI_ge (by omega) (by omega)), if_neg (show ¬ (lo ≤ nv t s (tkE t n s) ∧ nv t s (tkE t n s) ≤ hi) by omega), g1]
            exact ⟨_, rfl, g2⟩
      · rw [if_neg (show ¬ nI (tkE t n s - s) ≤ 4 from nI_ge (a := 4) (by omega) (by omega)), if_neg h4]
        obtain ⟨σ', h1, h2⟩ := c_fail h (f := 1) (p := s + 4) (by decide) (by decide) (by omega)
        have h1 : zM 106 [.ref 8, .int 1, .int (nI s + 4)] σ = some (none, σ') := by rw [show nI s + 4 = nI (s + 4) from nI_add s 4]; exact h1
        rw [h1]
        exact ⟨_, rfl, h2⟩
    · rw [lUe, if_neg hnu]
      have hk : ¬ gI σ 8 4 = 2 := by
        intro q
        have := c_atNumber h
        rw [q_X10_atNumber] at this
        simp -implicitDefEqProofs only [tg_sI, ln_sI, tg_sL, ln_sL, tg_sR, ln_sR, tg_sC, ln_sC, ai_sI, ai_sL, gL_sI, gR_sI, gI_sL, gR_sL, gI_sR, gL_sR, gI_sI, gL_sL, gR_sR, zlt_e, zln_e, zli_e, zll_e, zbI_e, zbL_e, zbR_e, zbV_e, zeR_e, zeN_s, zeN_n, Nat.reduceEqDiff, and_self, and_true, true_and, and_false, false_and, ite_true, ite_false, reduceIte, tg_8 hS, q] at this
        have e2 : lN_ t n (.inl (s, e)) = nuT t n s e := rfl
        rw [e2, if_neg hnu] at this
        simp at this
      rw [if_neg hk, f1]
      exact ⟨_, rfl, f2⟩
  | .inr (f', p'), h =>
    obtain ⟨σf, f1, f2⟩ := c_failHere h (f := 1) (by decide) (by decide)
    have f1 : zM 107 [.ref 8, .int 1] σ = some (none, σf) := f1
    have h4 : gI σ 8 4 = 0 := h.2.2.2.2
    rw [h4, if_neg (by decide), f1]
    exact ⟨_, rfl, f2⟩
theorem c_takeName (h : CS σ t n st) : ∃ σ', zM 111 [.ref 8] σ = some (some (.int (nI (if lL (lM t n st) = true then wv t (lp st) (tkE t n (lp st)) else 0))), σ') ∧ CS σ' t n (lM t n st) := by
  have hS := h.1.1
  rw [q_X10_takeName]
  simp -implicitDefEqProofs only [tg_sI, ln_sI, tg_sL, ln_sL, tg_sR, ln_sR, tg_sC, ln_sC, ai_sI, ai_sL, gL_sI, gR_sI, gI_sL, gR_sL, gI_sR, gL_sR, gI_sI, gL_sL, gR_sR, zlt_e, zln_e, zli_e, zll_e, zbI_e, zbL_e, zbR_e, zbV_e, zeR_e, zeN_s, zeN_n, Nat.reduceEqDiff, and_self, and_true, true_and, and_false, false_and, ite_true, ite_false, reduceIte, tg_8 hS]
  match st, h with
  | .inl (s, e), h =>
    have h0 := h
    obtain ⟨hT, ho, ⟨d1, d2, d3, d4, d5⟩, h8, h9⟩ := h0
    have hn := hT.2.1
    obtain ⟨σf, f1, f2⟩ := c_failHere h (f := 1) (by decide) (by decide)
    have f1 : zM 107 [.ref 8, .int 1] σ = some (none, σf) := f1
    have lMe : lM t n (.inl (s, e)) = if naT t n s e = true then (if tkE t n s ≤ s + 6 then la t n (.inl (s, e)) else .inr (1, s + 6)) else .inr (1, s) := rfl
    have hw := c_own h
    rw [q_X10_ownWord] at hw
    simp -implicitDefEqProofs only [tg_sI, ln_sI, tg_sL, ln_sL, tg_sR, ln_sR, tg_sC, ln_sC, ai_sI, ai_sL, gL_sI, gR_sI, gI_sL, gR_sL, gI_sR, gL_sR, gI_sI, gL_sL, gR_sR, zlt_e, zln_e, zli_e, zll_e, zbI_e, zbL_e, zbR_e, zbV_e, zeR_e, zeN_s, zeN_n, Nat.reduceEqDiff, and_self, and_true, true_and, and_false, false_and, ite_true, ite_false, reduceIte, tg_8 hS] at hw
    have lwe : lw t n (.inl (s, e)) = owT t n s e := rfl
    rw [lwe] at hw
    by_cases hna : naT t n s e = true
    · obtain ⟨hs, hk, he, how⟩ := naT_t hna
      obtain ⟨-, k2, k3, k4, k5⟩ := d4 hs hk
      have k2 := k2 he
      have e3 : tkE t n s = ru t n 1 s := by unfold tkE; rw [if_neg (by omega), hk]
      have l1 := tkE_gt (t := t) (n := n) hs (by omega)
      have l2 : tkE t n s ≤ n := tkE_le hs
      rw [← e3] at k3 k4 k5
      rw [k2, if_pos rfl] at hw
      have h7 : gI σ 8 7 = -1 := by
        have : owJ (owT t n s e) = -1 := by unfold owJ; rw [if_neg how]
        rw [this] at hw
        simpa using hw
      rw [lMe, if_pos hna, k2, if_pos rfl, h7, if_pos rfl, k4, k3, d1, pk_sub (by omega)]
      by_cases h6 : tkE t n s ≤ s + 6
      · rw [if_pos (show nI (tkE t n s - s) ≤ 6 from nI_le (b := 6) (by omega) (by omega)), if_pos h6]
        obtain ⟨σ', h1, h2⟩ := c_adv h hs (.inr he)
        rw [h1]
        exact ⟨_, rfl, h2⟩
      · rw [if_neg (show ¬ nI (tkE t n s - s) ≤ 6 from nI_ge (a := 6) (by omega) (by omega)), if_neg h6]
        obtain ⟨σ', h1, h2⟩ := c_fail h (f := 1) (p := s + 6) (by decide) (by decide) (by omega)
        have h1 : zM 106 [.ref 8, .int 1, .int (nI s + 6)] σ = some (none, σ') := by rw [show nI s + 6 = nI (s + 6) from nI_add s 6]; exact h1
        rw [h1]
        exact ⟨_, rfl, h2⟩
    · rw [lMe, if_neg hna]
      by_cases h4 : gI σ 8 4 = 1
      · rw [if_pos h4]
        rw [if_pos h4] at hw
        have h7 : ¬ gI σ 8 7 = -1 := by
          intro q
          rw [q] at hw
          have hq : owJ (owT t n s e) = -1 := by simpa using hw.symm
          have how : ¬ owT t n s e < 35 := by
            intro z
            have : ∀ w, w < 35 → ¬ owJ w = -1 := by decide +kernel
            exact this _ z hq
          apply hna
          unfold naT
          by_cases hs : s < n
          · rcases kO_cases (t s) with k | k | k | k
            · obtain ⟨a1, -⟩ := d4 hs k
              have he : e ≠ s + 1 := by intro z; rw [a1 z] at h4; exact absurd h4 (by decide)
              simp [hs, k, he, how]
            · obtain ⟨a1, a2, -⟩ := d5 hs k
              exfalso
              by_cases he : e = s + 1
              · rw [a1 he] at h4; exact absurd h4 (by decide)
              · rw [a2 he] at h4; exact absurd h4 (by decide)
            · rw [(d3 hs k).1] at h4; exact absurd h4 (by decide)
            · exact absurd k (ho.2.2 hs)
          · rw [(d2 (by omega)).1] at h4; exact absurd h4 (by decide)
        rw [if_neg h7, f1]
        exact ⟨_, rfl, f2⟩
      · rw [if_neg h4, f1]
        exact ⟨_, rfl, f2⟩
  | .inr (f', p'), h =>
    obtain ⟨σf, f1, f2⟩ := c_failHere h (f := 1) (by decide) (by decide)
    have f1 : zM 107 [.ref 8, .int 1] σ = some (none, σf) := f1
    have h4 : gI σ 8 4 = 0 := h.2.2.2.2
    rw [h4, if_neg (by decide), f1]
    exact ⟨_, rfl, f2⟩
end
