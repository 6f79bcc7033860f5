/-! the class's tokens -/
def ownW : List (List Nat) := [[108, 97, 115, 116], [112, 114, 105, 99, 101], [114, 117, 110, 115], [115, 111, 114, 116], [111, 102, 102], [119, 101, 97, 114], [103, 114, 111, 119], [108, 101, 97, 118, 101], [107, 101, 101, 112, 115], [102, 97, 114, 101], [119, 105, 112, 101], [102, 101, 101], [115, 116, 111, 99, 107], [97, 115, 107], [115, 101, 110, 100], [100, 111, 119, 110], [98, 101, 108, 111, 119], [115, 97, 109, 101], [97, 98, 111, 118, 101], [117, 112], [119, 104, 101, 110], [111, 114], [97, 110, 100], [110, 111, 116], [97, 108, 108], [107, 105, 110, 100], [116, 114, 105, 101, 100], [108, 101, 115, 115], [109, 111, 114, 101], [115, 109, 97, 108, 108], [108, 97, 114, 103, 101], [99, 111, 115, 116], [99, 104, 97, 114, 103, 101], [109, 105, 110], [109, 97, 120]]
def plc (i : Nat) : Nat := ([14348907, 531441, 19683, 729, 27, 1] : List Nat).getD i 0
/-- the padded number of a word's letters -/
def pvL (w : List Nat) : Nat := (w.getD 0 96 - 96) * 14348907 + (w.getD 1 96 - 96) * 531441 + (w.getD 2 96 - 96) * 19683 + (w.getD 3 96 - 96) * 729 + (w.getD 4 96 - 96) * 27 + (w.getD 5 96 - 96)
def ownL : List Nat := ownW.map pvL
def owN (v : Nat) : Nat := ownL.findIdx (fun q => q == v)
def owI (v : Nat) : Int32 := if owN v < 35 then nI (owN v) else -1
def dg (t : Nat → Nat) (s m i : Nat) : Nat := if s + i < m then t (s + i) - 96 else 0
def pw (t : Nat → Nat) (s m : Nat) : Nat → Nat
  | 0 => 0
  | i + 1 => pw t s m i + dg t s m i * plc i
/-- a word from s to m as one number -/
def wv (t : Nat → Nat) (s m : Nat) : Nat := pw t s m 6
def nvp (t : Nat → Nat) (s : Nat) : Nat → Nat
  | 0 => 0
  | i + 1 => 10 * nvp t s i + (t (s + i) - 48)
/-- up to four digits from s to m -/
def nv (t : Nat → Nat) (s m : Nat) : Nat := nvp t s (min 4 (m - s))
/-- the text t of n bytes lies before the class's tokens -/
def TC (σ : zS) (t : Nat → Nat) (n : Nat) : Prop := Sh σ ∧ n ≤ 1600 ∧ (∀ j, t j < 256) ∧ (∀ j, gI σ 7 j = sb (t j)) ∧ gR σ 8 1 = some 7 ∧ gI σ 8 2 = nI n ∧ (∀ i, i < 35 → gI σ 9 i = nI (ownL.getD i 0))
/-- the token at s, glued to the one ahead of it where g -/
def TD (σ : zS) (t : Nat → Nat) (n s : Nat) (g : Prop) : Prop := gI σ 8 5 = nI s ∧
  (n ≤ s → gI σ 8 4 = 0 ∧ gI σ 8 3 = nI s) ∧
  (s < n → kO (t s) = 3 → gI σ 8 4 = 3 ∧ gI σ 8 6 = nI (t s) ∧ gI σ 8 3 = nI (s + 1)) ∧
  (s < n → kO (t s) = 1 → (g → gI σ 8 4 = 4) ∧ (¬ g → gI σ 8 4 = 1) ∧ gI σ 8 6 = nI (wv t s (ru t n 1 s)) ∧ gI σ 8 3 = nI (ru t n 1 s) ∧ gI σ 8 7 = if ru t n 1 s ≤ s + 6 then owI (wv t s (ru t n 1 s)) else -1) ∧
  (s < n → kO (t s) = 2 → (g → gI σ 8 4 = 4) ∧ (¬ g → gI σ 8 4 = 2) ∧ gI σ 8 6 = nI (nv t s (ru t n 2 s)) ∧ gI σ 8 3 = nI (ru t n 2 s))
theorem ixn {n : Nat} (h : n < 2 ^ 31) : ix (nI n) = n := nI_clamp h
section
variable {σ : zS} {t : Nat → Nat} {n : Nat}
theorem TC_sI {r j : Nat} {v : Int32} (h : TC σ t n) (h1 : r ≠ 1) (h7 : r ≠ 7) (h9 : r ≠ 9) (h2 : ¬ (r = 8 ∧ j = 2)) : TC (sI σ r j v) t n := by
  obtain ⟨a, b, c, d, e, f, g⟩ := h
  refine ⟨a.sI h1, b, c, fun i => ?_, e, ?_, fun i hi => ?_⟩
  · rw [gI_sI, if_neg (by omega)]; exact d i
  · rw [gI_sI, if_neg (by omega)]; exact f
  · rw [gI_sI, if_neg (by omega)]; exact g i hi
theorem TC_tok {j : Nat} {v : Int32} (h : TC σ t n) (hj : j ≠ 2) : TC (sI σ 8 j v) t n := TC_sI h (by decide) (by decide) (by decide) (by omega)
theorem pw_rest {s m i : Nat} (h : m ≤ s + i) : ∀ j, pw t s m (i + j) = pw t s m i
  | 0 => rfl
  | j + 1 => by
    rw [← Nat.add_assoc, pw, pw_rest h j, dg, if_neg (by omega)]
    omega
theorem kO1 {c : Nat} (h : kO c = 1) : 97 ≤ c ∧ c ≤ 122 := by
  unfold kO at h
  repeat' split at h
  all_goals first | assumption | omega
theorem kO2 {c : Nat} (h : kO c = 2) : 48 ≤ c ∧ c ≤ 57 := by
  unfold kO at h
  repeat' split at h
  all_goals first | assumption | omega
theorem sh_tg1 (h : Sh σ) : tg σ 1 = 48 := by
  obtain ⟨⟨L, K, hK⟩, -⟩ := h
  unfold tg kd
  rw [hK]
  rfl
theorem sh_ln1 (h : Sh σ) : ln σ 1 = 6 := by
  obtain ⟨⟨L, K, hK⟩, -⟩ := h
  unfold ln kd
  rw [hK]
  rfl
theorem sh_pl (h : Sh σ) {i : Nat} (hi : i < 6) : gI σ 1 i = nI (plc i) := by
  rw [h.2.2.2 i hi]
  have : ∀ i, i < 6 → zPl.getD i 0 = nI (plc i) := by decide +kernel
  exact this i hi
theorem sb_let {c : Nat} (h : kO c = 1) : sb c - 97 + 1 = nI (c - 96) := by
  have h1 := kO1 h
  unfold sb
  rw [if_pos (by omega), show (97 : Int32) = nI 97 from rfl, pk_sub (by omega), nI_1]
  congr 1
  omega
theorem sb_dig {c : Nat} (h : kO c = 2) (v : Nat) : nI v + sb c - 48 = nI (v + (c - 48)) := by
  have h1 := kO2 h
  unfold sb
  rw [if_pos (by omega), nI_add, show (48 : Int32) = nI 48 from rfl, pk_sub (by omega)]
  congr 1
  omega
/-- the loop over a word's letters -/
theorem rw_loop {s m : Nat} (hT : TC σ t n) (hs : gI σ 8 5 = nI s) (hm : gI σ 8 3 = nI m) (hmn : m ≤ n) (hsn : s ≤ n) (hl : ∀ j, s ≤ j → j < m → kO (t j) = 1) : ∀ d i, d + i = 6 → zR 1 99 5 [some (.ref 8), some (.int (nI i))] [] (sI σ 8 6 (nI (pw t s m i))) = zR 1 99 39 [some (.ref 8), some (.int 0)] [] (sI σ 8 6 (nI (wv t s m))) := by
  intro d
  induction d with
  | zero =>
    intro i hi
    have : i = 6 := by omega
    subst this
    rw [q_X10_readWord_5, if_pos (show (6 : Int32) ≤ nI 6 from nI_le (Nat.le_refl 6) (by decide))]
    unfold wv
    exact Eq.refl _
  | succ d ih =>
    intro i hi
    obtain ⟨hS, hn, hc, htx, h81, h82, h9⟩ := hT
    have hi6 : i < 6 := by omega
    rw [q_X10_readWord_5, if_neg (by rw [show (6 : Int32) = nI 6 from rfl, nI_leI (by omega) (by omega)]; omega)]
    simp -implicitDefEqProofs only [tg_sI, ln_sI, tg_sL, ln_sL, tg_sR, ln_sR, tg_sC, ln_sC, ai_sI, ai_sL, gL_sI, gR_sI, gI_sL, gR_sL, gI_sR, gL_sR, gI_sI, gL_sL, gR_sR, zlt_e, zln_e, zli_e, zll_e, zbI_e, zbL_e, zbR_e, zbV_e, zeR_e, zeN_s, zeN_n, Nat.reduceEqDiff, and_self, and_true, true_and, and_false, false_and, ite_true, ite_false, reduceIte, tg_8 hS, hs, hm, h81, nI_add]
    by_cases h : s + i < m
    · rw [if_neg (nI_ge h (by omega)), if_pos (ai_nI (.inl (tg_7 hS)) (ln_7 hS) (by omega) (by omega)), if_pos (ai_nI (.inr (sh_tg1 hS)) (sh_ln1 hS) hi6 (by omega)), ixn (by omega), ixn (by omega), htx, sh_pl hS hi6, sb_let (hl _ (by omega) h), pk_mul, nI_add, sI_same, nI_1]
      have := ih (i + 1) (by omega)
      have e : pw t s m (i + 1) = pw t s m i + (t (s + i) - 96) * plc i := by
        rw [pw, dg, if_pos h]
      rw [e] at this
      exact this
    · rw [if_pos (nI_le (by omega) (by omega))]
      have := pw_rest (t := t) (s := s) (m := m) (i := i) (by omega) (6 - i)
      rw [show i + (6 - i) = 6 by omega] at this
      unfold wv
      rw [this]
/-- the loop over the own words -/
theorem rw_own {s m v : Nat} (hT : TC σ t n) (hs : gI σ 8 5 = nI s) (hm : gI σ 8 3 = nI m) (hv : gI σ 8 6 = nI v) (hv2 : v < 2 ^ 31) (hmn : m ≤ n) (hsm : s ≤ m) (h6 : m ≤ s + 6) (ho : gI σ 8 7 = -1) : ∀ d i, d + i = 35 → (∀ j, j < i → ownL.getD j 0 ≠ v) → ∃ σ', zR 1 99 39 [some (.ref 8), some (.int (nI i))] [] σ = some (none, σ') ∧ σ' = sI σ 8 7 (owI v) := by
  intro d
  induction d with
  | zero =>
    intro i hi hj
    have : i = 35 := by omega
    subst this
    rw [q_X10_readWord_39, if_pos (by decide)]
    refine ⟨σ, rfl, ?_⟩
    have : ¬ owN v < 35 := by
      intro q
      have hw := List.findIdx_getElem (xs := ownL) (p := fun q => q == v) (w := q)
      have := hj (owN v) q
      rw [List.getD_eq_getElem?_getD, List.getElem?_eq_getElem (by exact q)] at this
      have hw : (ownL[owN v] == v) = true := hw
      exact this (by simpa using hw)
    unfold owI
    rw [if_neg this, ← ho, sI_id]
  | succ d ih =>
    intro i hi hj
    obtain ⟨hS, hn, hc, htx, h81, h82, h9⟩ := hT
    have hi6 : i < 35 := by omega
    rw [q_X10_readWord_39, if_neg (by rw [show (35 : Int32) = nI 35 from rfl, nI_leI (by omega) (by omega)]; omega)]
    simp -implicitDefEqProofs only [tg_sI, ln_sI, tg_sL, ln_sL, tg_sR, ln_sR, tg_sC, ln_sC, ai_sI, ai_sL, gL_sI, gR_sI, gI_sL, gR_sL, gI_sR, gL_sR, gI_sI, gL_sL, gR_sR, zlt_e, zln_e, zli_e, zll_e, zbI_e, zbL_e, zbR_e, zbV_e, zeR_e, zeN_s, zeN_n, Nat.reduceEqDiff, and_self, and_true, true_and, and_false, false_and, ite_true, ite_false, reduceIte, tg_8 hS, hs, hm, hv, gR_8_0 hS]
    rw [pk_sub hsm, if_neg (by rw [show (6 : Int32) = nI 6 from rfl, nI_ltI (by omega) (by omega)]; omega), if_pos (ai_nI (.inl (tg_9 hS)) (ln_9 hS) hi6 (by omega)), ixn (by omega), h9 i hi6]
    have hb : ∀ j, j < 35 → ownL.getD j 0 < 2 ^ 31 := by decide +kernel
    by_cases h : ownL.getD i 0 = v
    · rw [if_pos (by rw [h])]
      refine ⟨_, rfl, ?_⟩
      have hl : ownL.length = 35 := rfl
      have e : owN v = i := by
        unfold owN
        rw [List.findIdx_eq (by omega)]
        constructor
        · rw [List.getD_eq_getElem?_getD, List.getElem?_eq_getElem (by omega)] at h
          simpa using h
        · intro j hji
          have := hj j hji
          rw [List.getD_eq_getElem?_getD, List.getElem?_eq_getElem (by omega)] at this
          simpa using this
      unfold owI
      rw [e, if_pos hi6]
    · rw [if_neg (fun q => h ((nI_eq (hb i hi6) hv2).mp q)), nI_1]
      refine ih (i + 1) (by omega) ?_
      intro j hji
      rcases Nat.lt_or_ge j i with q | q
      · exact hj j q
      · have : j = i := by omega
        rw [this]; exact h
end
