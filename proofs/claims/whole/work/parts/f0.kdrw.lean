/-! draw: seeds, and what is drawn of them -/
def drs (s : Nat) : Nat := (1103515245 * s + 12345) % 2147483648
def drv (s : Nat) : Nat := s / 64 % 10000
def sdn (s : Nat) : Nat → Nat
  | 0 => s
  | i + 1 => drs (sdn s i)
def sfk (f : Nat → Nat) (v : Nat) : Nat → Nat → Nat
  | 0, i => i
  | m + 1, i => if v < smN f (i + 1) then i else sfk f v m (i + 1)
section
variable {σ σ' σ1 σ2 : zS} {f : Nat → Nat} {A n s v k o L : Nat}
theorem drs_lt (s : Nat) : drs s < 2147483648 := Nat.mod_lt _ (by omega)
theorem sdn_lt (h : s < 2147483648) : ∀ i, sdn s i < 2147483648
  | 0 => h
  | i + 1 => drs_lt _
theorem sfk_lk : ∀ m i, (∀ j, j < i → smN f (j + 1) ≤ v) → v < smN f (i + m) → (v < smN f (sfk f v m i + 1) ∧ ∀ j, j < sfk f v m i → smN f (j + 1) ≤ v) ∧ sfk f v m i < i + m
  | 0, i, h, hv => by
    exfalso
    cases i with
    | zero => exact absurd hv (by show ¬ v < 0; omega)
    | succ i =>
      have := h i (by omega)
      rw [Nat.add_zero] at hv
      omega
  | m + 1, i, h, hv => by
    by_cases q : v < smN f (i + 1)
    · have e : sfk f v (m + 1) i = i := by show (if _ then _ else _) = _; rw [if_pos q]
      rw [e]
      exact ⟨⟨q, h⟩, by omega⟩
    · have e : sfk f v (m + 1) i = sfk f v m (i + 1) := by show (if _ then _ else _) = _; rw [if_neg q]
      rw [e]
      have := sfk_lk m (i + 1) (fun j hj => by
        rcases Nat.lt_or_ge j i with z | z
        · exact h j z
        · have : j = i := by omega
          subst this
          omega) (by rw [show i + 1 + m = i + (m + 1) by omega]; exact hv)
      exact ⟨this.1, by omega⟩
theorem dr_lN (h : s < 2147483648) : (1103515245 * lN s + 12345) - (1103515245 * lN s + 12345) / 2147483648 * 2147483648 = lN (drs s) := by
  rw [show (1103515245 : Int64) = lN 1103515245 from rfl, show (12345 : Int64) = lN 12345 from rfl, show (2147483648 : Int64) = lN 2147483648 from rfl, lN_mul, lN_add, pk_lRem (by omega) (by omega) (by omega)]
  rfl
theorem dv_lN (h : s < 2147483648) : (lN s / 64 - lN s / 64 / 10000 * 10000).toInt32 = nI (drv s) := by
  have h2 := Nat.div_le_self s 64
  rw [show (64 : Int64) = lN 64 from rfl, show (10000 : Int64) = lN 10000 from rfl, pk_lDiv (by omega) (by omega) (by omega), pk_lRem (by omega) (by omega) (by omega), lN_i]
  rfl
theorem c_dc (hS : Sh σ) (h : s < 2147483648) (hs : gL σ 6 12 = lN s) : zM 177 [.ref 6] σ = some (some (.int (nI (drv (drs s)))), sL σ 6 12 (lN (drs s))) := by
  have S1 : Sh (sL σ 6 12 (lN (drs s))) := hS.sL
  rw [q_X11_drawOfCertain, tg_6 hS, if_pos rfl, if_pos rfl, zlt_e, hs, dr_lN h, tg_6 S1, if_pos rfl, gL_sL, if_pos ⟨rfl, rfl⟩, dv_lN (drs_lt s)]
theorem r_do (hS : Sh σ) (h : s < 2147483648) (hs : gL σ 176 95 = lN s) : zM 306 [.ref 176, .int 10000] σ = some (some (.int (nI (drv (drs s)))), sL σ 176 95 (lN (drs s))) := by
  have S1 : Sh (sL σ 176 95 (lN (drs s))) := hS.sL
  rw [q_X12_drawOf, tg_176 hS, if_pos rfl, if_pos rfl, zlt_e, hs, dr_lN h, tg_176 S1, if_pos rfl, show (10000 : Int32).toInt64 = 10000 by decide, if_neg (by decide), gL_sL, if_pos ⟨rfl, rfl⟩, dv_lN (drs_lt s)]
theorem c_df (hS : Sh σ) (h : s < 2147483648) (hs : gL σ 6 12 = lN s) (tA : tg σ A = 32) (lA : ln σ A = n) (hn : n < 100) (hf : ∀ i, i < n → gI σ A i = nI (f i)) (h10 : smN f n = 10000) : zM 178 [.ref 6, .ref A] σ = some (some (.int (nI (sfk f (drv (drs s)) n 0))), sL σ 6 12 (lN (drs s))) := by
  have vl : drv (drs s) < 10000 := Nat.mod_lt _ (by omega)
  obtain ⟨⟨k1, k2⟩, k3⟩ := sfk_lk (f := f) (v := drv (drs s)) n 0 (fun j hj => by omega) (by rw [Nat.zero_add, h10]; exact vl)
  rw [Nat.zero_add] at k3
  have S1 : Sh (sL σ 6 12 (lN (drs s))) := hS.sL
  have tA1 : tg (sL σ 6 12 (lN (drs s))) A = 32 := tA
  have lA1 : ln (sL σ 6 12 (lN (drs s))) A = n := lA
  have sb : ∀ i, i ≤ n → smN f i ≤ 10000 := fun i hi => by have := smN_le f n i hi; omega
  have e := lp_seq (G := fun i => zR 2 178 7 [some (.ref 6), some (.ref A), some (.int (nI (drv (drs s)))), some (.int (nI (smN f i))), some (.int (nI i))] [] (sL σ 6 12 (lN (drs s)))) (sfk f (drv (drs s)) n 0) (fun i hi => by
    have := k2 i hi
    have ss : smN f (i + 1) = smN f i + f i := rfl
    rw [q_X11_drawFrom_7, tA1, if_pos (by decide), lA1, if_neg (show ¬ Int32.ofNat n ≤ nI i from nI_ge (by omega) (by omega)), if_pos (ai_nI (.inl tA1) lA1 (by omega) (by omega)), ixn (by omega), gI_sL, hf i (by omega), nI_add, ← ss, if_pos (nI_le this (by omega)), nI_1])
  have sb1 := sb (sfk f (drv (drs s)) n 0 + 1) (by omega)
  have ss : smN f (sfk f (drv (drs s)) n 0 + 1) = smN f (sfk f (drv (drs s)) n 0) + f (sfk f (drv (drs s)) n 0) := rfl
  rw [q_X11_drawFrom, tg_6 hS, if_pos rfl, c_dc hS h hs, zbI_e]
  refine Eq.trans e ?_
  rw [q_X11_drawFrom_7, tA1, if_pos (by decide), lA1, if_neg (show ¬ Int32.ofNat n ≤ nI (sfk f (drv (drs s)) n 0) from nI_ge k3 (by omega)), if_pos (ai_nI (.inl tA1) lA1 k3 (by omega)), ixn (by omega), gI_sL, hf _ k3, nI_add, ← ss, if_neg (nI_ge k1 (by omega))]
theorem r_df (hS : Sh σ) (h : s < 2147483648) (hs : gL σ 176 95 = lN s) (tA : tg σ A = 32) (lA : ln σ A = L) (hL : o + n ≤ L ∧ L < 1000) (hn : 1 ≤ n ∧ n < 100) (hf : ∀ i, i < n → gI σ A (o + i) = nI (f i)) (h10 : smN f n = 10000) : zM 307 [.ref 176, .ref A, .int (nI o)] σ = some (some (.int (nI (sfk f (drv (drs s)) n 0))), sL σ 176 95 (lN (drs s))) := by
  have vl : drv (drs s) < 10000 := Nat.mod_lt _ (by omega)
  obtain ⟨⟨k1, k2⟩, k3⟩ := sfk_lk (f := f) (v := drv (drs s)) n 0 (fun j hj => by omega) (by rw [Nat.zero_add, h10]; exact vl)
  rw [Nat.zero_add] at k3
  have tA1 : tg (sL σ 176 95 (lN (drs s))) A = 32 := tA
  have lA1 : ln (sL σ 176 95 (lN (drs s))) A = L := lA
  have sb : ∀ i, i ≤ n → smN f i ≤ 10000 := fun i hi => by have := smN_le f n i hi; omega
  have e := lp_seq (G := fun i => zR 2 307 10 [some (.ref 176), some (.ref A), some (.int (nI o)), some (.int (nI (drv (drs s)))), some (.int (nI i)), some (.int (nI (smN f (i + 1))))] [] (sL σ 176 95 (lN (drs s)))) (sfk f (drv (drs s)) n 0) (fun i hi => by
    have := k2 i hi
    have ss : smN f (i + 1 + 1) = smN f (i + 1) + f (i + 1) := rfl
    rw [q_X12_drawnOf_10, if_neg (nI_nlt this (by omega)), nI_1, nI_add, if_pos (ai_nI (.inl tA1) lA1 (show o + (i + 1) < L by omega) (by omega)), ixn (by omega), gI_sL, hf (i + 1) (by omega), nI_add, ← ss])
  have sb1 := sb (sfk f (drv (drs s)) n 0 + 1) (by omega)
  have s1 : smN f (0 + 1) = 0 + f 0 := rfl
  have h0 := hf 0 (by omega)
  rw [Nat.add_zero] at h0
  rw [q_X12_drawnOf, tg_176 hS, if_pos rfl, r_do hS h hs, zbI_e, if_pos (ai_nI (.inl tA1) lA1 (show o < L by omega) (by omega)), ixn (by omega), gI_sL, h0]
  rw [s1, Nat.zero_add] at e
  refine Eq.trans e ?_
  rw [q_X12_drawnOf_10, if_pos (nI_lt k1 (by omega))]
end
