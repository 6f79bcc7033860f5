/-! letter: the reference's loops -/
section
variable {σ : zS} {v L i : Nat} {x1 x2 : Int32}
theorem lN_le0 {w : Nat} (h : w < 2 ^ 31) : (lN w ≤ 0) = (w = 0) := by
  apply propext
  rw [Int64.le_iff_toInt_le, lN_toInt h]
  have e : (0 : Int64).toInt = 0 := rfl
  omega
theorem dv_s (v a : Nat) : v / 27 ^ a / 27 = v / 27 ^ (a + 1) := by
  rw [Nat.div_div_eq_div_mul, Nat.pow_succ]
theorem dv_le (v a : Nat) : v / 27 ^ a ≤ v := Nat.div_le_self _ _
theorem dv27 {w : Nat} (h : w < 2 ^ 31) : lN w / 27 = lN (w / 27) := lN_div (d := 27) h (by omega) (by omega)
theorem r_l43 (hv : v < 2 ^ 31) (h1 : 27 ^ (L - 1) ≤ v) (h2 : v < 27 ^ L) (hL : 1 ≤ L ∧ L ≤ 6) (hi : i < 6) : zR 2 238 43 [some (.ref 176), some (.int x1), some (.int x2), some (.int (nI i)), some (.long (lN v)), none, some (.int 0), some (.long (lN v)), none] [] σ = if i < L then zR 2 238 62 [some (.ref 176), some (.int x1), some (.int x2), some (.int (nI i)), some (.long (lN v)), none, some (.int (nI L)), some (.int (nI (L - 1))), none] [] σ else some (some (.int 0), σ) := by
  have e := lp_seq (G := fun a => zR 2 238 43 [some (.ref 176), some (.int x1), some (.int x2), some (.int (nI i)), some (.long (lN v)), none, some (.int (nI a)), some (.long (lN (v / 27 ^ a))), none] [] σ) L (fun a ha => by
    have hw := dv_le v a
    have hp : 27 ^ a ≤ v := Nat.le_trans (Nat.pow_le_pow_right (by omega) (by omega)) h1
    have hpos : 0 < v / 27 ^ a := Nat.div_pos hp (Nat.pow_pos (by omega))
    rw [q_X12_letter_43, if_neg (show ¬ lg_cmp (lN (v / 27 ^ a)) 0 ≤ 0 by rw [cmp_le, lN_le0 (by omega)]; omega), dv27 (by omega), dv_s, nI_1])
  have e0 : v / 27 ^ 0 = v := by rw [Nat.pow_zero, Nat.div_one]
  simp only [e0] at e
  refine Eq.trans e ?_
  have eL : v / 27 ^ L = 0 := Nat.div_eq_of_lt h2
  rw [q_X12_letter_43, eL, if_pos (show lg_cmp (lN 0) 0 ≤ 0 by rw [cmp_le, lN_le0 (by omega)])]
  by_cases q : i < L
  · rw [if_pos (nI_lt q (by omega)), if_pos q, nI_subR (n := 1) (by omega)]
  · rw [if_neg (Int32.not_lt.mpr (nI_le (by omega) (by omega))), if_neg q]
theorem lN_mod {w : Nat} (h : w < 2 ^ 31) : (lN w - lN w / 27 * 27).toInt32 = nI (w % 27) := by
  have e : lN w - lN w / 27 * 27 = lN (w % 27) := by
    rw [dv27 h, show (27 : Int64) = lN 27 from rfl, lN_mul, lN_sub (by omega)]
    congr 1
    omega
  rw [e]
  have : ∀ r, r < 27 → (lN r).toInt32 = nI r := by decide +kernel
  exact this _ (Nat.mod_lt _ (by omega))
theorem r_l62 (hv : v < 2 ^ 31) (hL : 1 ≤ L ∧ L ≤ 6) (hi : i < L) (u : Int32) : zR 2 238 62 [some (.ref 176), some (.int x1), some (.int x2), some (.int (nI i)), some (.long (lN v)), none, some (.int u), some (.int (nI (L - 1))), none] [] σ = some (some (.int (nI (v / 27 ^ (L - 1 - i) % 27))), σ) := by
  have e := lp_seq (G := fun a => zR 2 238 62 [some (.ref 176), some (.int x1), some (.int x2), some (.int (nI i)), some (.long (lN (v / 27 ^ a))), none, some (.int u), some (.int (nI (L - 1 - a))), none] [] σ) (L - 1 - i) (fun a ha => by
    have hw := dv_le v a
    have em : nI (L - 1 - a) + -1 = nI (L - 1 - (a + 1)) := by
      have := nI_subR (n := 1) (k := L - 1 - a) (by omega)
      rw [show L - 1 - (a + 1) = L - 1 - a - 1 by omega, ← this]
      exact (Int32.sub_eq_add_neg _ _).symm
    rw [q_X12_letter_62, if_neg (nI_ge (by omega) (by omega)), dv27 (by omega), dv_s, em])
  have e0 : v / 27 ^ 0 = v := by rw [Nat.pow_zero, Nat.div_one]
  simp only [e0, Nat.sub_zero] at e
  refine Eq.trans e ?_
  have hw := dv_le v (L - 1 - i)
  rw [q_X12_letter_62, if_pos (nI_le (by omega) (by omega)), lN_mod (by omega)]
end
