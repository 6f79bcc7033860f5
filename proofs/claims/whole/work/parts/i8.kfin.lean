/-! the law runs to its end -/
section
variable {σ σ' : zS} {B L i c : Nat} {xs : Nat → Int32}
theorem end_sub : ∀ L, L < 6 → (Int32.ofNat L - 6).toInt = (L : Int) - 6 := by decide +kernel
theorem law_end (hw : W0 L xs σ) (hL : L ≤ 3072) (hi : i ≤ 520) (hq : ¬ 6 * i + 6 ≤ L) : zR 87 338 10 [some (.ref 0), some (.ref 6), some (.ref 176), some (.int (nI (6 * i)))] [] σ = some (some (.int 1), σ) := by
  have lt : Int32.ofNat L - 6 < nI (6 * i) := by
    by_cases q : L < 6
    · rw [Int32.lt_iff_toInt_lt, end_sub L q, nI_toInt (by omega)]
      omega
    · rw [show Int32.ofNat L - 6 = nI (L - 6) from nI_subR (n := 6) (k := L) (by omega)]
      exact nI_lt (by omega) (by omega)
  rw [q_L_law_10, hw.tk, if_pos (show 32 ≤ 48 by omega), hw.l, if_pos lt]
theorem law_loop (hL : L ≤ 3072) : ∀ (d i : Nat) (σ : zS), i + d = 513 → RX B σ i → W0 L xs σ → ∃ σ' c, zR 87 338 10 [some (.ref 0), some (.ref 6), some (.ref 176), some (.int (nI (6 * i)))] [] σ = some (some (.int 1), σ') ∧ c ≤ 513 ∧ RX B σ' c
  | 0, i, σ, hd, hx, hw => ⟨σ, i, law_end hw hL (by omega) (by omega), by omega, hx⟩
  | d + 1, i, σ, hd, hx, hw => by
    by_cases q : 6 * i + 6 ≤ L
    · obtain ⟨P, S, N, M, K, np, t, n, hr⟩ := hx
      obtain ⟨s2, e2, w2, x2⟩ := lw_all hr hw q hL (by omega)
      obtain ⟨s3, c, e3, c3, x3⟩ := law_loop hL d (i + 1) s2 (by omega) x2 w2
      refine ⟨s3, c, ?_, c3, x3⟩
      rw [e2, q_L_law_1120, nI_addR 6 (6 * i)]
      exact e3
    · exact ⟨σ, i, law_end hw hL (by omega) q, by omega, hx⟩
theorem law_run (L : Nat) (xs : Nat → Int32) (hL : L ≤ 3072) (fo : Option Nat) : ∃ σ' : zS, zM 338 [.ref 0] (zs0 L xs fo) = some (some (.int 1), σ') ∧ σ'.1.length ≤ 600006 ∧ zsl σ' ≤ zsl (zs0 L xs fo) + 7302250 := by
  obtain ⟨s1, e1, r1, w1, z1⟩ := law_start L xs fo
  obtain ⟨s2, c, e2, c2, ⟨P, S, N, M, K, np, t, n, hr⟩⟩ := law_loop hL 513 0 s1 (by omega) ⟨16, 60, 0, 0, 0, 0, fun _ => 0, 0, r1⟩ w1
  have hm := hr.2.2.2.2.2.2.2.2.2.2.2.2
  have m1 := hm.1
  have m2 := hm.2.1
  refine ⟨s2, ?_, by omega, by omega⟩
  refine Eq.trans ?_ e2
  exact e1
end
