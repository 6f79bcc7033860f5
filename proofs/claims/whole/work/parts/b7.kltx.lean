/-! letter: both answer alike -/
section
variable {σ : zS} {B P S N M K np c n v L i : Nat} {t : Nat → Nat}
theorem lt_pw (hv : v < 27 ^ L) (hL : 1 ≤ L ∧ L ≤ 6) (hi : i < 6) : v * 27 ^ (6 - L) / 27 ^ (5 - i) % 27 = if i < L then v / 27 ^ (L - 1 - i) % 27 else 0 := by
  by_cases q : i < L
  · rw [if_pos q, show 5 - i = (L - 1 - i) + (6 - L) by omega, Nat.pow_add, Nat.mul_div_mul_right _ _ (Nat.pow_pos (by omega))]
  · rw [if_neg q, show 6 - L = (i - L) + 1 + (5 - i) by omega, Nat.pow_add, ← Nat.mul_assoc, Nat.mul_div_cancel _ (Nat.pow_pos (by omega)), Nat.pow_succ, ← Nat.mul_assoc, Nat.mul_mod_left]
theorem lt_bd (hv : v < 27 ^ L) (hL : 1 ≤ L ∧ L ≤ 6) : v * 27 ^ (6 - L) < 27 ^ 6 := by
  have e : 27 ^ 6 = 27 ^ L * 27 ^ (6 - L) := by rw [← Nat.pow_add]; congr 1; omega
  rw [e]
  exact (Nat.mul_lt_mul_right (Nat.pow_pos (by omega))).mpr hv
theorem lt_six (a : Int32) : (a < 0 ∨ nI 6 ≤ a) ∨ ∃ i, i < 6 ∧ a = nI i := by
  rcases pk_ix a (n := 6) (by omega) with q | q | ⟨j, hj, e⟩
  · exact .inl (.inl q)
  · exact .inl (.inr q)
  · exact .inr ⟨j, hj, e⟩
theorem op_letter (h : RR B σ c P S N M K np t n) (a b d : Int32) : Al B σ c 123 [.ref 6, .int a, .int b, .int d] 238 [.ref 176, .int a, .int b, .int d] := by
  have hS := h.1
  have hN := RR_hn h
  have n1 := hN.1.2.1
  have n2 := hN.2.1.2.1
  have n3 := hN.2.2.2.1
  have r2 := fun s => isInL (a := a) (x := 0) (y := 2) (X := 0) (Y := 2) (s := s) (by decide +kernel) (by decide +kernel)
  have r5 := fun s => isInL (a := d) (x := 0) (y := 5) (X := 0) (Y := 5) (s := s) (by decide +kernel) (by decide +kernel)
  have kd : ∀ e, e < 3 → kn N M K e ≤ 8 ∧ gI σ 214 (3 + e) = nI (kn N M K e) := fun e he => by
    rcases (show e = 0 ∨ e = 1 ∨ e = 2 by omega) with rfl | rfl | rfl
    · exact ⟨n1, hN.1.2.2⟩
    · exact ⟨by show M ≤ 8; omega, hN.2.1.2.2⟩
    · exact ⟨by show K ≤ 8; omega, hN.2.2.2.2⟩
  have a3 : ∀ e, e < 3 → (3 : Int32) + nI e = nI (3 + e) := fun e _ => nI_addL 3 e
  have go : ∀ e, e < 3 → ∀ x : Int32, zM 238 [.ref 176, .int (nI e), .int x, .int d] σ = if 0 ≤ x ∧ x < nI (kn N M K e) then zR 2 238 20 [some (.ref 176), some (.int (nI e)), some (.int x), some (.int d), none, none, none, none, none] [] σ else some (some (.int (-1)), σ) := fun e he x => by
    have q2 : (0 : Int32) ≤ nI e ∧ nI e ≤ 2 := ⟨nI_pos' (by omega), nI_le (b := 2) (by omega) (by omega)⟩
    have rr := isInL (a := nI e) (x := 0) (y := 2) (X := 0) (Y := 2) (s := σ) (by decide +kernel) (by decide +kernel)
    rw [q_X12_letter, rr, if_pos q2, zbI_e, if_neg (by decide), tg_176 hS, if_pos rfl, gR_176_47 hS, zeR_e, a3 e he, if_pos (ai_nI (.inl (tg_214 hS)) (ln_214 hS) (show 3 + e < 6 by omega) (by omega)), ixn (by omega), (kd e he).2, rng_r x (by have := (kd e he).1; omega), zbI_e]
    by_cases q : 0 ≤ x ∧ x < nI (kn N M K e)
    · rw [if_pos q, if_neg (by decide), if_pos q]
    · rw [if_neg q, if_pos rfl, if_neg q]
  rcases c_nameOf h a b with ⟨no, e1⟩ | ⟨e, k, x, e3, hk, rfl, rfl, e1, L, v, L1, L6, v1, v2, v3, rfl, y⟩
  · refine Al_rd h (-1) ?_ ?_
    · rw [q_X11_letter, tg_6 hS, if_pos rfl, e1, zbI_e, if_pos rfl]
    · by_cases q2 : 0 ≤ a ∧ a ≤ 2
      · have hm : ∃ e, e < 3 ∧ a = nI e := by
          rcases pk_ix a (n := 3) (by omega) with z | z | ⟨m, hm, e⟩
          · exact absurd z (Int32.not_lt.mpr q2.1)
          · exfalso
            have q3 := q2.2
            have e2 : (2 : Int32).toInt = 2 := by decide
            rw [Int32.le_iff_toInt_le] at z q3
            rw [nI_toInt (by omega)] at z
            omega
          · exact ⟨m, hm, e⟩
        obtain ⟨e, he, rfl⟩ := hm
        rw [go e he b, if_neg]
        intro q
        rcases rng_no b (N := kn N M K e) (by have := (kd e he).1; omega) with z | ⟨k, hk, rfl⟩
        · exact z q
        · exact no ⟨e, k, he, hk, rfl, rfl⟩
      · rw [q_X12_letter, r2, if_neg q2, zbI_e, if_pos rfl]
  · have hv31 : v * 27 ^ (6 - L) < 2 ^ 31 := Nat.lt_trans (lt_bd v2 ⟨L1, L6⟩) (by decide)
    have hv : v < 2 ^ 31 := Nat.lt_of_le_of_lt (Nat.le_mul_of_pos_right _ (Nat.pow_pos (by omega))) hv31
    have v0 : 0 < v := Nat.lt_of_lt_of_le (Nat.pow_pos (by omega)) v1
    have x0 : ¬ nI (v * 27 ^ (6 - L)) = 0 := nI_ne0 (Nat.mul_pos v0 (Nat.pow_pos (by omega))) hv31
    have k8 := (kd e e3).1
    have gr : zM 238 [.ref 176, .int (nI e), .int (nI k), .int d] σ = zR 2 238 20 [some (.ref 176), some (.int (nI e)), some (.int (nI k)), some (.int d), none, none, none, none, none] [] σ := by
      rw [go e e3, if_pos (rng_ok hk (by omega))]
    have gc : zM 123 [.ref 6, .int (nI e), .int (nI k), .int d] σ = zbI (zM 92 [.int (nI (v * 27 ^ (6 - L))), .int d] σ) (fun x2 σ2 => some (some (.int x2), σ2)) := by
      rw [q_X11_letter, tg_6 hS, if_pos rfl, e1, zbI_e, if_neg x0]
    rcases lt_six d with q | ⟨i, hi, rfl⟩
    · refine Al_rd h (-1) ?_ ?_
      · rw [gc, q_X10_letterOf]
        rcases q with q | q
        · rw [if_pos q, zbI_e]
        · by_cases q0 : d < 0
          · rw [if_pos q0, zbI_e]
          · rw [if_neg q0, if_pos (show (6 : Int32) ≤ d from q), zbI_e]
      · rw [gr, q_X12_letter_20, r5, if_neg, zbI_e, if_pos rfl]
        rintro ⟨z1, z2⟩
        rcases q with q | q
        · exact absurd q (Int32.not_lt.mpr z1)
        · have e5 : (5 : Int32).toInt = 5 := by decide
          rw [Int32.le_iff_toInt_le] at z2 q
          rw [nI_toInt (by omega)] at q
          omega
    · refine Al_rd h (nI (if i < L then v / 27 ^ (L - 1 - i) % 27 else 0)) ?_ ?_
      · have ep : plc i = 27 ^ (5 - i) := by
          have : ∀ i, i < 6 → plc i = 27 ^ (5 - i) := by decide
          exact this i hi
        have pb : 27 ^ (5 - i) < 2 ^ 31 := by
          have : ∀ i, i < 6 → 27 ^ (5 - i) < 2 ^ 31 := by decide
          exact this i hi
        have p0 : 0 < 27 ^ (5 - i) := Nat.pow_pos (by omega)
        have dle := Nat.div_le_self (v * 27 ^ (6 - L)) (27 ^ (5 - i))
        rw [gc, q_X10_letterOf, if_neg (nI_pos (by omega)), if_neg (show ¬ (6 : Int32) ≤ nI i from nI_ge (b := 6) hi (by omega)), if_pos (ai_nI (.inr (sh_tg1 hS)) (sh_ln1 hS) hi (by omega)), ixn (by omega), sh_pl hS hi, ep, if_neg (nI_ne0 p0 pb), pk_div hv31 p0 pb, show (27 : Int32) = nI 27 from rfl, pk_rem (by omega) (by omega) (by omega), zbI_e, lt_pw v2 ⟨L1, L6⟩ hi]
      · have z5 : (0 : Int32) ≤ nI i ∧ nI i ≤ 5 := ⟨nI_pos' (by omega), nI_le (b := 5) (by omega) (by omega)⟩
        have ex : (24 : Int32) + 8 * nI e + nI k = nI (24 + 8 * e + k) := by
          rw [nI_mulL 8 e, nI_addL 24 (8 * e), nI_add]
        rw [gr, q_X12_letter_20, r5, if_pos z5, zbI_e, if_neg (by decide), tg_176 hS, if_pos rfl, gR_176_46 hS, zeR_e, ex, if_pos (ai_nI (.inl (tg_213 hS)) (ln_213 hS) (show 24 + 8 * e + k < 48 by omega) (by omega)), ixn (by omega), y, r_l43 hv v1 v2 ⟨L1, L6⟩ hi]
        by_cases q : i < L
        · rw [if_pos q, if_pos q, r_l62 hv ⟨L1, L6⟩ q]
        · rw [if_neg q, if_neg q]
          rfl
end
