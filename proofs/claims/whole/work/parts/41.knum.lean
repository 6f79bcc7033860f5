/-! numbers -/
theorem lit_nI (n : Nat) : (OfNat.ofNat n : Int32) = nI n := rfl
theorem nI_addL (n k : Nat) : (OfNat.ofNat n : Int32) + nI k = nI (n + k) := by rw [lit_nI, nI_add]
theorem nI_addR (n k : Nat) : nI k + (OfNat.ofNat n : Int32) = nI (k + n) := by rw [lit_nI, nI_add]
theorem nI_mulL (n k : Nat) : (OfNat.ofNat n : Int32) * nI k = nI (n * k) := by rw [lit_nI, pk_mul]
theorem nI_mulR (n k : Nat) : nI k * (OfNat.ofNat n : Int32) = nI (k * n) := by rw [lit_nI, pk_mul]
theorem nI_subR {n k : Nat} (h : n ≤ k) : nI k - (OfNat.ofNat n : Int32) = nI (k - n) := by rw [lit_nI, pk_sub h]
theorem nI_leL {n k : Nat} (hn : n < 2 ^ 31) (hk : k < 2 ^ 31) : ((OfNat.ofNat n : Int32) ≤ nI k) = (n ≤ k) := by rw [lit_nI, nI_leI hn hk]
theorem nI_leR {n k : Nat} (hn : n < 2 ^ 31) (hk : k < 2 ^ 31) : (nI k ≤ (OfNat.ofNat n : Int32)) = (k ≤ n) := by rw [lit_nI, nI_leI hk hn]
theorem nI_ltL {n k : Nat} (hn : n < 2 ^ 31) (hk : k < 2 ^ 31) : ((OfNat.ofNat n : Int32) < nI k) = (n < k) := by rw [lit_nI, nI_ltI hn hk]
theorem nI_ltR {n k : Nat} (hn : n < 2 ^ 31) (hk : k < 2 ^ 31) : (nI k < (OfNat.ofNat n : Int32)) = (k < n) := by rw [lit_nI, nI_ltI hk hn]
theorem nI_eqL {n k : Nat} (hn : n < 2 ^ 31) (hk : k < 2 ^ 31) : ((OfNat.ofNat n : Int32) = nI k) = (n = k) := by rw [lit_nI, nI_eq hn hk]
theorem nI_eqR {n k : Nat} (hn : n < 2 ^ 31) (hk : k < 2 ^ 31) : (nI k = (OfNat.ofNat n : Int32)) = (k = n) := by rw [lit_nI, nI_eq hk hn]
theorem ix_nI {n : Nat} (h : n < 2 ^ 31) : (nI n).toNatClampNeg = n := nI_clamp h
theorem ai_nI {σ : zS} {t u r n k : Nat} (ht : tg σ r = t ∨ tg σ r = u) (hl : ln σ r = n) (hk : k < n) (hn : n < 2 ^ 31) : ai σ t u r (nI k) = true := by
  unfold ai
  rw [hl, nI_toInt (by omega)]
  simp
  exact ⟨ht, hk⟩
theorem ai_lit {σ : zS} {t u r n k : Nat} (ht : tg σ r = t ∨ tg σ r = u) (hl : ln σ r = n) (hk : k < n) (hn : n < 2 ^ 31) : ai σ t u r (OfNat.ofNat k) = true := ai_nI ht hl hk hn
theorem cmp_lt {x y : Int64} : (lg_cmp x y < 0) = (x < y) := by
  unfold lg_cmp
  rcases Int.lt_trichotomy x.toInt y.toInt with h | h | h
  · have h1 : x < y := Int64.lt_iff_toInt_lt.mpr h
    have h2 : ¬ x > y := by intro q; have := Int64.lt_iff_toInt_lt.mp q; omega
    have h3 : ¬ x = y := by intro q; rw [q] at h; omega
    simp [h2, h3, h1]
  · have h0 : x = y := Int64.toInt_inj.mp h
    subst h0
    have h2 : ¬ x < x := by intro q; have := Int64.lt_iff_toInt_lt.mp q; omega
    simp [h2]
  · have h1 : y < x := Int64.lt_iff_toInt_lt.mpr h
    have h2 : ¬ x < y := by intro q; have := Int64.lt_iff_toInt_lt.mp q; omega
    simp [h1, h2]
theorem cmp_gt {x y : Int64} : (0 < lg_cmp x y) = (y < x) := by
  unfold lg_cmp
  rcases Int.lt_trichotomy x.toInt y.toInt with h | h | h
  · have h2 : ¬ y < x := by intro q; have := Int64.lt_iff_toInt_lt.mp q; omega
    have h3 : ¬ x = y := by intro q; rw [q] at h; omega
    simp [h2, h3]
  · have h0 : x = y := Int64.toInt_inj.mp h
    subst h0
    have h2 : ¬ x < x := by intro q; have := Int64.lt_iff_toInt_lt.mp q; omega
    simp [h2]
  · have h1 : y < x := Int64.lt_iff_toInt_lt.mpr h
    simp [h1]
theorem cmp_eq {x y : Int64} : (lg_cmp x y = 0) = (x = y) := by
  unfold lg_cmp
  by_cases h1 : x > y
  · have h3 : ¬ x = y := by intro q; rw [q] at h1; have := Int64.lt_iff_toInt_lt.mp h1; omega
    simp [h1, h3]
  · by_cases h2 : x = y
    · simp [h1, h2]
    · simp [h1, h2]
theorem cmp_le {x y : Int64} : (lg_cmp x y ≤ 0) = (x ≤ y) := by
  have h := cmp_gt (x := x) (y := y)
  have e1 : (lg_cmp x y ≤ 0) = ¬ (0 < lg_cmp x y) := by simp [Int32.not_lt]
  rw [e1, h]
  simp [Int64.not_lt]
theorem cmp_ge {x y : Int64} : (0 ≤ lg_cmp x y) = (y ≤ x) := by
  have h := cmp_lt (x := x) (y := y)
  have e1 : (0 ≤ lg_cmp x y) = ¬ (lg_cmp x y < 0) := by simp [Int32.not_lt]
  rw [e1, h]
  simp [Int64.not_lt]
/-- a condition as the int that a method returns -/
def bI (b : Bool) : Int32 := if b then 1 else 0
theorem bI_0 (b : Bool) : (bI b = 0) = (b = false) := by cases b <;> simp [bI]
theorem bI_fit (b : Bool) : zfit 4 (bI b) = true := by cases b <;> rfl
theorem bI_t : bI true = 1 := rfl
theorem bI_f : bI false = 0 := rfl
