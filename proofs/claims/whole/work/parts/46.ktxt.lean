/-! texts: bytes, kinds of bytes, runs of a kind -/
theorem sI_same (σ : zS) (r j : Nat) (a b : Int32) : sI (sI σ r j a) r j b = sI σ r j b := by
  unfold sI
  simp only
  congr 2
  funext r' j'
  split <;> rfl
theorem sI_id (σ : zS) (r j : Nat) : sI σ r j (gI σ r j) = σ := by
  obtain ⟨k, i, l, q⟩ := σ
  unfold sI gI
  simp only
  congr 2
  funext r' j'
  split
  · rename_i h; rw [h.1, h.2]
  · rfl
theorem sI_comm (σ : zS) {r j r2 j2 : Nat} (a b : Int32) (h : ¬ (r = r2 ∧ j = j2)) : sI (sI σ r j a) r2 j2 b = sI (sI σ r2 j2 b) r j a := by
  unfold sI
  simp only
  congr 2
  funext r' j'
  by_cases h1 : r' = r2 ∧ j' = j2
  · by_cases h2 : r' = r ∧ j' = j
    · exact absurd ⟨h2.1.symm.trans h1.1, h2.2.symm.trans h1.2⟩ h
    · simp [h1, h2]
      intro q1 q2
      exact absurd ⟨q1.symm, q2.symm⟩ h
  · simp [h1]
theorem Ke.gI {E : List Nat} {σ σ' : zS} (h : Ke E σ σ') {r t j : Nat} (ht : tg σ r = t) (h0 : t ≠ 0) (hE : E.elem (wc t j) = false) : gI σ' r j = gI σ r j := (h.2 r j (tg_lt ht h0) (by rw [ht]; exact hE)).1
theorem Ke.gL {E : List Nat} {σ σ' : zS} (h : Ke E σ σ') {r t j : Nat} (ht : tg σ r = t) (h0 : t ≠ 0) (hE : E.elem (wc t j) = false) : gL σ' r j = gL σ r j := (h.2 r j (tg_lt ht h0) (by rw [ht]; exact hE)).2.1
theorem Ke.gR {E : List Nat} {σ σ' : zS} (h : Ke E σ σ') {r t j : Nat} (ht : tg σ r = t) (h0 : t ≠ 0) (hE : E.elem (wc t j) = false) : gR σ' r j = gR σ r j := (h.2 r j (tg_lt ht h0) (by rw [ht]; exact hE)).2.2
/-- a byte as the class keeps it -/
def sb (c : Nat) : Int32 := if c < 128 then nI c else nI c - 256
theorem sb_toInt {c : Nat} (h : c < 256) : (sb c).toInt = if c < 128 then (c : Int) else (c : Int) - 256 := by
  unfold sb
  split
  · exact nI_toInt (by omega)
  · exact pk_sub_toInt (b := 256) (by omega) (by omega)
/-- 1 a letter, 2 a digit, 3 a sign, 5 a blank -/
def kO (c : Nat) : Nat := if 97 ≤ c ∧ c ≤ 122 then 1 else if 48 ≤ c ∧ c ≤ 57 then 2 else if c = 10 ∨ c = 32 then 5 else 3
theorem s_kindOf {c : Nat} (h : c < 256) (σ : zS) : zM 98 [.int (sb c)] σ = some (some (.int (nI (kO c))), σ) := by
  rw [q_X10_kindOf]
  have hT := sb_toInt h
  have e1 : (97 : Int32).toInt = 97 := rfl
  have e2 : (48 : Int32).toInt = 48 := rfl
  have e3 : (57 : Int32).toInt = 57 := rfl
  have e4 : (122 : Int32).toInt = 122 := rfl
  have e5 : (10 : Int32).toInt = 10 := rfl
  have e6 : (32 : Int32).toInt = 32 := rfl
  simp only [Int32.lt_iff_toInt_lt, ← Int32.toInt_inj, hT, e1, e2, e3, e4, e5, e6]
  unfold kO
  repeat' split
  all_goals first | rfl | omega
def ru (t : Nat → Nat) (n k i : Nat) : Nat := if i < n ∧ kO (t i) = k then ru t n k (i + 1) else i
termination_by n - i
section
variable {t : Nat → Nat} {n k : Nat}
theorem ru_stop {i : Nat} (h : ¬ (i < n ∧ kO (t i) = k)) : ru t n k i = i := by rw [ru, if_neg h]
theorem ru_step {i : Nat} (h : i < n ∧ kO (t i) = k) : ru t n k i = ru t n k (i + 1) := by rw [ru, if_pos h]
theorem ru_ind (P : Nat → Prop) (h0 : ∀ i, ¬ (i < n ∧ kO (t i) = k) → P i) (h1 : ∀ i, i < n ∧ kO (t i) = k → P (i + 1) → P i) : ∀ i, P i := by
  have : ∀ m i, n - i ≤ m → P i := by
    intro m
    induction m with
    | zero => intro i hi; exact h0 i (by omega)
    | succ m ih =>
      intro i hi
      by_cases h : i < n ∧ kO (t i) = k
      · exact h1 i h (ih (i + 1) (by omega))
      · exact h0 i h
  exact fun i => this (n - i) i (Nat.le_refl _)
theorem ru_ge (i : Nat) : i ≤ ru t n k i := by
  refine ru_ind (t := t) (n := n) (k := k) (fun i => i ≤ ru t n k i) ?_ ?_ i
  · intro i h; rw [ru_stop h]; exact Nat.le_refl _
  · intro i h ih; rw [ru_step h]; omega
theorem ru_le {i : Nat} (hi : i ≤ n) : ru t n k i ≤ n := by
  refine ru_ind (t := t) (n := n) (k := k) (fun i => i ≤ n → ru t n k i ≤ n) ?_ ?_ i hi
  · intro i h hi; rw [ru_stop h]; exact hi
  · intro i h ih hi; rw [ru_step h]; exact ih h.1
theorem ru_end (i : Nat) : ¬ (ru t n k i < n ∧ kO (t (ru t n k i)) = k) := by
  refine ru_ind (t := t) (n := n) (k := k) (fun i => ¬ (ru t n k i < n ∧ kO (t (ru t n k i)) = k)) ?_ ?_ i
  · intro i h; rw [ru_stop h]; exact h
  · intro i h ih; rw [ru_step h]; exact ih
theorem ru_in (i : Nat) : ∀ j, i ≤ j → j < ru t n k i → kO (t j) = k := by
  refine ru_ind (t := t) (n := n) (k := k) (fun i => ∀ j, i ≤ j → j < ru t n k i → kO (t j) = k) ?_ ?_ i
  · intro i h j h1 h2; rw [ru_stop h] at h2; omega
  · intro i h ih j h1 h2
    rw [ru_step h] at h2
    rcases Nat.eq_or_lt_of_le h1 with e | e
    · rw [← e]; exact h.2
    · exact ih j e h2
theorem ru_id (i : Nat) : ru t n k (ru t n k i) = ru t n k i := ru_stop (ru_end i)
end
