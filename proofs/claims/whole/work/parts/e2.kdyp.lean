/-! days: counting -/
def fC (D : Nat) (d : Nat → Nat) : Nat → Nat
  | 0 => 0
  | k + 1 => if D < d k then fC D d k + 1 else fC D d k
def fA (D : Nat) (d a : Nat → Nat) : Nat → Nat → Nat
  | 0 => a
  | k + 1 => if D < d k then apn (fA D d a k) (fC D d k) (a k) else fA D d a k
def fD (D : Nat) (d : Nat → Nat) : Nat → Nat → Nat
  | 0 => d
  | k + 1 => if D < d k then apn (fD D d k) (fC D d k) (d k) else fD D d k
section
variable {a d : Nat → Nat} {D n k w l t c : Nat}
theorem cnt_add {p q r : Nat → Prop} [DecidablePred p] [DecidablePred q] [DecidablePred r] : ∀ n, (∀ i, i < n → ((r i ↔ p i ∨ q i) ∧ ¬ (p i ∧ q i))) → cnt (fun i => decide (r i)) n = cnt (fun i => decide (p i)) n + cnt (fun i => decide (q i)) n
  | 0, _ => rfl
  | n + 1, h => by
    show cnt (fun i => decide (r i)) n + (if decide (r n) = true then 1 else 0) = cnt (fun i => decide (p i)) n + (if decide (p n) = true then 1 else 0) + (cnt (fun i => decide (q i)) n + (if decide (q n) = true then 1 else 0))
    have h1 := cnt_add (p := p) (q := q) (r := r) n (fun i hi => h i (by omega))
    have h2 := h n (by omega)
    simp only [decide_eq_true_eq]
    by_cases x : p n
    · have y : ¬ q n := fun y => h2.2 ⟨x, y⟩
      have z : r n := h2.1.mpr (.inl x)
      rw [if_pos x, if_neg y, if_pos z]
      omega
    · by_cases y : q n
      · have z : r n := h2.1.mpr (.inr y)
        rw [if_neg x, if_pos y, if_pos z]
        omega
      · have z : ¬ r n := fun z => (h2.1.mp z).elim x y
        rw [if_neg x, if_neg y, if_neg z]
        omega
theorem cnt_iff {p q : Nat → Prop} [DecidablePred p] [DecidablePred q] (n : Nat) (h : ∀ i, i < n → (p i ↔ q i)) : cnt (fun i => decide (p i)) n = cnt (fun i => decide (q i)) n := cnt_congr n (fun i hi => decide_eq_decide.mpr (h i hi))
theorem cnt_none {p : Nat → Prop} [DecidablePred p] : ∀ n, (∀ i, i < n → ¬ p i) → cnt (fun i => decide (p i)) n = 0
  | 0, _ => rfl
  | n + 1, h => by
    show cnt (fun i => decide (p i)) n + (if decide (p n) = true then 1 else 0) = 0
    rw [cnt_none n (fun i hi => h i (by omega)), decide_eq_false (h n (by omega)), if_neg (by decide)]
theorem cnt_zero {p : Nat → Prop} [DecidablePred p] : ∀ n, cnt (fun i => decide (p i)) n = 0 → ∀ i, i < n → ¬ p i
  | 0, _, i, hi => by omega
  | n + 1, h, i, hi => by
    have h : cnt (fun i => decide (p i)) n + (if decide (p n) = true then 1 else 0) = 0 := h
    rcases Nat.lt_or_ge i n with q | q
    · exact cnt_zero n (by omega) i q
    · have e : i = n := by omega
      subst e
      intro x
      rw [decide_eq_true x, if_pos rfl] at h
      omega
theorem cnt_le {p : Nat → Bool} : ∀ n, cnt p n ≤ n
  | 0 => Nat.le_refl _
  | n + 1 => by
    have := cnt_le (p := p) n
    show cnt p n + (if p n = true then 1 else 0) ≤ n + 1
    split <;> omega
theorem cnt_pl {p : Nat → Prop} [DecidablePred p] (n : Nat) : ∀ i, smN (fun l => cnt (fun k => decide (p k ∧ a k = l)) n) i = cnt (fun k => decide (p k ∧ a k < i)) n
  | 0 => by
    rw [cnt_none (p := fun k => p k ∧ a k < 0) n (fun i _ x => by omega)]
    rfl
  | i + 1 => by
    show smN (fun l => cnt (fun k => decide (p k ∧ a k = l)) n) i + cnt (fun k => decide (p k ∧ a k = i)) n = _
    rw [cnt_pl n i]
    refine (cnt_add (p := fun k => p k ∧ a k < i) (q := fun k => p k ∧ a k = i) (r := fun k => p k ∧ a k < i + 1) n (fun j _ => ⟨⟨fun x => ?_, fun x => ?_⟩, fun x => ?_⟩)).symm
    · rcases Nat.lt_or_ge (a j) i with q | q
      · exact .inl ⟨x.1, q⟩
      · exact .inr ⟨x.1, by omega⟩
    · rcases x with x | x
      · exact ⟨x.1, by omega⟩
      · exact ⟨x.1, by omega⟩
    · omega
theorem fC_cnt : ∀ k, fC D d k = cnt (fun i => decide (D < d i)) k
  | 0 => rfl
  | k + 1 => by
    show (if D < d k then fC D d k + 1 else fC D d k) = cnt (fun i => decide (D < d i)) k + (if decide (D < d k) = true then 1 else 0)
    rw [fC_cnt k]
    by_cases q : D < d k
    · rw [if_pos q, decide_eq_true q, if_pos rfl]
    · rw [if_neg q, decide_eq_false q, if_neg (by decide)]
      rfl
theorem fC_le : ∀ k, fC D d k ≤ k := fun k => by rw [fC_cnt]; exact cnt_le k
theorem f_cnt : ∀ k, cnt (fun j => decide (fA D d a k j = l) && decide (fD D d k j % 7 = w)) (fC D d k) = cnt (fun i => decide (D < d i ∧ a i = l ∧ d i % 7 = w)) k
  | 0 => rfl
  | k + 1 => by
    by_cases q : D < d k
    · have e1 : fA D d a (k + 1) = apn (fA D d a k) (fC D d k) (a k) := by show (if _ then _ else _) = _; rw [if_pos q]
      have e2 : fD D d (k + 1) = apn (fD D d k) (fC D d k) (d k) := by show (if _ then _ else _) = _; rw [if_pos q]
      have e3 : fC D d (k + 1) = fC D d k + 1 := by show (if _ then _ else _) = _; rw [if_pos q]
      rw [e1, e2, e3, cnt_apn, f_cnt k]
      show _ = cnt (fun i => decide (D < d i ∧ a i = l ∧ d i % 7 = w)) k + (if decide (D < d k ∧ a k = l ∧ d k % 7 = w) = true then 1 else 0)
      by_cases q2 : a k = l ∧ d k % 7 = w
      · rw [if_pos q2, decide_eq_true ⟨q, q2⟩, if_pos rfl]
      · rw [if_neg q2, decide_eq_false (fun x => q2 x.2), if_neg (by decide)]
    · have e1 : fA D d a (k + 1) = fA D d a k := by show (if _ then _ else _) = _; rw [if_neg q]
      have e2 : fD D d (k + 1) = fD D d k := by show (if _ then _ else _) = _; rw [if_neg q]
      have e3 : fC D d (k + 1) = fC D d k := by show (if _ then _ else _) = _; rw [if_neg q]
      rw [e1, e2, e3, f_cnt k]
      show _ = cnt (fun i => decide (D < d i ∧ a i = l ∧ d i % 7 = w)) k + (if decide (D < d k ∧ a k = l ∧ d k % 7 = w) = true then 1 else 0)
      rw [decide_eq_false (fun x => q x.1), if_neg (by decide)]
      rfl
theorem f_bd {N L : Nat} (h : ∀ i, i < L → a i < N ∧ d i ≤ D + 7) : ∀ k, k ≤ L → ∀ j, j < fC D d k → fA D d a k j < N ∧ D < fD D d k j ∧ fD D d k j ≤ D + 7
  | 0, _, j, hj => by
    have : j < 0 := hj
    omega
  | k + 1, hk, j, hj => by
    have ih := f_bd h k (by omega)
    have hk' := h k (by omega)
    by_cases q : D < d k
    · have e1 : fA D d a (k + 1) = apn (fA D d a k) (fC D d k) (a k) := by show (if _ then _ else _) = _; rw [if_pos q]
      have e2 : fD D d (k + 1) = apn (fD D d k) (fC D d k) (d k) := by show (if _ then _ else _) = _; rw [if_pos q]
      have e3 : fC D d (k + 1) = fC D d k + 1 := by show (if _ then _ else _) = _; rw [if_pos q]
      rw [e1, e2]
      unfold apn
      by_cases q2 : j = fC D d k
      · rw [if_pos q2, if_pos q2]; omega
      · rw [if_neg q2, if_neg q2]; exact ih j (by omega)
    · have e1 : fA D d a (k + 1) = fA D d a k := by show (if _ then _ else _) = _; rw [if_neg q]
      have e2 : fD D d (k + 1) = fD D d k := by show (if _ then _ else _) = _; rw [if_neg q]
      have e3 : fC D d (k + 1) = fC D d k := by show (if _ then _ else _) = _; rw [if_neg q]
      rw [e1, e2]
      rw [e3] at hj
      exact ih j hj
end
