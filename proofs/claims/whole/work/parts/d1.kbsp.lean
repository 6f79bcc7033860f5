/-! the best box: pure -/
def stq (s : Nat → Int32) (z b : Nat) : Nat → Bool
  | 0 => true
  | e + 1 => stq s z b e && (decide (b / 2 ^ e % 2 = 0) || decide (1 ≤ s (z + e - 32)))
def okb (s : Nat → Int32) (z b : Nat) : Bool := (decide (1 ≤ b) && decide (b < 32)) && (decide (pc b ≤ 3) && bz z b 5 && stq s z b 5)
def cls (ok : Nat → Bool) (v : Nat → Int) : Nat → Nat
  | 0 => 0
  | i + 1 => if ok (i + 1) = true then (if cls ok v i = 0 then i + 1 else if v (cls ok v i) < v (i + 1) then i + 1 else if v (i + 1) = v (cls ok v i) ∧ pc (i + 1) < pc (cls ok v i) then i + 1 else cls ok v i) else cls ok v i
def rps (ok : Nat → Bool) (v : Nat → Int) (n s : Nat) : Nat → Nat
  | 0 => s
  | i + 1 => if pc (i + 1) = n ∧ ok (i + 1) = true then (if rps ok v n s i = 0 then i + 1 else if v (rps ok v n s i) < v (i + 1) then i + 1 else rps ok v n s i) else rps ok v n s i
def rrs (ok : Nat → Bool) (v : Nat → Int) : Nat → Nat
  | 0 => 0
  | n + 1 => rps ok v (n + 1) (rrs ok v n) 31
/-- x is the first of the best of D -/
def Opt (D : Nat → Prop) (ok : Nat → Bool) (v : Nat → Int) (x : Nat) : Prop := (x = 0 ∧ ∀ y, D y → ok y = true → False) ∨ (D x ∧ ok x = true ∧ x ≠ 0 ∧ ∀ y, D y → ok y = true → v y < v x ∨ (v y = v x ∧ (pc x < pc y ∨ (pc x = pc y ∧ x ≤ y))))
section
variable {ok : Nat → Bool} {v : Nat → Int} {D E : Nat → Prop} {x y n s i : Nat}
theorem Opt_one (h : Opt D ok v x) (h' : Opt D ok v y) : x = y := by
  rcases h with ⟨h1, h2⟩ | ⟨h1, h2, h3, h4⟩
  · rcases h' with ⟨g1, g2⟩ | ⟨g1, g2, g3, g4⟩
    · omega
    · exact absurd g2 (fun z => h2 y g1 z)
  · rcases h' with ⟨g1, g2⟩ | ⟨g1, g2, g3, g4⟩
    · exact absurd h2 (fun z => g2 x h1 z)
    · have a := h4 y g1 g2
      have b := g4 x h1 h2
      omega
theorem Opt_iff (h : Opt D ok v x) (hE : ∀ y, ok y = true → (D y ↔ E y)) : Opt E ok v x := by
  rcases h with ⟨h1, h2⟩ | ⟨h1, h2, h3, h4⟩
  · exact .inl ⟨h1, fun y hy ho => h2 y ((hE y ho).mpr hy) ho⟩
  · exact .inr ⟨(hE x h2).mp h1, h2, h3, fun y hy ho => h4 y ((hE y ho).mpr hy) ho⟩
theorem cls_opt : ∀ i, Opt (fun y => 1 ≤ y ∧ y ≤ i) ok v (cls ok v i) := by
  intro i
  induction i with
  | zero => exact .inl ⟨rfl, fun y hy _ => by omega⟩
  | succ i ih =>
    show Opt _ ok v (if ok (i + 1) = true then (if cls ok v i = 0 then i + 1 else if v (cls ok v i) < v (i + 1) then i + 1 else if v (i + 1) = v (cls ok v i) ∧ pc (i + 1) < pc (cls ok v i) then i + 1 else cls ok v i) else cls ok v i)
    generalize cls ok v i = x at ih
    by_cases q : ok (i + 1) = true
    · rw [if_pos q]
      by_cases q0 : x = 0
      · rw [if_pos q0]
        refine .inr ⟨by omega, q, by omega, fun y hy ho => ?_⟩
        rcases ih with ⟨_, g2⟩ | ⟨_, _, g3, _⟩
        · by_cases z : y = i + 1
          · subst z; exact .inr ⟨rfl, .inr ⟨rfl, Nat.le_refl _⟩⟩
          · exact absurd ho (fun w => g2 y (by omega) w)
        · exact absurd q0 g3
      · rw [if_neg q0]
        rcases ih with ⟨g1, _⟩ | ⟨g1, g2, g3, g4⟩
        · exact absurd g1 q0
        · by_cases q1 : v x < v (i + 1)
          · rw [if_pos q1]
            refine .inr ⟨by omega, q, by omega, fun y hy ho => ?_⟩
            by_cases z : y = i + 1
            · subst z; exact .inr ⟨rfl, .inr ⟨rfl, Nat.le_refl _⟩⟩
            · have := g4 y (by omega) ho
              omega
          · rw [if_neg q1]
            by_cases q2 : v (i + 1) = v x ∧ pc (i + 1) < pc x
            · rw [if_pos q2]
              refine .inr ⟨by omega, q, by omega, fun y hy ho => ?_⟩
              by_cases z : y = i + 1
              · subst z; exact .inr ⟨rfl, .inr ⟨rfl, Nat.le_refl _⟩⟩
              · have := g4 y (by omega) ho
                omega
            · rw [if_neg q2]
              refine .inr ⟨by omega, g2, g3, fun y hy ho => ?_⟩
              by_cases z : y = i + 1
              · subst z; omega
              · exact g4 y (by omega) ho
    · rw [if_neg q]
      refine Opt_iff ih (fun y ho => ?_)
      by_cases z : y = i + 1
      · subst z; exact absurd ho q
      · omega
theorem rps_opt (h0 : Opt (fun y => 1 ≤ y ∧ y ≤ 31 ∧ pc y < n) ok v s) : ∀ i, i ≤ 31 → Opt (fun y => 1 ≤ y ∧ y ≤ 31 ∧ (pc y < n ∨ (pc y = n ∧ y ≤ i))) ok v (rps ok v n s i) := by
  intro i
  induction i with
  | zero => intro _; exact Opt_iff h0 (fun y _ => by omega)
  | succ i ih =>
    intro hi
    have ih := ih (by omega)
    show Opt _ ok v (if pc (i + 1) = n ∧ ok (i + 1) = true then (if rps ok v n s i = 0 then i + 1 else if v (rps ok v n s i) < v (i + 1) then i + 1 else rps ok v n s i) else rps ok v n s i)
    generalize rps ok v n s i = x at ih
    by_cases q : pc (i + 1) = n ∧ ok (i + 1) = true
    · rw [if_pos q]
      obtain ⟨qn, q⟩ := q
      by_cases q0 : x = 0
      · rw [if_pos q0]
        refine .inr ⟨by omega, q, by omega, fun y hy ho => ?_⟩
        rcases ih with ⟨_, g2⟩ | ⟨_, _, g3, _⟩
        · by_cases z : y = i + 1
          · subst z; exact .inr ⟨rfl, .inr ⟨rfl, Nat.le_refl _⟩⟩
          · exact absurd ho (fun w => g2 y (by omega) w)
        · exact absurd q0 g3
      · rw [if_neg q0]
        rcases ih with ⟨g1, _⟩ | ⟨g1, g2, g3, g4⟩
        · exact absurd g1 q0
        · by_cases q1 : v x < v (i + 1)
          · rw [if_pos q1]
            refine .inr ⟨by omega, q, by omega, fun y hy ho => ?_⟩
            by_cases z : y = i + 1
            · subst z; exact .inr ⟨rfl, .inr ⟨rfl, Nat.le_refl _⟩⟩
            · have := g4 y (by omega) ho
              omega
          · rw [if_neg q1]
            refine .inr ⟨by omega, g2, g3, fun y hy ho => ?_⟩
            by_cases z : y = i + 1
            · subst z; omega
            · exact g4 y (by omega) ho
    · rw [if_neg q]
      refine Opt_iff ih (fun y ho => ?_)
      by_cases z : y = i + 1
      · subst z
        have : pc (i + 1) ≠ n := fun w => q ⟨w, ho⟩
        omega
      · omega
theorem rrs_opt (hk : ∀ y, ok y = true → 1 ≤ pc y) : ∀ n, Opt (fun y => 1 ≤ y ∧ y ≤ 31 ∧ pc y < n + 1) ok v (rrs ok v n) := by
  intro n
  induction n with
  | zero => exact .inl ⟨rfl, fun y hy ho => by have := hk y ho; omega⟩
  | succ n ih => exact Opt_iff (rps_opt ih 31 (by omega)) (fun y _ => by omega)
theorem cls_rrs (hk : ∀ y, ok y = true → 1 ≤ pc y ∧ pc y ≤ 3) : cls ok v 31 = rrs ok v 3 :=
  Opt_one (cls_opt 31) (Opt_iff (rrs_opt (fun y ho => (hk y ho).1) 3) (fun y ho => by have := hk y ho; omega))
theorem cls_in : ∀ i, cls ok v i = 0 ∨ (1 ≤ cls ok v i ∧ cls ok v i ≤ i ∧ ok (cls ok v i) = true) := by
  intro i
  rcases cls_opt (ok := ok) (v := v) i with ⟨h, _⟩ | ⟨h1, h2, _⟩
  · exact .inl h
  · exact .inr ⟨h1.1, h1.2, h2⟩
theorem rps_in (h0 : s = 0 ∨ (1 ≤ s ∧ s ≤ 31 ∧ ok s = true)) : ∀ i, i ≤ 31 → rps ok v n s i = 0 ∨ (1 ≤ rps ok v n s i ∧ rps ok v n s i ≤ 31 ∧ ok (rps ok v n s i) = true) := by
  intro i
  induction i with
  | zero => intro _; exact h0
  | succ i ih =>
    intro hi
    have ih := ih (by omega)
    show (if _ then _ else _) = 0 ∨ _
    by_cases q : pc (i + 1) = n ∧ ok (i + 1) = true
    · have e : rps ok v n s (i + 1) = i + 1 ∨ rps ok v n s (i + 1) = rps ok v n s i := by
        show (if _ then _ else _) = _ ∨ (if _ then _ else _) = _
        rw [if_pos q]
        split
        · exact .inl rfl
        · split
          · exact .inl rfl
          · exact .inr rfl
      rcases e with e | e
      · exact .inr (by rw [e]; exact ⟨by omega, by omega, q.2⟩)
      · show rps ok v n s (i + 1) = 0 ∨ _
        rw [e]; exact ih
    · have e : rps ok v n s (i + 1) = rps ok v n s i := by
        show (if _ then _ else _) = _
        rw [if_neg q]
      show rps ok v n s (i + 1) = 0 ∨ _
      rw [e]; exact ih
theorem rrs_in : ∀ n, rrs ok v n = 0 ∨ (1 ≤ rrs ok v n ∧ rrs ok v n ≤ 31 ∧ ok (rrs ok v n) = true)
  | 0 => .inl rfl
  | n + 1 => rps_in (rrs_in n) 31 (by omega)
theorem okb_pc {s : Nat → Int32} {z b : Nat} (h : okb s z b = true) : (1 ≤ b ∧ b < 32) ∧ pc b ≤ 3 ∧ bz z b 5 = true ∧ stq s z b 5 = true := by
  unfold okb at h
  simp only [Bool.and_eq_true, decide_eq_true_eq] at h
  exact ⟨h.1, h.2.1.1, h.2.1.2, h.2.2⟩
theorem okb_of {s : Nat → Int32} {z b : Nat} (h1 : 1 ≤ b) (h2 : b < 32) : okb s z b = ((decide (pc b ≤ 3) && bz z b 5) && stq s z b 5) := by
  unfold okb
  rw [decide_eq_true h1, decide_eq_true h2, Bool.true_and, Bool.true_and]
theorem pc_pos : ∀ b, b < 32 → 1 ≤ b → 1 ≤ pc b := by decide +kernel
theorem pc_lt5 (b : Nat) : pc b ≤ 5 := by unfold pc; omega
theorem okb_cr (s : Nat → Int32) (z : Nat) (v : Nat → Int) : cls (okb s z) v 31 = rrs (okb s z) v 3 := cls_rrs (fun y ho => by
  have := okb_pc ho
  exact ⟨pc_pos y this.1.2 this.1.1, this.2.1⟩)
end
