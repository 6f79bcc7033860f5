/-! what a run leaves alone, cell by cell -/
def Un (X : Nat → Nat → Prop) (σ σ' : zS) : Prop := σ'.1 = σ.1 ∧ (∀ r j, 6 ≤ r → r < 253 → (j < 100 ∨ 32 ≤ tg σ r) → ¬ X r j → gI σ' r j = gI σ r j ∧ gL σ' r j = gL σ r j ∧ gR σ' r j = gR σ r j) ∧ ∀ r j, 253 ≤ r → tg σ r = 32 → gI σ' r j = gI σ r j
theorem tg_of1 {σ σ' : zS} (h : σ'.1 = σ.1) (r : Nat) : tg σ' r = tg σ r := by unfold tg kd; rw [h]
theorem ln_of1 {σ σ' : zS} (h : σ'.1 = σ.1) (r : Nat) : ln σ' r = ln σ r := by unfold ln kd; rw [h]
section
variable {σ σ1 σ2 : zS} {X Y : Nat → Nat → Prop}
theorem Un.refl (X : Nat → Nat → Prop) (σ : zS) : Un X σ σ := ⟨rfl, fun _ _ _ _ _ _ => ⟨rfl, rfl, rfl⟩, fun _ _ _ _ => rfl⟩
theorem Un.trans (h : Un X σ σ1) (h2 : Un X σ1 σ2) : Un X σ σ2 := by
  refine ⟨h2.1.trans h.1, fun r j a b c d => ?_, fun r j a b => ?_⟩
  · obtain ⟨e1, e2, e3⟩ := h.2.1 r j a b c d
    obtain ⟨f1, f2, f3⟩ := h2.2.1 r j a b (by rw [tg_of1 h.1]; exact c) d
    exact ⟨f1.trans e1, f2.trans e2, f3.trans e3⟩
  · rw [h2.2.2 r j a (by rw [tg_of1 h.1]; exact b), h.2.2 r j a b]
theorem Un.mono (h : Un X σ σ1) (hXY : ∀ r j, 6 ≤ r → r < 253 → X r j → Y r j) : Un Y σ σ1 := ⟨h.1, fun r j a b c d => h.2.1 r j a b c (fun q => d (hXY r j a b q)), h.2.2⟩
theorem Un.t2 (h : Un X σ σ1) (h2 : Un Y σ1 σ2) {Z : Nat → Nat → Prop} (hX : ∀ r j, 6 ≤ r → r < 253 → X r j → Z r j) (hY : ∀ r j, 6 ≤ r → r < 253 → Y r j → Z r j) : Un Z σ σ2 := (h.mono hX).trans (h2.mono hY)
theorem Un_sI {r j : Nat} {v : Int32} (h : X r j) (hr : r < 253 := by omega) : Un X σ (sI σ r j v) := ⟨rfl, fun r' j' _ _ _ d => ⟨by
  rw [gI_sI, if_neg]
  intro q
  exact d (by rw [q.1, q.2]; exact h), rfl, rfl⟩, fun r' j' a _ => by rw [gI_sI, if_neg (by omega)]⟩
theorem Un_sL {r j : Nat} {v : Int64} (h : X r j) : Un X σ (sL σ r j v) := ⟨rfl, fun r' j' _ _ _ d => ⟨rfl, by
  rw [gL_sL, if_neg]
  intro q
  exact d (by rw [q.1, q.2]; exact h), rfl⟩, fun r' j' a _ => rfl⟩
theorem Un_sR {r j : Nat} {v : Option Nat} (h : X r j) : Un X σ (sR σ r j v) := ⟨rfl, fun r' j' _ _ _ d => ⟨rfl, rfl, by
  rw [gR_sR, if_neg]
  intro q
  exact d (by rw [q.1, q.2]; exact h)⟩, fun r' j' a _ => rfl⟩
theorem Un.i (h : Un X σ σ1) {r j : Nat} (a : 6 ≤ r) (b : r < 253) (c : j < 100) (d : ¬ X r j) : gI σ1 r j = gI σ r j := (h.2.1 r j a b (.inl c) d).1
theorem Un.l (h : Un X σ σ1) {r j : Nat} (a : 6 ≤ r) (b : r < 253) (c : j < 100) (d : ¬ X r j) : gL σ1 r j = gL σ r j := (h.2.1 r j a b (.inl c) d).2.1
theorem Un.r (h : Un X σ σ1) {r j : Nat} (a : 6 ≤ r) (b : r < 253) (c : j < 100) (d : ¬ X r j) : gR σ1 r j = gR σ r j := (h.2.1 r j a b (.inl c) d).2.2
theorem Un.iA (h : Un X σ σ1) {r j : Nat} (a : 6 ≤ r) (b : r < 253) (c : 32 ≤ tg σ r) (d : ¬ X r j) : gI σ1 r j = gI σ r j := (h.2.1 r j a b (.inr c) d).1
theorem Un.lA (h : Un X σ σ1) {r j : Nat} (a : 6 ≤ r) (b : r < 253) (c : 32 ≤ tg σ r) (d : ¬ X r j) : gL σ1 r j = gL σ r j := (h.2.1 r j a b (.inr c) d).2.1
/-- the tag of a standing cell -/
def zT (r : Nat) : Nat := (zK0.getD (r - 6) (0, 0)).1
theorem tg_zT (h : Sh σ) {r : Nat} (h6 : 6 ≤ r) (hr : r < 253) : tg σ r = zT r := by
  have hl : r - 6 < zK0.length := by have : zK0.length = 247 := by decide +kernel
                                     omega
  unfold zT
  rw [List.getD_eq_getElem?_getD, List.getElem?_eq_getElem hl]
  exact h.tg (n := zK0[r - 6].2) h6 hr (by rw [List.getElem?_eq_getElem hl]; rfl)
/-- a method that writes fields of one class alone, of which there is one object -/
theorem Un_ke {E : List Nat} (hS : Sh σ) (h1 : σ1.1 = σ.1) (h : Ke E σ σ1) {t c : Nat} (hE : E.all (fun q => Nat.ble (100 * t) q && Nat.blt q (100 * t + 100)) = true) (h100 : 100 * t + 100 ≤ 10000) (hc : ∀ r, r < 247 → decide (zT (r + 6) = t) = true → r + 6 = c) : Un (fun r j => r = c ∧ E.elem (100 * t + j) = true) σ σ1 := by
  refine ⟨h1, fun r j a b cc d => ?_, fun r j a h32 => ?_⟩
  · have hlt : r < σ.1.length := by
      obtain ⟨⟨L, K, hK⟩, -⟩ := hS
      rw [hK]
      have e : zK0.length = 247 := by decide +kernel
      simp only [List.length_append, e]
      have : (zpre L).length = 6 := rfl
      omega
    refine h.2 r j hlt ?_
    cases hq : E.elem (wc (tg σ r) j) with
    | false => rfl
    | true =>
      exfalso
      have hm := List.all_eq_true.mp hE _ (List.elem_iff.mp hq)
      simp only [Bool.and_eq_true, Nat.ble_eq, Nat.blt_eq] at hm
      have ht : tg σ r = zT r := tg_zT hS a b
      rcases Nat.lt_or_ge (tg σ r) 32 with q | q
      · rw [wc_obj q] at hm
        rcases cc with cc | cc
        · apply d
          have h0 : tg σ r = t := by omega
          have h1 : zT (r - 6 + 6) = t := by
            rw [show r - 6 + 6 = r by omega, ← ht]
            exact h0
          have := hc (r - 6) (by omega) (by rw [h1]; simp)
          rw [h0, wc_obj (by omega)] at hq
          exact ⟨by omega, hq⟩
        · omega
      · rw [wc_arr q] at hm
        omega
  · refine (h.2 r j (tg_lt h32 (by decide)) ?_).1
    rw [wc_arr (by omega)]
    cases hq : E.elem (10000 + tg σ r) with
    | false => rfl
    | true =>
      exfalso
      have hm := List.all_eq_true.mp hE _ (List.elem_iff.mp hq)
      simp only [Bool.and_eq_true, Nat.ble_eq, Nat.blt_eq] at hm
      omega
theorem one11 : ∀ r, r < 247 → decide (zT (r + 6) = 11) = true → r + 6 = 8 := by decide +kernel
theorem one13 : ∀ r, r < 247 → decide (zT (r + 6) = 13) = true → r + 6 = 176 := by decide +kernel
/-- the class's readers of tokens touch nothing but the tokens -/
theorem Un_tok {m : Nat} {args : List Value} {v : Option Value} (hS : Sh σ) (h : zM m args σ = some (v, σ1)) (hq : zq m = true) (hE : (eff m).all (fun q => Nat.ble (100 * 11) q && Nat.blt q (100 * 11 + 100)) = true) (hA : al m = false := by decide) : Un (fun r _ => r = 8) σ σ1 := (Un_ke hS (zM_na hA h) (zM_ke h) hE (by decide) one11).mono (fun _ _ _ _ q => q.1)
/-- the fields of the reference that its readers of words and numbers touch -/
def XL (r j : Nat) : Prop := r = 176 ∧ (j = 2 ∨ j = 4 ∨ j = 5 ∨ j = 6 ∨ j = 9 ∨ j = 45)
theorem Un_ref {m : Nat} {args : List Value} {v : Option Value} (hS : Sh σ) (h : zM m args σ = some (v, σ1)) (hq : zq m = true) (hE : (eff m).all (fun q => [1302, 1304, 1305, 1306, 1309, 1345].elem q) = true) (hA : al m = false := by decide) : Un XL σ σ1 := by
  have hE2 : (eff m).all (fun q => Nat.ble (100 * 13) q && Nat.blt q (100 * 13 + 100)) = true := by
    refine List.all_eq_true.mpr (fun q hq => ?_)
    have := List.all_eq_true.mp hE q hq
    have : q = 1302 ∨ q = 1304 ∨ q = 1305 ∨ q = 1306 ∨ q = 1309 ∨ q = 1345 := by simpa using this
    rcases this with rfl | rfl | rfl | rfl | rfl | rfl <;> rfl
  refine (Un_ke hS (zM_na hA h) (zM_ke h) hE2 (by decide) one13).mono (fun r j _ _ q => ⟨q.1, ?_⟩)
  have := List.all_eq_true.mp hE _ (List.elem_iff.mp q.2)
  have : 1300 + j = 1302 ∨ 1300 + j = 1304 ∨ 1300 + j = 1305 ∨ 1300 + j = 1306 ∨ 1300 + j = 1309 ∨ 1300 + j = 1345 := by simpa using this
  omega
end
section
variable {t : Nat → Nat} {n : Nat} {σ σ1 : zS} {st : lx}
theorem CS_sI {r j : Nat} {v : Int32} (h : CS σ t n st) (h1 : r ≠ 1) (h7 : r ≠ 7) (h8 : r ≠ 8) (h9 : r ≠ 9) : CS (sI σ r j v) t n st := by
  obtain ⟨hT, ho, h⟩ := h
  have g8 : ∀ j', gI (sI σ r j v) 8 j' = gI σ 8 j' := fun j' => by rw [gI_sI, if_neg (by omega)]
  refine ⟨TC_sI hT h1 h7 h9 (by omega), ho, ?_⟩
  match st, h with
  | .inl (s, e), h =>
    obtain ⟨⟨d1, d2, d3, d4, d5⟩, a, b⟩ := h
    refine ⟨⟨?_, ?_, ?_, ?_, ?_⟩, ?_, ?_⟩ <;> simp only [g8] <;> assumption
  | .inr (f, p), h =>
    refine ⟨?_, ?_, ?_⟩ <;> simp only [g8]
    · exact h.1
    · exact h.2.1
    · exact h.2.2
theorem RC_sI {r j : Nat} {v : Int32} (h : RC σ t n) (h1 : 213 ≤ r) : RC (sI σ r j v) t n := by
  obtain ⟨hS, hn, hc, htx, h3, hw⟩ := h
  refine ⟨hS.sI (by omega), hn, hc, fun i hi => ?_, ?_, fun w hw1 i hi => ?_⟩
  · rw [gI_sI, if_neg (by omega)]; exact htx i hi
  · rw [gI_sI, if_neg (by omega)]; exact h3
  · rw [gI_sI, if_neg (by omega)]; exact hw w hw1 i hi
theorem RS_sI {r j : Nat} {v : Int32} (h : RS σ t n st) (h1 : 213 ≤ r) : RS (sI σ r j v) t n st := by
  obtain ⟨hR, ho, h⟩ := h
  have g8 : ∀ j', gI (sI σ r j v) 176 j' = gI σ 176 j' := fun j' => by rw [gI_sI, if_neg (by omega)]
  refine ⟨RC_sI hR h1, ho, ?_⟩
  match st, h with
  | .inl (s, e), h => simp only [g8]; exact h
  | .inr (f, p), h => simp only [g8]; exact h
theorem RS_sL {r j : Nat} {v : Int64} (h : RS σ t n st) : RS (sL σ r j v) t n st := h
/-- a field of the reference that the reading doesn't know -/
theorem RS_f {j : Nat} {v : Int32} (h : RS σ t n st) (h1 : j ≠ 2 ∧ j ≠ 3 ∧ j ≠ 4 ∧ j ≠ 5 ∧ j ≠ 6) : RS (sI σ 176 j v) t n st := by
  obtain ⟨hR, ho, h⟩ := h
  have g8 : ∀ j', j' = 2 ∨ j' = 4 ∨ j' = 5 ∨ j' = 6 → gI (sI σ 176 j v) 176 j' = gI σ 176 j' := fun j' q => by rw [gI_sI, if_neg (by omega)]
  refine ⟨RC_at hR h1.2.1, ho, ?_⟩
  match st, h with
  | .inl (s, e), h =>
    rw [g8 2 (by omega), g8 4 (by omega), g8 5 (by omega), g8 6 (by omega)]; exact h
  | .inr (f, p), h =>
    rw [g8 5 (by omega), g8 6 (by omega)]; exact h
theorem bad_live {s e : Nat} (h : RS σ t n (.inl (s, e))) : gI σ 176 5 = 0 := h.2.2.2.2.1
end
