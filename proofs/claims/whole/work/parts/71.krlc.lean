/-! the class's rules: ranks, codes that are put -/
theorem bif_lt {γ : Type} {a b : Nat} (h : a < b) (x y : γ) : (bif Nat.blt a b then x else y) = x := by
  rw [show Nat.blt a b = true from by rw [Nat.blt_eq]; exact h]
  rfl
section
variable {r o : Nat}
theorem rk56 (h : o < 2 ^ 31) : zrk 56 [.ref r, .int (nI o)] = 12 + 10 * (7 - o) := by
  show 12 + 10 * (7 - ix (nI o)) = _
  rw [ixn h]
theorem rk57 (h : o < 2 ^ 31) : zrk 57 [.ref r, .int (nI o)] = 11 + 10 * (7 - o) := by
  show 11 + 10 * (7 - ix (nI o)) = _
  rw [ixn h]
theorem rk58 (h : o < 2 ^ 31) : zrk 58 [.ref r, .int (nI o)] = 10 + 10 * (7 - o) := by
  show 10 + 10 * (7 - ix (nI o)) = _
  rw [ixn h]
theorem rk60 (h : o < 2 ^ 31) : zrk 60 [.ref r, .int (nI o)] = 9 + 10 * (7 - o) := by
  show 9 + 10 * (7 - ix (nI o)) = _
  rw [ixn h]
theorem rk61 (h : o < 2 ^ 31) : zrk 61 [.ref r, .int (nI o)] = 8 + 10 * (7 - o) := by
  show 8 + 10 * (7 - ix (nI o)) = _
  rw [ixn h]
theorem rk62 (h : o < 2 ^ 31) : zrk 62 [.ref r, .int (nI o)] = 7 + 10 * (7 - o) := by
  show 7 + 10 * (7 - ix (nI o)) = _
  rw [ixn h]
theorem rk63 (h : o < 2 ^ 31) : zrk 63 [.ref r, .int (nI o)] = 6 + 10 * (7 - o) := by
  show 6 + 10 * (7 - ix (nI o)) = _
  rw [ixn h]
theorem rk64 (h : o < 2 ^ 31) (x : Int32) : zrk 64 [.ref r, .int (nI o), .int x] = 5 + 10 * (7 - o) := by
  show 5 + 10 * (7 - ix (nI o)) = _
  rw [ixn h]
theorem rk53 (x : List Value) : zrk 53 x = 1 := rfl
theorem rk59 (x : List Value) : zrk 59 x = 3 := rfl
theorem rk97 (x : List Value) : zrk 97 x = 2 := rfl
theorem rk102 (x : List Value) : zrk 102 x = 1 := rfl
theorem rk103 (x : List Value) : zrk 103 x = 1 := rfl
theorem rk104 (x : List Value) : zrk 104 x = 1 := rfl
theorem rk105 (x : List Value) : zrk 105 x = 2 := rfl
theorem rk107 (x : List Value) : zrk 107 x = 2 := rfl
theorem rk109 (x : List Value) : zrk 109 x = 3 := rfl
theorem rk110 (x : List Value) : zrk 110 x = 3 := rfl
end
def cTab : List Int32 := [0, -1, -2, -3, -4, -5, -6, -20, -21, -22, -23, -7, -8, -9, -11, -10, -12, 1, -24, 0, 0, 0, 0, 0, 0, 0, 0, 0, 0, 0, -25, -26, -27]
/-- a code as the class has it -/
def cOf (c : Nat) : Int32 := if 20000 ≤ c then -40 - nI (c - 20000) else if 1000 ≤ c then nI (c - 1000) else cTab.getD c 0
/-- the class's draft -/
def DR (α : zS) (L : List Nat) : Prop := gI α 12 3 = nI L.length ∧ L.length ≤ 1600 ∧ ∀ i, i < L.length → gI α 14 i = cOf (L.getD i 0)
def XD (r j : Nat) : Prop := r = 8 ∨ (r = 12 ∧ j = 3) ∨ r = 14
/-- behind a step of the class: tokens, draft, nothing else -/
def CZ (t : Nat → Nat) (n : Nat) (α α' : zS) (st' : lx) (L : List Nat) : Prop := CS α' t n st' ∧ Un XD α α' ∧ (∃ k, k ≤ 1600 ∧ gI α' 12 3 = nI k) ∧ (lL st' = true → DR α' L)
section
variable {t : Nat → Nat} {n : Nat} {α α' α1 β β' γ : zS} {st st1 : lx} {L L1 : List Nat} {c : Nat}
theorem DR_un {X : Nat → Nat → Prop} (h : DR α L) (hS : Sh α) (u : Un X α α') (hX : ∀ j, ¬ X 14 j) (hX2 : ¬ X 12 3) : DR α' L := by
  obtain ⟨h1, h2, h3⟩ := h
  refine ⟨?_, h2, fun i hi => ?_⟩
  · rw [u.i (by omega) (by omega) (by omega) hX2]; exact h1
  · rw [u.iA (by omega) (by omega) (by rw [tg_14 hS]; omega) (hX i)]; exact h3 i hi
theorem getD_app (L : List Nat) (c i : Nat) (hi : i < L.length) : (L ++ [c]).getD i 0 = L.getD i 0 := by
  rw [List.getD_eq_getElem?_getD, List.getD_eq_getElem?_getD, List.getElem?_append_left hi]
theorem getD_end (L : List Nat) (c : Nat) : (L ++ [c]).getD L.length 0 = c := by
  rw [List.getD_eq_getElem?_getD, List.getElem?_append_right (Nat.le_refl _)]
  simp
theorem c_put (hS : Sh α) (h : DR α L) (hl : L.length < 1600) : zM 53 [.ref 12, .int (cOf c)] α = some (none, sI (sI α 14 L.length (cOf c)) 12 3 (nI (L.length + 1))) ∧ DR (sI (sI α 14 L.length (cOf c)) 12 3 (nI (L.length + 1))) (L ++ [c]) := by
  obtain ⟨h1, h2, h3⟩ := h
  constructor
  · rw [q_X6_put]
    simp -implicitDefEqProofs only [tg_sI, ln_sI, tg_sL, ln_sL, tg_sR, ln_sR, tg_sC, ln_sC, ai_sI, ai_sL, gL_sI, gR_sI, gI_sL, gR_sL, gI_sR, gL_sR, gI_sI, gL_sL, gR_sR, zlt_e, zln_e, zli_e, zll_e, zbI_e, zbL_e, zbR_e, zbV_e, zeR_e, zeN_s, zeN_n, Nat.reduceEqDiff, and_self, and_true, true_and, and_false, false_and, ite_true, ite_false, reduceIte, tg_12 hS, h1, gR_12_2 hS]
    rw [if_neg (show ¬ (1600 : Int32) ≤ nI L.length from nI_ge (b := 1600) hl (by omega)), if_pos (ai_nI (.inl (tg_14 hS)) (ln_14 hS) hl (by omega)), ixn (by omega), nI_1]
  · refine ⟨?_, ?_, fun i hi => ?_⟩
    · rw [gI_sI, if_pos ⟨rfl, rfl⟩, List.length_append]
      rfl
    · rw [List.length_append]
      show L.length + 1 ≤ 1600
      omega
    · rw [List.length_append] at hi
      have hi : i < L.length + 1 := hi
      rw [gI_sI, if_neg (by omega), gI_sI]
      by_cases q : i = L.length
      · rw [if_pos ⟨rfl, q⟩, q, getD_end]
      · rw [if_neg (by omega), getD_app _ _ _ (by omega)]
        exact h3 i (by omega)
theorem c_putD (hS : Sh α) (v : Int32) {k : Nat} (hk : k ≤ 1600) (h : gI α 12 3 = nI k) : ∃ α', zM 53 [.ref 12, .int v] α = some (none, α') ∧ Un XD α α' ∧ ∃ k', k' ≤ 1600 ∧ gI α' 12 3 = nI k' := by
  rw [q_X6_put]
  simp -implicitDefEqProofs only [tg_sI, ln_sI, tg_sL, ln_sL, tg_sR, ln_sR, tg_sC, ln_sC, ai_sI, ai_sL, gL_sI, gR_sI, gI_sL, gR_sL, gI_sR, gL_sR, gI_sI, gL_sL, gR_sR, zlt_e, zln_e, zli_e, zll_e, zbI_e, zbL_e, zbR_e, zbV_e, zeR_e, zeN_s, zeN_n, Nat.reduceEqDiff, and_self, and_true, true_and, and_false, false_and, ite_true, ite_false, reduceIte, tg_12 hS, h, gR_12_2 hS]
  by_cases q : k = 1600
  · rw [if_pos (show (1600 : Int32) ≤ nI k from nI_le (a := 1600) (by omega) (by omega))]
    exact ⟨α, rfl, Un.refl _ _, k, hk, h⟩
  · rw [if_neg (show ¬ (1600 : Int32) ≤ nI k from nI_ge (b := 1600) (by omega) (by omega)), if_pos (ai_nI (.inl (tg_14 hS)) (ln_14 hS) (show k < 1600 by omega) (by omega)), nI_1]
    refine ⟨_, rfl, (Un_sI (.inr (.inr rfl))).trans (Un_sI (.inr (.inl ⟨rfl, rfl⟩))), k + 1, by omega, ?_⟩
    rw [gI_sI, if_pos ⟨rfl, rfl⟩]
/-- a code put behind a step -/
theorem z_put (h : CZ t n α α1 st1 L) (hl : lL st1 = true → L.length < 1600) : ∃ α', zM 53 [.ref 12, .int (cOf c)] α1 = some (none, α') ∧ CZ t n α α' st1 (L ++ [c]) := by
  obtain ⟨h1, h2, ⟨k, hk, h3⟩, h4⟩ := h
  have hS := CS_sh h1
  by_cases q : lL st1 = true
  · obtain ⟨p1, p2⟩ := c_put (c := c) hS (h4 q) (hl q)
    refine ⟨_, p1, CS_sI (CS_sI h1 (by omega) (by omega) (by omega) (by omega)) (by omega) (by omega) (by omega) (by omega), h2.trans ((Un_sI (.inr (.inr rfl))).trans (Un_sI (.inr (.inl ⟨rfl, rfl⟩)))), ⟨_, p2.2.1, p2.1⟩, fun _ => p2⟩
  · obtain ⟨α', p1, p2, p3⟩ := c_putD hS (cOf c) hk h3
    refine ⟨α', p1, ?_, h2.trans p2, p3, fun z => absurd z q⟩
    have hk := zM_ke p1
    have hS' : Sh α' := zM_sh rfl hS p1
    have u : Un (fun r j => (r = 12 ∧ j = 3) ∨ r = 14) α1 α' := by
      rw [q_X6_put] at p1
      simp -implicitDefEqProofs only [tg_sI, ln_sI, tg_sL, ln_sL, tg_sR, ln_sR, tg_sC, ln_sC, ai_sI, ai_sL, gL_sI, gR_sI, gI_sL, gR_sL, gI_sR, gL_sR, gI_sI, gL_sL, gR_sR, zlt_e, zln_e, zli_e, zll_e, zbI_e, zbL_e, zbR_e, zbV_e, zeR_e, zeN_s, zeN_n, Nat.reduceEqDiff, and_self, and_true, true_and, and_false, false_and, ite_true, ite_false, reduceIte, tg_12 hS, h3, gR_12_2 hS] at p1
      split at p1
      · cases p1; exact Un.refl _ _
      · split at p1
        · cases p1
          exact (Un_sI (.inr rfl)).trans (Un_sI (.inl ⟨rfl, rfl⟩))
        · cases p1
    exact CS_un h1 hS' u (fun r j a b => by omega)
/-- a step of the tokens behind a step -/
theorem z_tok {m : Nat} {args : List Value} {v : Option Value} (h : CZ t n α α1 st L) (hq : zq m = true) (hE : (eff m).all (fun q => Nat.ble (100 * 11) q && Nat.blt q (100 * 11 + 100)) = true) (hm : zM m args α1 = some (v, α')) (hC : CS α' t n st1) (hl : lL st1 = true → lL st = true) (hA : al m = false := by decide) : CZ t n α α' st1 L := by
  obtain ⟨h1, h2, ⟨k, hk, h3⟩, h4⟩ := h
  have hS := CS_sh h1
  have u := Un_tok hS hm hq hE hA
  refine ⟨hC, h2.trans (u.mono (fun r j _ _ q => .inl q)), ⟨k, hk, ?_⟩, fun q => DR_un (h4 (hl q)) hS u (fun j => by omega) (by omega)⟩
  rw [u.i (by omega) (by omega) (by omega) (by omega)]; exact h3
theorem CZ_0 (hC : CS α t n st) (h : DR α L) : CZ t n α α st L := ⟨hC, Un.refl _ _, ⟨_, h.2.1, h.1⟩, fun _ => h⟩
theorem CZ_d (hC : CS α t n st) (h : ∃ k, k ≤ 1600 ∧ gI α 12 3 = nI k) (hd : ¬ lL st = true) (L : List Nat) : CZ t n α α st L := ⟨hC, Un.refl _ _, h, fun q => absurd q hd⟩
theorem CZ_t (h : CZ t n α α1 st L) (h2 : CZ t n α1 α' st1 L1) : CZ t n α α' st1 L1 := ⟨h2.1, h.2.1.trans h2.2.1, h2.2.2.1, h2.2.2.2⟩
theorem CZ_L (h : CZ t n α α1 st L) (e : lL st = true → L = L1) : CZ t n α α1 st L1 := ⟨h.1, h.2.1, h.2.2.1, fun q => by rw [← e q]; exact h.2.2.2 q⟩
theorem lG_live {st : lx} {g : Nat} (h : lL (lG t n g st) = true) : lL st = true := by
  match st, h with
  | .inl _, _ => rfl
  | .inr q, h =>
    unfold lG at h
    split at h <;> exact h
theorem la_live {st : lx} (h : lL (la t n st) = true) : lL st = true := by
  match st, h with
  | .inl _, _ => rfl
  | .inr q, h => exact h
/-- enter: a ( [ not that stands here -/
theorem c_enter {o : Nat} (ho : o ≤ 6) (hC : CS α t n st) (hw : lw t n st < 35 ∨ ls t n st < 256) : (o < 6 → ∃ α', zM 59 [.ref 12, .int (nI o)] α = some (some (.int 1), α') ∧ CS α' t n (la t n st) ∧ Un (fun r _ => r = 8) α α') ∧ (o = 6 → ∃ α', zM 59 [.ref 12, .int (nI o)] α = some (some (.int 0), α') ∧ CS α' t n (lf st 4 (lp st)) ∧ Un (fun r _ => r = 8) α α') := by
  have hS := CS_sh hC
  rw [q_X6_enter]
  simp -implicitDefEqProofs only [tg_sI, ln_sI, tg_sL, ln_sL, tg_sR, ln_sR, tg_sC, ln_sC, ai_sI, ai_sL, gL_sI, gR_sI, gI_sL, gR_sL, gI_sR, gL_sR, gI_sI, gL_sL, gR_sR, zlt_e, zln_e, zli_e, zll_e, zbI_e, zbL_e, zbR_e, zbV_e, zeR_e, zeN_s, zeN_n, Nat.reduceEqDiff, and_self, and_true, true_and, and_false, false_and, ite_true, ite_false, reduceIte, tg_12 hS, gR_12_0 hS, tg_8 hS]
  constructor
  · intro h
    have ha : ∃ α', zM 97 [.ref 8] α = some (none, α') ∧ CS α' t n (la t n st) := by
      rcases hw with q | q
      · exact c_advW hC q
      · exact c_advS hC q
    obtain ⟨α', a1, a2⟩ := ha
    rw [if_pos (show nI o < 6 from nI_lt (b := 6) h (by omega)), a1]
    exact ⟨α', rfl, a2, Un_tok hS a1 rfl (by decide +kernel)⟩
  · intro h
    obtain ⟨α', a1, a2⟩ := c_failHere hC (f := 4) (by decide) (by decide)
    have a1 : zM 107 [.ref 8, .int 4] α = some (none, α') := a1
    rw [if_neg (show ¬ nI o < 6 from nI_nlt (b := 6) (by omega) (by omega)), a1]
    exact ⟨α', rfl, a2, Un_tok hS a1 rfl (by decide +kernel)⟩
end
