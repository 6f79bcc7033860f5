/-! the first memory has all that stands between two calls -/
def zWa : List (Nat × Nat × Int32) := rW (pW 20 (cW []))
def zKg : List (Nat × Nat) := rK (zKf ++ [(13, 98)])
def zRg : List (Nat × Nat × Nat) := rR zRf
/-- the script's cell -/
def W0 (L : Nat) (xs : Nat → Int32) (σ : zS) : Prop := σ.1[0]? = some (48, L) ∧ ∀ j, gI σ 0 j = xs j
section
variable {σ : zS} {L : Nat} {xs : Nat → Int32} {fo : Option Nat}
theorem pW_app (W : List (Nat × Nat × Int32)) : ∀ i, pW i W = pW i [] ++ W
  | 0 => rfl
  | i + 1 => by
    show (116 + 3 * i, 7, -1) :: (116 + 3 * i, 5, -1) :: pW i W = ((116 + 3 * i, 7, -1) :: (116 + 3 * i, 5, -1) :: pW i []) ++ W
    rw [pW_app W i]
    rfl
theorem pW_ap2 (A W : List (Nat × Nat × Int32)) (i : Nat) : pW i (A ++ W) = pW i A ++ W := by
  rw [pW_app (A ++ W) i, pW_app A i, List.append_assoc]
set_option maxRecDepth 100000 in
theorem rW_app (W : List (Nat × Nat × Int32)) : rW W = rW [] ++ W := rfl
set_option maxRecDepth 100000 in
theorem cW_app (W : List (Nat × Nat × Int32)) : cW W = cW [] ++ W := rfl
theorem zW_all : rW zWf = zWa ++ owV 174 := by
  unfold zWf zWa
  rw [cW_app (owV 174), pW_ap2, rW_app (pW 20 (cW []) ++ owV 174), rW_app (pW 20 (cW [])), List.append_assoc]
theorem lkI_cut : ∀ (A B : List (Nat × Nat × Int32)) (r j : Nat), (∀ e, e ∈ B → e.1 ≠ r) → lkI (A ++ B) r j = lkI A r j
  | [], B, r, j, h => lkI_no B r j h
  | e :: A, B, r, j, h => by
    show (if r = e.1 ∧ j = e.2.1 then e.2.2 else lkI (A ++ B) r j) = if r = e.1 ∧ j = e.2.1 then e.2.2 else lkI A r j
    rw [lkI_cut A B r j h]
theorem lkI_low : ∀ (A B : List (Nat × Nat × Int32)) (r j : Nat), (∀ e, e ∈ A → e.1 ≠ r) → lkI (A ++ B) r j = lkI B r j
  | [], B, r, j, h => rfl
  | e :: A, B, r, j, h => by
    show (if r = e.1 ∧ j = e.2.1 then e.2.2 else lkI (A ++ B) r j) = lkI B r j
    rw [if_neg (fun y => h e (List.mem_cons_self ..) y.1.symm)]
    exact lkI_low A B r j (fun e' q => h e' (List.mem_cons_of_mem _ q))
theorem owV_89 : ∀ i e, e ∈ owV i → e.1 = 8 ∨ e.1 = 9
  | 0, e, h => by
    rcases List.mem_cons.mp h with rfl | h
    · exact .inl rfl
    · rcases List.mem_cons.mp h with rfl | h
      · exact .inl rfl
      · exact absurd h (List.not_mem_nil)
  | i + 1, e, h => by
    have ih := owV_89 i e
    by_cases q1 : zTx.getD i 0 = 32
    · rw [show owV (i + 1) = owV i from if_pos q1] at h
      exact ih h
    · by_cases q2 : 6 ≤ (owP i).2
      · rw [show owV (i + 1) = owV i from (if_neg q1).trans (if_pos q2)] at h
        exact ih h
      · rw [show owV (i + 1) = (9, (owP i).1, lkI (owV i) 9 (owP i).1 + ((zTx.getD i 0 - 97) + 1) * zPl.getD (owP i).2 0) :: owV i from (if_neg q1).trans (if_neg q2)] at h
        rcases List.mem_cons.mp h with rfl | h
        · exact .inr rfl
        · exact ih h
set_option maxRecDepth 100000 in
theorem zKg_eq : zKg = zK0 := by decide +kernel
set_option maxRecDepth 100000 in
theorem zF_ok : ∀ e ∈ zF0, 6 ≤ e.1 ∧ lkR zRg e.1 e.2.1 = some e.2.2 := by decide +kernel
set_option maxRecDepth 100000 in
theorem zE_ok : ∀ e ∈ zE0, 6 ≤ e.1 ∧ lkR zRg e.1 e.2.1 = some e.2.2 := by decide +kernel
set_option maxRecDepth 100000 in
theorem zR_13 : ∀ k, k < 3 → lkR zRg 13 k = none := by decide +kernel
set_option maxRecDepth 100000 in
theorem zR_65 : lkR zRg 6 5 = some 16 ∧ lkR zRg 6 6 = some 60 := by decide +kernel
set_option maxRecDepth 100000 in
theorem zW_no : ∀ r ∈ [7, 9, 177, 20, 23, 222, 236, 227, 214, 223, 21, 16, 110], ∀ e ∈ zWa, e.1 ≠ r := by decide +kernel
set_option maxRecDepth 100000 in
theorem zW_6 : lkI zWa 6 1 = 0 ∧ lkI zWa 6 7 = 0 ∧ lkI zWa 6 8 = -1 ∧ lkI zWa 6 10 = 0 ∧ lkI zWa 6 11 = 0 := by decide +kernel
set_option maxRecDepth 100000 in
theorem zW_176 : lkI zWa 176 1 = 0 ∧ lkI zWa 176 7 = 0 ∧ lkI zWa 176 8 = -1 ∧ lkI zWa 176 70 = 0 ∧ lkI zWa 176 82 = 0 ∧ lkI zWa 176 83 = 0 ∧ lkI zWa 176 84 = 0 ∧ lkI zWa 176 97 = 0 := by decide +kernel
set_option maxRecDepth 100000 in
theorem zW_wd : ∀ w, w < 35 → ∀ i, i < (wL w).length → lkI zWa (178 + w) i = nI ((wL w).getD i 0) := by decide +kernel
set_option maxRecDepth 100000 in
theorem zW_own : ∀ i, i < 35 → lkI (owV 174) 9 i = nI (ownL.getD i 0) := by decide +kernel
theorem first (h : BS L xs fo 253 (rK (zKf ++ [(13, 98)])) (rW zWf) (rR zRf) σ) : RR (zsl σ) σ 0 16 60 0 0 0 0 (fun _ => 0) 0 ∧ W0 L xs σ := by
  have gr : ∀ r j, 6 ≤ r → gR σ r j = lkR zRg r j := fun r j hr => h.gr hr j
  have gi : ∀ r j, 6 ≤ r → r ≠ 8 → r ≠ 9 → gI σ r j = lkI zWa r j := fun r j h1 h2 h3 => by
    rw [h.gi h1 j, zW_all]
    exact lkI_cut _ _ r j (fun e he => by have := owV_89 174 e he; omega)
  have g0 : ∀ r ∈ [7, 9, 177, 20, 23, 222, 236, 227, 214, 223, 21, 16, 110], r ≠ 9 → 6 ≤ r → ∀ j, gI σ r j = 0 := fun r hr h9 h6 j => by
    rw [gi r j h6 (fun y => by rw [y] at hr; exact absurd hr (by decide)) h9]
    exact lkI_no zWa r j (fun e he => zW_no r hr e he)
  have g9 : ∀ i, i < 35 → gI σ 9 i = nI (ownL.getD i 0) := fun i hi => by
    rw [h.gi (by omega) i, zW_all, lkI_low _ _ 9 i (fun e he => zW_no 9 (by decide) e he)]
    exact zW_own i hi
  have g7 : ∀ j, gI σ 7 j = 0 := g0 7 (by decide) (by omega) (by omega)
  have g177 : ∀ j, gI σ 177 j = 0 := g0 177 (by decide) (by omega) (by omega)
  have g20 : ∀ j, gI σ 20 j = 0 := g0 20 (by decide) (by omega) (by omega)
  have g23 : ∀ j, gI σ 23 j = 0 := g0 23 (by decide) (by omega) (by omega)
  have g222 : ∀ j, gI σ 222 j = 0 := g0 222 (by decide) (by omega) (by omega)
  have g236 : ∀ j, gI σ 236 j = 0 := g0 236 (by decide) (by omega) (by omega)
  have g227 : ∀ j, gI σ 227 j = 0 := g0 227 (by decide) (by omega) (by omega)
  have g214 : ∀ j, gI σ 214 j = 0 := g0 214 (by decide) (by omega) (by omega)
  have g223 : ∀ j, gI σ 223 j = 0 := g0 223 (by decide) (by omega) (by omega)
  have g21 : ∀ j, gI σ 21 j = 0 := g0 21 (by decide) (by omega) (by omega)
  have g16 : ∀ j, gI σ 16 j = 0 := g0 16 (by decide) (by omega) (by omega)
  have g110 : ∀ j, gI σ 110 j = 0 := g0 110 (by decide) (by omega) (by omega)
  obtain ⟨a1, a7, a8, a10, a11⟩ := zW_6
  obtain ⟨b1, b7, b8, b70, b82, b83, b84, b97⟩ := zW_176
  have e6 : ∀ j v, lkI zWa 6 j = v → gI σ 6 j = v := fun j v q => (gi 6 j (by omega) (by omega) (by omega)).trans q
  have e176 : ∀ j v, lkI zWa 176 j = v → gI σ 176 j = v := fun j v q => (gi 176 j (by omega) (by omega) (by omega)).trans q
  have z0 : (0 : Int32) = nI 0 := rfl
  have sh : Sh σ := by
    refine ⟨⟨L, [], ?_⟩, fun e he => ?_, fun e he => ?_, fun j _ => (h.2.1 1 j (by omega)).1⟩
    · rw [h.1.1, List.append_nil]
      exact congrArg (fun x => zpre L ++ x) zKg_eq
    · rw [gr _ _ (zF_ok e he).1]
      exact (zF_ok e he).2
    · rw [gr _ _ (zE_ok e he).1]
      exact (zE_ok e he).2
  have len : σ.1.length = 253 := h.sz'
  refine ⟨⟨sh, ⟨.inl rfl, .inr rfl, rfl, ?_, ?_⟩, ⟨by omega, fun _ => show 0 < 256 by omega, fun j => ?_, fun j _ => ?_, ?_, ?_⟩, ⟨g9, fun w hw i hi => ?_⟩, ⟨?_, ?_⟩, ⟨⟨⟨?_, by omega, ?_⟩, ⟨?_, by omega, ?_⟩, ⟨?_, by omega, ?_⟩⟩, ⟨⟨0, by omega, ?_, ?_⟩, ⟨0, by omega, ?_, ?_⟩⟩, ⟨0, by omega, ?_, ?_⟩, ⟨fun _ => 0, fun d _ => ⟨show 0 ≤ 100 by omega, ?_, ?_⟩⟩, fun k hk => absurd hk (by omega), fun k hk => absurd hk (by omega), fun k hk => absurd hk (by omega), fun k hk => absurd hk (by omega), fun k hk => absurd hk (by omega), fun j hj => absurd hj (by omega)⟩, ⟨0, 0, by omega, by omega, ?_, ?_, ?_, ?_, fun _ => 0, fun _ => 0, fun k hk => absurd hk (by omega), fun w _ l _ => ?_⟩, ⟨by omega, ?_, ?_⟩, fun p hp => absurd hp (by omega), ⟨0, by omega, ?_, ?_, fun j hj => absurd hj (by omega)⟩, ⟨?_, 0, by omega, ?_, ?_⟩, fun k hk => .inl ⟨?_, ?_⟩, ⟨by omega, by omega, fun p _ => ⟨0, by omega, ?_⟩⟩⟩, ?_, fun j => (h.2.1 0 j (by omega)).1⟩
  · rw [gr _ _ (by omega)]; exact zR_65.1
  · rw [gr _ _ (by omega)]; exact zR_65.2
  · rw [g7]; rfl
  · rw [g177]; rfl
  · exact e6 1 _ a1
  · exact e176 1 _ b1
  · rw [gi _ _ (by omega) (by omega) (by omega)]; exact zW_wd w hw i hi
  · rw [e6 7 _ a7, e176 7 _ b7]
  · rw [e6 8 _ a8, e176 8 _ b8]
  · rw [g16]; rfl
  · rw [g214]; rfl
  · rw [g16]; rfl
  · rw [g214]; rfl
  · rw [g16]; rfl
  · rw [g214]; rfl
  · rw [g16]; rfl
  · rw [g223]; rfl
  · rw [g16]; rfl
  · rw [g223]; rfl
  · rw [g16]; rfl
  · rw [g223]; rfl
  · exact g20 d
  · exact g222 _
  · exact g21 3
  · exact e176 82 _ b82
  · exact g21 2
  · exact e176 84 _ b84
  · exact g23 _
  · exact e6 10 _ a10
  · exact e176 70 _ b70
  · exact g110 1
  · exact e176 97 _ b97
  · rw [e6 11 _ a11, e176 83 _ b83]
  · exact h.2.2.2.1 6 12
  · exact h.2.2.2.1 176 95
  · rw [gr _ _ (by omega)]; exact zR_13 k hk
  · exact g227 k
  · exact g236 p
  · rw [h.1.1]
    rfl
theorem law_start (L : Nat) (xs : Nat → Int32) (fo : Option Nat) : ∃ σ, zM 338 [.ref 0] (zs0 L xs fo) = zR 87 338 10 [some (.ref 0), some (.ref 6), some (.ref 176), some (.int (nI (6 * 0)))] [] σ ∧ RR (zsl σ) σ 0 16 60 0 0 0 0 (fun _ => 0) 0 ∧ W0 L xs σ ∧ zsl σ ≤ zsl (zs0 L xs fo) + 100000 := by
  have h0 := b_0 L xs fo
  have z0 : Jvm.Pilot.@@N@@.sz (zs0 L xs fo) = 6 := h0.sz
  have h1 : BS L xs fo 7 [(12, 19)] [] [] (sN (zs0 L xs fo) 12 19) := h0.wN 12 19
  obtain ⟨s2, e2, h2⟩ := b_X11 h1 (kdNn h0 12 19)
  have z2 : Jvm.Pilot.@@N@@.sz s2 = 176 := h2.sz
  have h3 : BS L xs fo 177 (zKf ++ [(13, 98)]) zWf zRf (sN s2 13 98) := h2.wN 13 98
  obtain ⟨s4, e4, h4⟩ := b_X12 h3 (kdNn h2 13 98)
  obtain ⟨f1, f2⟩ := first h4
  refine ⟨s4, ?_, f1, f2, ?_⟩
  · rw [q_L_law, zln_e, zlt_e, z0, e2, zbV_e, zln_e, zlt_e, z2, e4, zbV_e]
    rfl
  · unfold zsl
    rw [h4.1.1]
    show ((zpre L ++ zKg).map (fun q => q.2)).sum ≤ ((zpre L).map (fun q => q.2)).sum + 100000
    rw [List.map_append, List.sum_append, zKg_eq]
    have : (zK0.map (fun q => q.2)).sum ≤ 100000 := by decide +kernel
    omega
end
