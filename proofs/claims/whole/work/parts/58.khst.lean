/-! statements of a house, both at once: fare, wipe, fee, keeps -/
/-- the reference's working halves -/
def XW (r j : Nat) : Prop := (r = 213 ∧ j < 24) ∨ (r = 214 ∧ j < 3) ∨ (r = 215 ∧ j < 8) ∨ (r = 216 ∧ j < 24) ∨ (r = 217 ∧ j < 20) ∨ ((r = 218 ∨ r = 219 ∨ r = 220) ∧ j < 4) ∨ (r = 221 ∧ j < 30) ∨ (r = 222 ∧ j < 5) ∨ (r = 223 ∧ j < 3) ∨ (r = 224 ∧ j < 160)
def XR (r j : Nat) : Prop := XL r j ∨ XW r j
def XC (S r : Nat) : Prop := r = 8 ∨ (S ≤ r ∧ r < S + 44)
/-- where both are behind a statement -/
def JR (t : Nat → Nat) (n S : Nat) (α β α' β' : zS) (st' : lx) : Prop := CS α' t n st' ∧ RS β' t n st' ∧ Un (fun r _ => XC S r) α α' ∧ Un XR β β' ∧ (lL st' = true → ∃ N M K, JH α' β' S N M K)
section
variable {t : Nat → Nat} {n : Nat} {α α' β β' : zS} {st : lx} {S N M K : Nat} {X Y : Nat → Nat → Prop}
theorem JH_F (h : JH α β S N M K) (hP : HP S) (hS : Sh α) (hS2 : Sh β) (u : Un X α α') (w : Un Y β β') (hX : ∀ r j, S ≤ r → r < S + 44 → X r j → r = S ∧ 8 ≤ j) (hY : ∀ r j, 213 ≤ r → r < 225 → Y r j → r = 223) (hF : JF α' β' S) : JH α' β' S N M K := by
  obtain ⟨h1, h2, h3, h4, h5, h6, h7, h8⟩ := h
  have n1 := h1.1.2.1
  have n2 := h1.2.1.2.1
  have n3 := h1.2.2.2.1
  have nX : ∀ r j, S ≤ r → r < S + 44 → ¬ (r = S ∧ 8 ≤ j) → ¬ X r j := fun r j a b c d => c (hX r j a b d)
  have nY : ∀ r j, 213 ≤ r → r < 225 → r ≠ 223 → ¬ Y r j := fun r j a b c d => c (hY r j a b d)
  refine ⟨JN_un h1 hP u w ⟨nX _ _ (by omega) (by omega) (by omega), nX _ _ (by omega) (by omega) (by omega), nX _ _ (by omega) (by omega) (by omega)⟩ (fun j _ => nY _ _ (by omega) (by omega) (by omega)), hF, JP_un h3 hP u w (fun j => nX _ _ (by omega) (by omega) (by omega)) (fun j _ => nY _ _ (by omega) (by omega) (by omega)), fun k hk => JL_un (h4 k hk) (by omega) hP u w (fun j => ⟨nX _ _ (by omega) (by omega) (by omega), nX _ _ (by omega) (by omega) (by omega)⟩) ⟨nY _ _ (by omega) (by omega) (by omega), nY _ _ (by omega) (by omega) (by omega), fun r _ => nY _ _ (by omega) (by omega) (by omega)⟩, fun k hk => JS_un (h5 k hk) (by omega) hP u w (fun j => ⟨nX _ _ (by omega) (by omega) (by omega), nX _ _ (by omega) (by omega) (by omega)⟩) ⟨nY _ _ (by omega) (by omega) (by omega), nY _ _ (by omega) (by omega) (by omega), nY _ _ (by omega) (by omega) (by omega), nY _ _ (by omega) (by omega) (by omega), fun d _ => nY _ _ (by omega) (by omega) (by omega)⟩, fun k hk => JQ_un (h6 k hk) (by omega) hP u w (fun j => ⟨nX _ _ (by omega) (by omega) (by omega), nX _ _ (by omega) (by omega) (by omega)⟩) ⟨nY _ _ (by omega) (by omega) (by omega), fun d _ => nY _ _ (by omega) (by omega) (by omega)⟩, JT_un h7 n1 hP hS hS2 u w (fun j => nX _ _ (by omega) (by omega) (by omega)) (fun j _ => nY _ _ (by omega) (by omega) (by omega)), JZ_un h8 hP hS u ⟨fun j => nX _ _ (by omega) (by omega) (by omega), fun j => nX _ _ (by omega) (by omega) (by omega), fun k _ => nX _ _ (by omega) (by omega) (by omega)⟩⟩
theorem JH_P (h : JH α β S N M K) (hP : HP S) (hS : Sh α) (hS2 : Sh β) (u : Un X α α') (w : Un Y β β') (hX : ∀ r j, S ≤ r → r < S + 44 → X r j → r = S + 4) (hY : ∀ r j, 213 ≤ r → r < 225 → Y r j → r = 222) (hF : JP α' β' S) : JH α' β' S N M K := by
  obtain ⟨h1, h2, h3, h4, h5, h6, h7, h8⟩ := h
  have n1 := h1.1.2.1
  have n2 := h1.2.1.2.1
  have n3 := h1.2.2.2.1
  have nX : ∀ r j, S ≤ r → r < S + 44 → ¬ (r = S + 4) → ¬ X r j := fun r j a b c d => c (hX r j a b d)
  have nY : ∀ r j, 213 ≤ r → r < 225 → r ≠ 222 → ¬ Y r j := fun r j a b c d => c (hY r j a b d)
  refine ⟨JN_un h1 hP u w ⟨nX _ _ (by omega) (by omega) (by omega), nX _ _ (by omega) (by omega) (by omega), nX _ _ (by omega) (by omega) (by omega)⟩ (fun j _ => nY _ _ (by omega) (by omega) (by omega)), JF_un h2 hP u w ⟨nX _ _ (by omega) (by omega) (by omega), nX _ _ (by omega) (by omega) (by omega), nX _ _ (by omega) (by omega) (by omega)⟩ (fun j _ => nY _ _ (by omega) (by omega) (by omega)), hF, fun k hk => JL_un (h4 k hk) (by omega) hP u w (fun j => ⟨nX _ _ (by omega) (by omega) (by omega), nX _ _ (by omega) (by omega) (by omega)⟩) ⟨nY _ _ (by omega) (by omega) (by omega), nY _ _ (by omega) (by omega) (by omega), fun r _ => nY _ _ (by omega) (by omega) (by omega)⟩, fun k hk => JS_un (h5 k hk) (by omega) hP u w (fun j => ⟨nX _ _ (by omega) (by omega) (by omega), nX _ _ (by omega) (by omega) (by omega)⟩) ⟨nY _ _ (by omega) (by omega) (by omega), nY _ _ (by omega) (by omega) (by omega), nY _ _ (by omega) (by omega) (by omega), nY _ _ (by omega) (by omega) (by omega), fun d _ => nY _ _ (by omega) (by omega) (by omega)⟩, fun k hk => JQ_un (h6 k hk) (by omega) hP u w (fun j => ⟨nX _ _ (by omega) (by omega) (by omega), nX _ _ (by omega) (by omega) (by omega)⟩) ⟨nY _ _ (by omega) (by omega) (by omega), fun d _ => nY _ _ (by omega) (by omega) (by omega)⟩, JT_un h7 n1 hP hS hS2 u w (fun j => nX _ _ (by omega) (by omega) (by omega)) (fun j _ => nY _ _ (by omega) (by omega) (by omega)), JZ_un h8 hP hS u ⟨fun j => nX _ _ (by omega) (by omega) (by omega), fun j => nX _ _ (by omega) (by omega) (by omega), fun k _ => nX _ _ (by omega) (by omega) (by omega)⟩⟩
/-- fare, wipe, fee: c = 0, 1, 2 -/
theorem j_set {c hi : Nat} (hc : c < 3) (hhi : hi = if c = 2 then 99 else 9999) (hP : HP S) (hC : CS α t n st) (hR : RS β t n st) (hJ : JH α β S N M K) : ∃ α1 β1 v w, zM 110 [.ref 8, .int 0, .int (nI hi)] α = some (some (.int v), α1) ∧ zM 200 [.ref 176, .int 0, .int (nI hi)] β = some (some (.int w), β1) ∧ tg α1 S = 1 ∧ Sh β1 ∧ JR t n S α β (sI α1 S (8 + c) v) (sI β1 223 c w) (lU t n 0 hi st) := by
  have hb := HPb hP
  have hS := CS_sh hC
  have hS2 := RS_sh hR
  have hhi2 : hi < 10000 ∧ (c = 2 → hi = 99) ∧ hi ≤ 9999 := by split at hhi <;> omega
  obtain ⟨α1, β1, v, w, h1, h2, h3, h4, u1, w1, b1, b2, hl⟩ := j_num hC hR (lo := 0) (hi := hi) hhi2.1 (by omega)
  have hSa := CS_sh h3
  have hSb := RS_sh h4
  refine ⟨α1, β1, nI v, w, h1, h2, tg_P hSa hP, hSb, CS_sI h3 (by omega) (by omega) (by omega) (by omega), RS_sI h4 (by omega), ?_, ?_, fun q => ?_⟩
  · exact u1.t2 (Un_sI (X := fun r _ => r = S) rfl) (fun r j _ _ q => .inl q) (fun r j _ _ q => .inr (by omega))
  · exact w1.t2 (Un_sI (X := fun r j => r = 223 ∧ j < 3) ⟨rfl, hc⟩) (fun r j _ _ q => .inl q) (fun r j _ _ q => .inr (by unfold XW; omega))
  · obtain ⟨rfl, -⟩ := hl q
    have hJ1 := JH_rd hJ hP hS hS2 u1 w1
    refine ⟨N, M, K, JH_F hJ1 hP hSa hSb (Un_sI (X := fun r j => r = S ∧ j = 8 + c) ⟨rfl, rfl⟩) (Un_sI (X := fun r j => r = 223 ∧ j = c) ⟨rfl, rfl⟩) (fun r j _ _ q => by omega) (fun r j _ _ q => q.1) ?_⟩
    obtain ⟨⟨a, a1, a2, a3⟩, ⟨b, e1, e2, e3⟩, d, d1, d2, d3⟩ := hJ1.2.1
    rcases (show c = 0 ∨ c = 1 ∨ c = 2 by omega) with rfl | rfl | rfl
    · refine ⟨⟨v, by omega, ?_, ?_⟩, ⟨b, e1, ?_, ?_⟩, d, d1, ?_, ?_⟩ <;> rw [gI_sI] <;> first | rw [if_pos (by omega)] | (rw [if_neg (by omega)]; assumption)
    · refine ⟨⟨a, a1, ?_, ?_⟩, ⟨v, by omega, ?_, ?_⟩, d, d1, ?_, ?_⟩ <;> rw [gI_sI] <;> first | rw [if_pos (by omega)] | (rw [if_neg (by omega)]; assumption)
    · refine ⟨⟨a, a1, ?_, ?_⟩, ⟨b, e1, ?_, ?_⟩, v, by omega, ?_, ?_⟩ <;> rw [gI_sI] <;> first | rw [if_pos (by omega)] | (rw [if_neg (by omega)]; assumption)
theorem hun_hi {i : Nat} {st : lx} (h : lL (hun t n (i + 1) st) = true) : lUv t n (hun t n i st) ≤ 100 := (lU_hi h).2
theorem hun_dn {st : lx} : ∀ {i N : Nat}, i ≤ N → lL (hun t n N st) = true → lL (hun t n i st) = true := by
  intro i N hi h
  induction N with
  | zero => rw [show i = 0 by omega]; exact h
  | succ N ih =>
    rcases Nat.lt_or_ge i (N + 1) with q | q
    · exact ih (by omega) (hun_live h)
    · rw [show i = N + 1 by omega]; exact h
theorem j_keeps (hP : HP S) (hC : CS α t n st) (hR : RS β t n st) (hJ : JH α β S N M K) : ∃ α1 β1, zM 14 [.ref 11, .ref (S + 4)] α = some (none, α1) ∧ zM 211 [.ref 176] β = some (none, β1) ∧ JR t n S α β α1 β1 (hun t n 5 st) := by
  have hb := HPb hP
  have hS := CS_sh hC
  have hS2 := RS_sh hR
  obtain ⟨α1, h1, h2, h3, h4⟩ := c_hund (t := t) (n := n) (A := S + 4) 5 (by omega) (by omega) (by omega) (fun σ h => tg_P4 h hP) (fun σ h => ln_P4 h hP) st 5 0 rfl α hC (fun _ j hj => by omega)
  obtain ⟨β1, g1, g2, g3, g4⟩ := r_hund_k (t := t) (n := n) st 5 0 rfl β hR (fun _ j hj => by omega)
  refine ⟨α1, β1, by rw [q_X1_takeHundreds]; exact h1, by rw [q_X12_keepsTold]; exact g1, h2, g2, h3.mono (fun r j _ _ q => by unfold XC; omega), g3.mono (fun r j _ _ q => ?_), fun q => ?_⟩
  · rcases q with q | q
    · exact .inl q
    · exact .inr (by unfold XW; omega)
  · refine ⟨N, M, K, JH_P hJ hP hS hS2 h3 g3 (fun r j _ _ q => by omega) (fun r j _ _ q => by unfold XL at q; omega) ⟨fun d => lUv t n (hun t n d st), fun d hd => ⟨hun_hi (hun_dn (show d + 1 ≤ 5 by omega) q), h4 q d hd, ?_⟩⟩⟩
    have := g4 q d hd
    simpa using this
end
