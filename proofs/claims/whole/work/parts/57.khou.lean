/-! the class's spare house S and the reference's working halves -/
def JN (α β : zS) (S N M K : Nat) : Prop := (gI α S 5 = nI N ∧ N ≤ 8 ∧ gI β 214 0 = nI N) ∧ (gI α S 6 = nI M ∧ M ≤ 4 ∧ gI β 214 1 = nI M) ∧ (gI α S 7 = nI K ∧ K ≤ 6 ∧ gI β 214 2 = nI K)
def JF (α β : zS) (S : Nat) : Prop := (∃ a, a ≤ 9999 ∧ gI α S 8 = nI a ∧ gI β 223 0 = nI a) ∧ (∃ a, a ≤ 9999 ∧ gI α S 9 = nI a ∧ gI β 223 1 = nI a) ∧ (∃ a, a ≤ 99 ∧ gI α S 10 = nI a ∧ gI β 223 2 = nI a)
def JP (α β : zS) (S : Nat) : Prop := ∃ f : Nat → Nat, ∀ d, d < 5 → f d ≤ 100 ∧ gI α (S + 4) d = nI (f d) ∧ gI β 222 d = nI (f d)
def JL (α β : zS) (S k : Nat) : Prop := NM (gI α (S + 8 + 2 * k) 0) (gL β 213 k) ∧ (∃ p, p ≤ 9999 ∧ gI α (S + 8 + 2 * k) 1 = nI p ∧ gI β 215 k = nI p) ∧ ∃ f : Nat → Nat, f 0 + f 1 + f 2 = 100 ∧ ∀ r, r < 3 → gI α (S + 9 + 2 * k) r = nI (100 * f r) ∧ gI β 216 (3 * k + r) = nI (f r)
def JS (α β : zS) (S k : Nat) : Prop := NM (gI α (S + 24 + 2 * k) 0) (gL β 213 (8 + k)) ∧ (∃ p, p ≤ 100 ∧ gI α (S + 24 + 2 * k) 2 = nI p ∧ gI β 218 k = nI p) ∧ (∃ p, p ≤ 100 ∧ gI α (S + 24 + 2 * k) 3 = nI p ∧ gI β 219 k = nI p) ∧ (∃ p, p ≤ 100 ∧ gI α (S + 24 + 2 * k) 4 = nI p ∧ gI β 220 k = nI p) ∧ ∃ f : Nat → Nat, f 0 + f 1 + f 2 + f 3 + f 4 = 100 ∧ ∀ d, d < 5 → gI α (S + 25 + 2 * k) d = nI (100 * f d) ∧ gI β 217 (5 * k + d) = nI (f d)
def JQ (α β : zS) (S k : Nat) : Prop := NM (gI α (S + 32 + 2 * k) 0) (gL β 213 (16 + k)) ∧ ∃ f : Nat → Nat, ∀ d, d < 5 → f d ≤ 100 ∧ gI α (S + 33 + 2 * k) d = nI (f d) ∧ gI β 221 (5 * k + d) = nI (f d)
def JT (α β : zS) (S N : Nat) : Prop := (∀ j, j < 20 * N → ∃ v, v ≤ 99 ∧ gI α (S + 6) j = nI v ∧ gI β 224 j = nI v) ∧ ∀ j, 20 * N ≤ j → j < 160 → gI α (S + 6) j = 0
def JZ (α : zS) (S : Nat) : Prop := (∀ j, j < 1120 → gI α (S + 7) j = 0) ∧ gI α (S + 5) 2 = 0 ∧ gI α (S + 5) 3 = 0 ∧ ∀ k, k < 8 → gI α (S + 8 + 2 * k) 3 = -1
def JH (α β : zS) (S N M K : Nat) : Prop := JN α β S N M K ∧ JF α β S ∧ JP α β S ∧ (∀ k, k < N → JL α β S k) ∧ (∀ k, k < M → JS α β S k) ∧ (∀ k, k < K → JQ α β S k) ∧ JT α β S N ∧ JZ α S
section
variable {α α' β β' : zS} {S N M K : Nat} {X Y : Nat → Nat → Prop}
/-- what doesn't touch the house leaves all of it -/
theorem JN_un (h : JN α β S N M K) (hP : HP S) (u : Un X α α') (w : Un Y β β') (hX : ¬ X S 5 ∧ ¬ X S 6 ∧ ¬ X S 7) (hY : ∀ j, j < 3 → ¬ Y 214 j) : JN α' β' S N M K := by
  have hb := HPb hP
  obtain ⟨⟨a1, a2, a3⟩, ⟨b1, b2, b3⟩, c1, c2, c3⟩ := h
  refine ⟨⟨?_, a2, ?_⟩, ⟨?_, b2, ?_⟩, ?_, c2, ?_⟩
  · rw [u.i (by omega) (by omega) (by omega) hX.1]; exact a1
  · rw [w.i (by omega) (by omega) (by omega) (hY 0 (by omega))]; exact a3
  · rw [u.i (by omega) (by omega) (by omega) hX.2.1]; exact b1
  · rw [w.i (by omega) (by omega) (by omega) (hY 1 (by omega))]; exact b3
  · rw [u.i (by omega) (by omega) (by omega) hX.2.2]; exact c1
  · rw [w.i (by omega) (by omega) (by omega) (hY 2 (by omega))]; exact c3
theorem JF_un (h : JF α β S) (hP : HP S) (u : Un X α α') (w : Un Y β β') (hX : ¬ X S 8 ∧ ¬ X S 9 ∧ ¬ X S 10) (hY : ∀ j, j < 3 → ¬ Y 223 j) : JF α' β' S := by
  have hb := HPb hP
  obtain ⟨⟨a, a1, a2, a3⟩, ⟨b, b1, b2, b3⟩, c, c1, c2, c3⟩ := h
  refine ⟨⟨a, a1, ?_, ?_⟩, ⟨b, b1, ?_, ?_⟩, c, c1, ?_, ?_⟩
  · rw [u.i (by omega) (by omega) (by omega) hX.1]; exact a2
  · rw [w.i (by omega) (by omega) (by omega) (hY 0 (by omega))]; exact a3
  · rw [u.i (by omega) (by omega) (by omega) hX.2.1]; exact b2
  · rw [w.i (by omega) (by omega) (by omega) (hY 1 (by omega))]; exact b3
  · rw [u.i (by omega) (by omega) (by omega) hX.2.2]; exact c2
  · rw [w.i (by omega) (by omega) (by omega) (hY 2 (by omega))]; exact c3
theorem JP_un (h : JP α β S) (hP : HP S) (u : Un X α α') (w : Un Y β β') (hX : ∀ j, ¬ X (S + 4) j) (hY : ∀ j, j < 5 → ¬ Y 222 j) : JP α' β' S := by
  have hb := HPb hP
  obtain ⟨f, hf⟩ := h
  refine ⟨f, fun d hd => ?_⟩
  obtain ⟨h1, h2, h3⟩ := hf d hd
  exact ⟨h1, by rw [u.i (by omega) (by omega) (by omega) (hX d)]; exact h2, by rw [w.i (by omega) (by omega) (by omega) (hY d hd)]; exact h3⟩
theorem JL_un {k : Nat} (h : JL α β S k) (hk : k < 8) (hP : HP S) (u : Un X α α') (w : Un Y β β') (hX : ∀ j, ¬ X (S + 8 + 2 * k) j ∧ ¬ X (S + 9 + 2 * k) j) (hY : ¬ Y 213 k ∧ ¬ Y 215 k ∧ ∀ r, r < 3 → ¬ Y 216 (3 * k + r)) : JL α' β' S k := by
  have hb := HPb hP
  obtain ⟨h1, ⟨p, p1, p2, p3⟩, f, f1, f2⟩ := h
  refine ⟨?_, ⟨p, p1, ?_, ?_⟩, f, f1, fun r hr => ⟨?_, ?_⟩⟩
  · rw [u.i (by omega) (by omega) (by omega) (hX 0).1, w.l (by omega) (by omega) (by omega) hY.1]; exact h1
  · rw [u.i (by omega) (by omega) (by omega) (hX 1).1]; exact p2
  · rw [w.i (by omega) (by omega) (by omega) hY.2.1]; exact p3
  · rw [u.i (by omega) (by omega) (by omega) (hX r).2]; exact (f2 r hr).1
  · rw [w.i (by omega) (by omega) (by omega) (hY.2.2 r hr)]; exact (f2 r hr).2
theorem JS_un {k : Nat} (h : JS α β S k) (hk : k < 4) (hP : HP S) (u : Un X α α') (w : Un Y β β') (hX : ∀ j, ¬ X (S + 24 + 2 * k) j ∧ ¬ X (S + 25 + 2 * k) j) (hY : ¬ Y 213 (8 + k) ∧ ¬ Y 218 k ∧ ¬ Y 219 k ∧ ¬ Y 220 k ∧ ∀ d, d < 5 → ¬ Y 217 (5 * k + d)) : JS α' β' S k := by
  have hb := HPb hP
  obtain ⟨h1, ⟨p, p1, p2, p3⟩, ⟨q, q1, q2, q3⟩, ⟨r, r1, r2, r3⟩, f, f1, f2⟩ := h
  refine ⟨?_, ⟨p, p1, ?_, ?_⟩, ⟨q, q1, ?_, ?_⟩, ⟨r, r1, ?_, ?_⟩, f, f1, fun d hd => ⟨?_, ?_⟩⟩
  · rw [u.i (by omega) (by omega) (by omega) (hX 0).1, w.l (by omega) (by omega) (by omega) hY.1]; exact h1
  · rw [u.i (by omega) (by omega) (by omega) (hX 2).1]; exact p2
  · rw [w.i (by omega) (by omega) (by omega) hY.2.1]; exact p3
  · rw [u.i (by omega) (by omega) (by omega) (hX 3).1]; exact q2
  · rw [w.i (by omega) (by omega) (by omega) hY.2.2.1]; exact q3
  · rw [u.i (by omega) (by omega) (by omega) (hX 4).1]; exact r2
  · rw [w.i (by omega) (by omega) (by omega) hY.2.2.2.1]; exact r3
  · rw [u.i (by omega) (by omega) (by omega) (hX d).2]; exact (f2 d hd).1
  · rw [w.i (by omega) (by omega) (by omega) (hY.2.2.2.2 d hd)]; exact (f2 d hd).2
theorem JQ_un {k : Nat} (h : JQ α β S k) (hk : k < 6) (hP : HP S) (u : Un X α α') (w : Un Y β β') (hX : ∀ j, ¬ X (S + 32 + 2 * k) j ∧ ¬ X (S + 33 + 2 * k) j) (hY : ¬ Y 213 (16 + k) ∧ ∀ d, d < 5 → ¬ Y 221 (5 * k + d)) : JQ α' β' S k := by
  have hb := HPb hP
  obtain ⟨h1, f, f2⟩ := h
  refine ⟨?_, f, fun d hd => ⟨(f2 d hd).1, ?_, ?_⟩⟩
  · rw [u.i (by omega) (by omega) (by omega) (hX 0).1, w.l (by omega) (by omega) (by omega) hY.1]; exact h1
  · rw [u.i (by omega) (by omega) (by omega) (hX d).2]; exact (f2 d hd).2.1
  · rw [w.i (by omega) (by omega) (by omega) (hY.2 d hd)]; exact (f2 d hd).2.2
theorem JT_un (h : JT α β S N) (hN : N ≤ 8) (hP : HP S) (hS : Sh α) (hS2 : Sh β) (u : Un X α α') (w : Un Y β β') (hX : ∀ j, ¬ X (S + 6) j) (hY : ∀ j, j < 160 → ¬ Y 224 j) : JT α' β' S N := by
  have hb := HPb hP
  refine ⟨fun j hj => ?_, fun j h1 h2 => ?_⟩
  · obtain ⟨v, v1, v2, v3⟩ := h.1 j hj
    refine ⟨v, v1, ?_, ?_⟩
    · rw [u.iA (by omega) (by omega) (by rw [tg_P6 hS hP]; omega) (hX j)]; exact v2
    · rw [w.iA (by omega) (by omega) (by rw [tg_224 hS2]; omega) (hY j (by omega))]; exact v3
  · rw [u.iA (by omega) (by omega) (by rw [tg_P6 hS hP]; omega) (hX j)]; exact h.2 j h1 h2
theorem JZ_un (h : JZ α S) (hP : HP S) (hS : Sh α) (u : Un X α α') (hX : (∀ j, ¬ X (S + 7) j) ∧ (∀ j, ¬ X (S + 5) j) ∧ ∀ k, k < 8 → ¬ X (S + 8 + 2 * k) 3) : JZ α' S := by
  have hb := HPb hP
  refine ⟨fun j hj => ?_, ?_, ?_, fun k hk => ?_⟩
  · rw [u.iA (by omega) (by omega) (by rw [tg_P7 hS hP]; omega) (hX.1 j)]; exact h.1 j hj
  · rw [u.i (by omega) (by omega) (by omega) (hX.2.1 2)]; exact h.2.1
  · rw [u.i (by omega) (by omega) (by omega) (hX.2.1 3)]; exact h.2.2.1
  · rw [u.i (by omega) (by omega) (by omega) (hX.2.2 k hk)]; exact h.2.2.2 k hk
theorem JH_un (h : JH α β S N M K) (hP : HP S) (hS : Sh α) (hS2 : Sh β) (u : Un X α α') (w : Un Y β β') (hX : ∀ r j, S ≤ r → r < S + 44 → ¬ X r j) (hY : ∀ r j, 213 ≤ r → r < 225 → ¬ Y r j) : JH α' β' S N M K := by
  obtain ⟨h1, h2, h3, h4, h5, h6, h7, h8⟩ := h
  have n1 := h1.1.2.1
  have n2 := h1.2.1.2.1
  have n3 := h1.2.2.2.1
  refine ⟨JN_un h1 hP u w ⟨hX _ _ (by omega) (by omega), hX _ _ (by omega) (by omega), hX _ _ (by omega) (by omega)⟩ (fun j _ => hY _ _ (by omega) (by omega)), JF_un h2 hP u w ⟨hX _ _ (by omega) (by omega), hX _ _ (by omega) (by omega), hX _ _ (by omega) (by omega)⟩ (fun j _ => hY _ _ (by omega) (by omega)), JP_un h3 hP u w (fun j => hX _ _ (by omega) (by omega)) (fun j _ => hY _ _ (by omega) (by omega)), fun k hk => JL_un (h4 k hk) (by omega) hP u w (fun j => ⟨hX _ _ (by omega) (by omega), hX _ _ (by omega) (by omega)⟩) ⟨hY _ _ (by omega) (by omega), hY _ _ (by omega) (by omega), fun r _ => hY _ _ (by omega) (by omega)⟩, fun k hk => JS_un (h5 k hk) (by omega) hP u w (fun j => ⟨hX _ _ (by omega) (by omega), hX _ _ (by omega) (by omega)⟩) ⟨hY _ _ (by omega) (by omega), hY _ _ (by omega) (by omega), hY _ _ (by omega) (by omega), hY _ _ (by omega) (by omega), fun d _ => hY _ _ (by omega) (by omega)⟩, fun k hk => JQ_un (h6 k hk) (by omega) hP u w (fun j => ⟨hX _ _ (by omega) (by omega), hX _ _ (by omega) (by omega)⟩) ⟨hY _ _ (by omega) (by omega), fun d _ => hY _ _ (by omega) (by omega)⟩, JT_un h7 n1 hP hS hS2 u w (fun j => hX _ _ (by omega) (by omega)) (fun j _ => hY _ _ (by omega) (by omega)), JZ_un h8 hP hS u ⟨fun j => hX _ _ (by omega) (by omega), fun j => hX _ _ (by omega) (by omega), fun k _ => hX _ _ (by omega) (by omega)⟩⟩
/-- a step of both readers leaves the house -/
theorem JH_rd (h : JH α β S N M K) (hP : HP S) (hS : Sh α) (hS2 : Sh β) (u : Un (fun r _ => r = 8) α α') (w : Un XL β β') : JH α' β' S N M K := by
  have hb := HPb hP
  exact JH_un h hP hS hS2 u w (fun r j _ _ q => by omega) (fun r j _ _ q => by unfold XL at q; omega)
end
