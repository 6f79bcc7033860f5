/-! the state of both, between two calls -/
def Tp (σ : zS) (t : Nat → Nat) (n : Nat) : Prop := n ≤ 1600 ∧ (∀ j, t j < 256) ∧ (∀ j, gI σ 7 j = sb (t j)) ∧ (∀ j, j < 1600 → gI σ 177 j = nI (t j)) ∧ gI σ 6 1 = nI n ∧ gI σ 176 1 = nI n
def Ow (σ : zS) : Prop := (∀ i, i < 35 → gI σ 9 i = nI (ownL.getD i 0)) ∧ ∀ w, w < 35 → ∀ i, i < (wL w).length → gI σ (178 + w) i = nI ((wL w).getD i 0)
def Ft (σ : zS) : Prop := gI σ 6 7 = gI σ 176 7 ∧ gI σ 6 8 = gI σ 176 8
/-- the house P that stands, and the reference's upper halves: what no call but house changes -/
def HN (σ : zS) (P N M K : Nat) : Prop := (gI σ P 5 = nI N ∧ N ≤ 8 ∧ gI σ 214 3 = nI N) ∧ (gI σ P 6 = nI M ∧ M ≤ 4 ∧ gI σ 214 4 = nI M) ∧ (gI σ P 7 = nI K ∧ K ≤ 6 ∧ gI σ 214 5 = nI K)
def HF (σ : zS) (P : Nat) : Prop := (∃ a, a ≤ 9999 ∧ gI σ P 8 = nI a ∧ gI σ 223 3 = nI a) ∧ ∃ a, a ≤ 9999 ∧ gI σ P 9 = nI a ∧ gI σ 223 4 = nI a
def HC (σ : zS) (P : Nat) : Prop := ∃ a, a ≤ 99 ∧ gI σ P 10 = nI a ∧ gI σ 223 5 = nI a
def HPl (σ : zS) (P : Nat) : Prop := ∃ f : Nat → Nat, ∀ d, d < 5 → f d ≤ 100 ∧ gI σ (P + 4) d = nI (f d) ∧ gI σ 222 (5 + d) = nI (f d)
def HL (σ : zS) (P k : Nat) : Prop := NM (gI σ (P + 8 + 2 * k) 0) (gL σ 213 (24 + k)) ∧ ∃ p, p ≤ 9999 ∧ gI σ (P + 8 + 2 * k) 1 = nI p ∧ gI σ 215 (8 + k) = nI p
def HO (σ : zS) (P k : Nat) : Prop := NM (gI σ (P + 24 + 2 * k) 0) (gL σ 213 (32 + k)) ∧ (∃ p, p ≤ 100 ∧ gI σ (P + 24 + 2 * k) 2 = nI p ∧ gI σ 218 (4 + k) = nI p) ∧ (∃ p, p ≤ 100 ∧ gI σ (P + 24 + 2 * k) 3 = nI p ∧ gI σ 219 (4 + k) = nI p) ∧ (∃ p, p ≤ 100 ∧ gI σ (P + 24 + 2 * k) 4 = nI p ∧ gI σ 220 (4 + k) = nI p) ∧ ∃ f : Nat → Nat, f 0 + f 1 + f 2 + f 3 + f 4 = 100 ∧ ∀ d, d < 5 → gI σ (P + 25 + 2 * k) d = nI (100 * f d) ∧ gI σ 217 (20 + 5 * k + d) = nI (f d)
def HQ (σ : zS) (P k : Nat) : Prop := NM (gI σ (P + 32 + 2 * k) 0) (gL σ 213 (40 + k)) ∧ ∃ f : Nat → Nat, ∀ d, d < 5 → f d ≤ 100 ∧ gI σ (P + 33 + 2 * k) d = nI (f d) ∧ gI σ 221 (30 + 5 * k + d) = nI (f d)
/-- what is thought of a last, its truth -/
def HR (σ : zS) (P k : Nat) : Prop := ∃ g : Nat → Nat, g 0 + g 1 + g 2 = 10000 ∧ ∀ r, r < 3 → gI σ (P + 9 + 2 * k) r = nI (g r) ∧ gI σ 235 (3 * k + r) = nI (g r)
def HU (σ : zS) (P k : Nat) : Prop := gI σ (P + 8 + 2 * k) 3 = gI σ 241 k ∧ (gI σ 241 k = -1 ∨ ∃ d, d < 3 ∧ gI σ 241 k = nI d)
def HS (σ : zS) (P N : Nat) : Prop := ∀ j, j < 20 * N → gI σ (P + 6) j = gI σ 224 (160 + j)
def cnt (p : Nat → Bool) : Nat → Nat
  | 0 => 0
  | n + 1 => cnt p n + if p n = true then 1 else 0
/-- days, and pairs on their way back -/
def HD (σ : zS) (P N c : Nat) : Prop := ∃ day cm : Nat, day ≤ 100 * c ∧ cm ≤ 3 * c ∧ gI σ (P + 5) 3 = nI day ∧ gI σ 176 82 = nI day ∧ gI σ (P + 5) 2 = nI cm ∧ gI σ 176 84 = nI cm ∧ ∃ at' dy : Nat → Nat, (∀ k, k < cm → at' k < 20 * N ∧ day < dy k ∧ dy k ≤ day + 7 ∧ gI σ 243 k = nI (160 + at' k) ∧ gI σ 244 k = nI (dy k)) ∧ ∀ w, w < 7 → ∀ l, l < 160 → gI σ (P + 7) (160 * w + l) = nI (cnt (fun k => decide (at' k = l) && decide (dy k % 7 = w)) cm)
/-- a person: sort and size asked, the foot, the box, the truth, what was kept -/
def PA (σ : zS) (p so z : Nat) : Prop := gI σ (116 + 3 * p) 0 = nI so ∧ gI σ 232 p = nI so ∧ gI σ (116 + 3 * p) 1 = nI z ∧ gI σ 233 p = nI z
def PF (σ : zS) (p : Nat) : Prop := ∃ f : Nat → Nat, f 0 + f 1 + f 2 + f 3 + f 4 = 10000 ∧ ∀ d, d < 5 → gI σ (117 + 3 * p) d = nI (f d) ∧ gI σ 234 (5 * p + d) = nI (f d)
/-- bits of sizes that are there -/
def inz (z B : Nat) : Prop := ∀ i, i < 5 → B / 2 ^ i % 2 = 1 → 32 ≤ z + i ∧ z + i ≤ 51
def PB (σ : zS) (N p z : Nat) : Prop := (gI σ (116 + 3 * p) 5 = -1 ∧ gI σ 238 p = -1 ∧ gI σ (116 + 3 * p) 6 = 0 ∧ gI σ 239 p = 0) ∨ ∃ l B, l < N ∧ 1 ≤ B ∧ B < 32 ∧ pc B ≤ 3 ∧ inz z B ∧ gI σ (116 + 3 * p) 5 = nI l ∧ gI σ 238 p = nI l ∧ gI σ (116 + 3 * p) 6 = nI B ∧ gI σ 239 p = nI B
def PT (σ : zS) (p : Nat) : Prop := gI σ (116 + 3 * p) 7 = gI σ 240 p ∧ (gI σ 240 p = -1 ∨ ∃ d, d < 5 ∧ gI σ 240 p = nI d)
def s32 (f : Nat → Int32) : Nat → Int32
  | 0 => 0
  | n + 1 => s32 f n + f n
def PK (σ : zS) (p z : Nat) : Prop := gI σ (116 + 3 * p) 3 = gI σ 236 p ∧ gI σ (116 + 3 * p) 4 = gI σ 237 p ∧ (∀ l, l < 8 → ∀ i, i < 5 → gI σ (118 + 3 * p) (5 * l + i) = if 32 ≤ z + i ∧ z + i ≤ 51 then gI σ 242 (160 * p + 20 * l + (z + i - 32)) else 0) ∧ (∀ l, l < 8 → ∀ s, s < 20 → ¬ (z ≤ s + 32 ∧ s + 28 ≤ z) → gI σ 242 (160 * p + 20 * l + s) = 0) ∧ gI σ 236 p = gI σ 237 p + s32 (fun k => gI σ 242 (160 * p + k)) 160
def Pe (σ : zS) (N M p : Nat) : Prop := ∃ so z, so < M ∧ 30 ≤ z ∧ z ≤ 49 ∧ PA σ p so z ∧ PF σ p ∧ PB σ N p z ∧ PT σ p ∧ PK σ p z
def PN (σ : zS) (np : Nat) : Prop := np ≤ 20 ∧ gI σ 6 10 = nI np ∧ gI σ 176 70 = nI np
def IM (σ : zS) : Prop := ∃ len, len ≤ 290 ∧ gI σ 110 1 = nI len ∧ gI σ 176 97 = nI len ∧ ∀ j, j < len → ∃ b, b < 256 ∧ gI σ 111 j = sb b ∧ gI σ 252 j = nI b
def MS (σ : zS) : Prop := gI σ 6 11 = gI σ 176 83 ∧ ∃ s, s < 2147483648 ∧ gL σ 6 12 = lN s ∧ gL σ 176 95 = lN s
def HH (σ : zS) (P N M K : Nat) : Prop := HN σ P N M K ∧ HF σ P ∧ HC σ P ∧ HPl σ P ∧ (∀ k, k < N → HL σ P k) ∧ (∀ k, k < M → HO σ P k) ∧ (∀ k, k < K → HQ σ P k) ∧ (∀ k, k < N → HR σ P k) ∧ (∀ k, k < N → HU σ P k) ∧ HS σ P N
def Hs (σ : zS) (P S : Nat) : Prop := HP P ∧ HP S ∧ P + S = 76 ∧ gR σ 6 5 = some P ∧ gR σ 6 6 = some S
section
variable {σ σ' : zS} {X : Nat → Nat → Prop} {P S N M K np c p k so z n : Nat} {t : Nat → Nat}
theorem Tp_un (h : Tp σ t n) (hS : Sh σ) (u : Un X σ σ') (hX : (∀ j, ¬ X 7 j) ∧ (∀ j, ¬ X 177 j) ∧ ¬ X 6 1 ∧ ¬ X 176 1) : Tp σ' t n := by
  obtain ⟨h1, h2, h3, h4, h5, h6⟩ := h
  refine ⟨h1, h2, fun j => ?_, fun j hj => ?_, ?_, ?_⟩
  · rw [u.iA (by omega) (by omega) (by rw [tg_7 hS]; omega) (hX.1 j)]; exact h3 j
  · rw [u.iA (by omega) (by omega) (by rw [tg_177 hS]; omega) (hX.2.1 j)]; exact h4 j hj
  · rw [u.i (by omega) (by omega) (by omega) hX.2.2.1]; exact h5
  · rw [u.i (by omega) (by omega) (by omega) hX.2.2.2]; exact h6
theorem Ow_un (h : Ow σ) (hS : Sh σ) (u : Un X σ σ') (hX : ∀ r j, r = 9 ∨ (178 ≤ r ∧ r < 213) → ¬ X r j) : Ow σ' := by
  refine ⟨fun i hi => ?_, fun w hw i hi => ?_⟩
  · rw [u.iA (by omega) (by omega) (by rw [tg_9 hS]; omega) (hX _ _ (by omega))]; exact h.1 i hi
  · rw [u.iA (by omega) (by omega) (by rw [tg_word hS hw]; omega) (hX _ _ (by omega))]; exact h.2 w hw i hi
theorem Ft_un (h : Ft σ) (u : Un X σ σ') (hX : ¬ X 6 7 ∧ ¬ X 6 8 ∧ ¬ X 176 7 ∧ ¬ X 176 8) : Ft σ' := by
  unfold Ft
  rw [u.i (by omega) (by omega) (by omega) hX.1, u.i (by omega) (by omega) (by omega) hX.2.1, u.i (by omega) (by omega) (by omega) hX.2.2.1, u.i (by omega) (by omega) (by omega) hX.2.2.2]
  exact h
theorem HN_un (h : HN σ P N M K) (hP : HP P) (u : Un X σ σ') (hX : ∀ j, 5 ≤ j → j < 8 → ¬ X P j) (hY : ∀ j, 3 ≤ j → j < 6 → ¬ X 214 j) : HN σ' P N M K := by
  have hb := HPb hP
  unfold HN
  rw [u.i (by omega) (by omega) (by omega) (hX 5 (by omega) (by omega)), u.i (by omega) (by omega) (by omega) (hX 6 (by omega) (by omega)), u.i (by omega) (by omega) (by omega) (hX 7 (by omega) (by omega)), u.i (by omega) (by omega) (by omega) (hY 3 (by omega) (by omega)), u.i (by omega) (by omega) (by omega) (hY 4 (by omega) (by omega)), u.i (by omega) (by omega) (by omega) (hY 5 (by omega) (by omega))]
  exact h
theorem HF_un (h : HF σ P) (hP : HP P) (u : Un X σ σ') (hX : ¬ X P 8 ∧ ¬ X P 9) (hY : ¬ X 223 3 ∧ ¬ X 223 4) : HF σ' P := by
  have hb := HPb hP
  unfold HF
  rw [u.i (by omega) (by omega) (by omega) hX.1, u.i (by omega) (by omega) (by omega) hX.2, u.i (by omega) (by omega) (by omega) hY.1, u.i (by omega) (by omega) (by omega) hY.2]
  exact h
theorem HC_un (h : HC σ P) (hP : HP P) (u : Un X σ σ') (hX : ¬ X P 10) (hY : ¬ X 223 5) : HC σ' P := by
  have hb := HPb hP
  unfold HC
  rw [u.i (by omega) (by omega) (by omega) hX, u.i (by omega) (by omega) (by omega) hY]
  exact h
theorem HPl_un (h : HPl σ P) (hP : HP P) (u : Un X σ σ') (hX : ∀ j, j < 5 → ¬ X (P + 4) j) (hY : ∀ j, 5 ≤ j → j < 10 → ¬ X 222 j) : HPl σ' P := by
  have hb := HPb hP
  obtain ⟨f, hf⟩ := h
  refine ⟨f, fun d hd => ?_⟩
  rw [u.i (by omega) (by omega) (by omega) (hX d hd), u.i (by omega) (by omega) (by omega) (hY (5 + d) (by omega) (by omega))]
  exact hf d hd
theorem HL_un (h : HL σ P k) (hk : k < 8) (hP : HP P) (u : Un X σ σ') (hX : ∀ j, j < 2 → ¬ X (P + 8 + 2 * k) j) (hY : ¬ X 213 (24 + k) ∧ ¬ X 215 (8 + k)) : HL σ' P k := by
  have hb := HPb hP
  unfold HL
  rw [u.i (by omega) (by omega) (by omega) (hX 0 (by omega)), u.i (by omega) (by omega) (by omega) (hX 1 (by omega)), u.l (by omega) (by omega) (by omega) hY.1, u.i (by omega) (by omega) (by omega) hY.2]
  exact h
theorem HO_un (h : HO σ P k) (hk : k < 4) (hP : HP P) (u : Un X σ σ') (hX : ∀ j, ¬ X (P + 24 + 2 * k) j ∧ ¬ X (P + 25 + 2 * k) j) (hY : ¬ X 213 (32 + k) ∧ ¬ X 218 (4 + k) ∧ ¬ X 219 (4 + k) ∧ ¬ X 220 (4 + k) ∧ ∀ d, d < 5 → ¬ X 217 (20 + 5 * k + d)) : HO σ' P k := by
  have hb := HPb hP
  obtain ⟨h1, h2, h3, h4, f, f1, f2⟩ := h
  unfold HO
  rw [u.i (by omega) (by omega) (by omega) (hX 0).1, u.i (by omega) (by omega) (by omega) (hX 2).1, u.i (by omega) (by omega) (by omega) (hX 3).1, u.i (by omega) (by omega) (by omega) (hX 4).1, u.l (by omega) (by omega) (by omega) hY.1, u.i (by omega) (by omega) (by omega) hY.2.1, u.i (by omega) (by omega) (by omega) hY.2.2.1, u.i (by omega) (by omega) (by omega) hY.2.2.2.1]
  refine ⟨h1, h2, h3, h4, f, f1, fun d hd => ?_⟩
  rw [u.i (by omega) (by omega) (by omega) (hX d).2, u.i (by omega) (by omega) (by omega) (hY.2.2.2.2 d hd)]
  exact f2 d hd
theorem HQ_un (h : HQ σ P k) (hk : k < 6) (hP : HP P) (u : Un X σ σ') (hX : ∀ j, ¬ X (P + 32 + 2 * k) j ∧ ¬ X (P + 33 + 2 * k) j) (hY : ¬ X 213 (40 + k) ∧ ∀ d, d < 5 → ¬ X 221 (30 + 5 * k + d)) : HQ σ' P k := by
  have hb := HPb hP
  obtain ⟨h1, f, f2⟩ := h
  unfold HQ
  rw [u.i (by omega) (by omega) (by omega) (hX 0).1, u.l (by omega) (by omega) (by omega) hY.1]
  refine ⟨h1, f, fun d hd => ?_⟩
  rw [u.i (by omega) (by omega) (by omega) (hX d).2, u.i (by omega) (by omega) (by omega) (hY.2 d hd)]
  exact f2 d hd
theorem HR_un (h : HR σ P k) (hk : k < 8) (hP : HP P) (u : Un X σ σ') (hX : ∀ j, ¬ X (P + 9 + 2 * k) j) (hY : ∀ r, r < 3 → ¬ X 235 (3 * k + r)) : HR σ' P k := by
  have hb := HPb hP
  obtain ⟨f, f1, f2⟩ := h
  refine ⟨f, f1, fun d hd => ?_⟩
  rw [u.i (by omega) (by omega) (by omega) (hX d), u.i (by omega) (by omega) (by omega) (hY d hd)]
  exact f2 d hd
theorem HU_un (h : HU σ P k) (hk : k < 8) (hP : HP P) (u : Un X σ σ') (hX : ¬ X (P + 8 + 2 * k) 3) (hY : ¬ X 241 k) : HU σ' P k := by
  have hb := HPb hP
  unfold HU
  rw [u.i (by omega) (by omega) (by omega) hX, u.i (by omega) (by omega) (by omega) hY]
  exact h
theorem HS_un (h : HS σ P N) (hN : N ≤ 8) (hS : Sh σ) (hP : HP P) (u : Un X σ σ') (hX : ∀ j, ¬ X (P + 6) j) (hY : ∀ j, 160 ≤ j → ¬ X 224 j) : HS σ' P N := by
  have hb := HPb hP
  intro j hj
  rw [u.iA (by omega) (by omega) (by rw [tg_P6 hS hP]; omega) (hX j), u.iA (by omega) (by omega) (by rw [tg_224 hS]; omega) (hY _ (by omega))]
  exact h j hj
theorem HD_un (h : HD σ P N c) (hS : Sh σ) (hP : HP P) (u : Un X σ σ') (hX : ¬ X (P + 5) 2 ∧ ¬ X (P + 5) 3 ∧ (∀ j, ¬ X (P + 7) j)) (hY : ¬ X 176 82 ∧ ¬ X 176 84 ∧ (∀ j, ¬ X 243 j) ∧ ∀ j, ¬ X 244 j) : HD σ' P N c := by
  have hb := HPb hP
  obtain ⟨day, cm, h1, h2, h3, h4, h5, h6, a, b, h7, h8⟩ := h
  refine ⟨day, cm, h1, h2, ?_, ?_, ?_, ?_, a, b, fun k hk => ?_, fun w hw l hl => ?_⟩
  · rw [u.i (by omega) (by omega) (by omega) hX.2.1]; exact h3
  · rw [u.i (by omega) (by omega) (by omega) hY.1]; exact h4
  · rw [u.i (by omega) (by omega) (by omega) hX.1]; exact h5
  · rw [u.i (by omega) (by omega) (by omega) hY.2.1]; exact h6
  · rw [u.iA (by omega) (by omega) (by rw [tg_243 hS]; omega) (hY.2.2.1 k), u.iA (by omega) (by omega) (by rw [tg_244 hS]; omega) (hY.2.2.2 k)]; exact h7 k hk
  · rw [u.iA (by omega) (by omega) (by rw [tg_P7 hS hP]; omega) (hX.2.2 _)]; exact h8 w hw l hl
theorem HD_mono (h : HD σ P N c) {c' : Nat} (hc : c ≤ c') : HD σ P N c' := by
  obtain ⟨day, cm, h1, h2, h3⟩ := h
  exact ⟨day, cm, by omega, by omega, h3⟩
theorem PA_un (h : PA σ p so z) (hp : p < 20) (u : Un X σ σ') (hX : ¬ X (116 + 3 * p) 0 ∧ ¬ X (116 + 3 * p) 1 ∧ ¬ X 232 p ∧ ¬ X 233 p) : PA σ' p so z := by
  unfold PA
  rw [u.i (by omega) (by omega) (by omega) hX.1, u.i (by omega) (by omega) (by omega) hX.2.1, u.i (by omega) (by omega) (by omega) hX.2.2.1, u.i (by omega) (by omega) (by omega) hX.2.2.2]
  exact h
theorem PF_un (h : PF σ p) (hp : p < 20) (hS : Sh σ) (u : Un X σ σ') (hX : (∀ d, ¬ X (117 + 3 * p) d) ∧ ∀ d, d < 5 → ¬ X 234 (5 * p + d)) : PF σ' p := by
  obtain ⟨f, f1, f2⟩ := h
  refine ⟨f, f1, fun d hd => ?_⟩
  rw [u.i (by omega) (by omega) (by omega) (hX.1 d), u.iA (by omega) (by omega) (by rw [tg_234 hS]; omega) (hX.2 d hd)]
  exact f2 d hd
theorem PB_un (h : PB σ N p z) (hp : p < 20) (u : Un X σ σ') (hX : ¬ X (116 + 3 * p) 5 ∧ ¬ X (116 + 3 * p) 6 ∧ ¬ X 238 p ∧ ¬ X 239 p) : PB σ' N p z := by
  unfold PB
  rw [u.i (by omega) (by omega) (by omega) hX.1, u.i (by omega) (by omega) (by omega) hX.2.1, u.i (by omega) (by omega) (by omega) hX.2.2.1, u.i (by omega) (by omega) (by omega) hX.2.2.2]
  exact h
theorem PT_un (h : PT σ p) (hp : p < 20) (u : Un X σ σ') (hX : ¬ X (116 + 3 * p) 7 ∧ ¬ X 240 p) : PT σ' p := by
  unfold PT
  rw [u.i (by omega) (by omega) (by omega) hX.1, u.i (by omega) (by omega) (by omega) hX.2]
  exact h
theorem s32_congr {f g : Nat → Int32} : ∀ n, (∀ i, i < n → f i = g i) → s32 f n = s32 g n
  | 0, _ => rfl
  | n + 1, h => by
    show s32 f n + f n = s32 g n + g n
    rw [s32_congr n (fun i hi => h i (by omega)), h n (by omega)]
theorem PK_un (h : PK σ p z) (hp : p < 20) (hz : z ≤ 49) (hS : Sh σ) (u : Un X σ σ') (hX : ¬ X (116 + 3 * p) 3 ∧ ¬ X (116 + 3 * p) 4 ∧ ¬ X 236 p ∧ ¬ X 237 p ∧ (∀ j, ¬ X (118 + 3 * p) j) ∧ ∀ j, 160 * p ≤ j → j < 160 * p + 160 → ¬ X 242 j) : PK σ' p z := by
  obtain ⟨h1, h2, h3, h4, h5⟩ := h
  have e : ∀ j, 160 * p ≤ j → j < 160 * p + 160 → gI σ' 242 j = gI σ 242 j := fun j a b => u.iA (by omega) (by omega) (by rw [tg_242 hS]; omega) (hX.2.2.2.2.2 j a b)
  refine ⟨?_, ?_, fun l hl i hi => ?_, fun l hl s hs q => ?_, ?_⟩
  · rw [u.i (by omega) (by omega) (by omega) hX.1, u.i (by omega) (by omega) (by omega) hX.2.2.1]; exact h1
  · rw [u.i (by omega) (by omega) (by omega) hX.2.1, u.i (by omega) (by omega) (by omega) hX.2.2.2.1]; exact h2
  · rw [u.i (by omega) (by omega) (by omega) (hX.2.2.2.2.1 _), h3 l hl i hi]
    by_cases q : 32 ≤ z + i ∧ z + i ≤ 51
    · rw [if_pos q, if_pos q, e _ (by omega) (by omega)]
    · rw [if_neg q, if_neg q]
  · rw [e _ (by omega) (by omega)]; exact h4 l hl s hs q
  · have e2 : s32 (fun k => gI σ' 242 (160 * p + k)) 160 = s32 (fun k => gI σ 242 (160 * p + k)) 160 := s32_congr 160 (fun i hi => e _ (by omega) (by omega))
    rw [u.i (by omega) (by omega) (by omega) hX.2.2.1, u.i (by omega) (by omega) (by omega) hX.2.2.2.1, e2]
    exact h5
theorem PN_un (h : PN σ np) (u : Un X σ σ') (hX : ¬ X 6 10 ∧ ¬ X 176 70) : PN σ' np := by
  unfold PN
  rw [u.i (by omega) (by omega) (by omega) hX.1, u.i (by omega) (by omega) (by omega) hX.2]
  exact h
theorem IM_un (h : IM σ) (hS : Sh σ) (u : Un X σ σ') (hX : ¬ X 110 1 ∧ ¬ X 176 97 ∧ (∀ j, ¬ X 111 j) ∧ ∀ j, ¬ X 252 j) : IM σ' := by
  obtain ⟨len, h1, h2, h3, h4⟩ := h
  refine ⟨len, h1, ?_, ?_, fun j hj => ?_⟩
  · rw [u.i (by omega) (by omega) (by omega) hX.1]; exact h2
  · rw [u.i (by omega) (by omega) (by omega) hX.2.1]; exact h3
  · rw [u.iA (by omega) (by omega) (by rw [tg_111 hS]; omega) (hX.2.2.1 j), u.iA (by omega) (by omega) (by rw [tg_252 hS]; omega) (hX.2.2.2 j)]; exact h4 j hj
theorem MS_un (h : MS σ) (u : Un X σ σ') (hX : ¬ X 6 11 ∧ ¬ X 176 83 ∧ ¬ X 6 12 ∧ ¬ X 176 95) : MS σ' := by
  unfold MS
  rw [u.i (by omega) (by omega) (by omega) hX.1, u.i (by omega) (by omega) (by omega) hX.2.1, u.l (by omega) (by omega) (by omega) hX.2.2.1, u.l (by omega) (by omega) (by omega) hX.2.2.2]
  exact h
theorem Hs_un (h : Hs σ P S) (u : Un X σ σ') (hX : ¬ X 6 5 ∧ ¬ X 6 6) : Hs σ' P S := by
  unfold Hs
  rw [u.r (by omega) (by omega) (by omega) hX.1, u.r (by omega) (by omega) (by omega) hX.2]
  exact h
theorem RUk_un (h : RUk σ k) (hk : k < 3) (hS : Sh σ) (u : Un X σ σ') (hX : ¬ X 13 k ∧ ¬ X 227 k ∧ ¬ X 228 k ∧ (∀ r j, r = 229 ∨ r = 230 ∨ r = 231 → 40 * k ≤ j → j < 40 * k + 40 → ¬ X r j) ∧ ∀ j, 1600 * k ≤ j → j < 1600 * k + 1600 → ¬ X 225 j) : RUk σ' k := by
  obtain ⟨x1, x2, x3, x4, x5⟩ := hX
  rcases h with ⟨h1, h2⟩ | ⟨r, SS, h1, h2, h3, h4, h5, h6, h7, h8, h9, h10, h11, h12⟩
  · refine .inl ⟨?_, ?_⟩
    · rw [u.r (by omega) (by omega) (by omega) x1]; exact h1
    · rw [u.i (by omega) (by omega) (by omega) x2]; exact h2
  · have hlr : (lr SS).length ≤ (lc SS).length := by
      rw [← flt_lc h6]; exact flt_le _
    refine .inr ⟨r, SS, ?_, h2, ?_, ?_, fun i hi => ?_, h6, h7, h8, ?_, ?_, ?_, fun i hi => ?_⟩
    · rw [u.r (by omega) (by omega) (by omega) x1]; exact h1
    · rw [tg_of1 u.1]; exact h3
    · rw [ln_of1 u.1]; exact h4
    · rw [u.2.2 r i h2 h3]; exact h5 i hi
    · rw [u.i (by omega) (by omega) (by omega) x2]; exact h9
    · rw [u.i (by omega) (by omega) (by omega) x3]; exact h10
    · exact SR_un h11 hS u (fun r j a b c => x4 r j a b (by omega))
    · rw [u.iA (by omega) (by omega) (by rw [tg_225 hS]; omega) (x5 _ (by omega) (by omega))]; exact h12 i hi
end
