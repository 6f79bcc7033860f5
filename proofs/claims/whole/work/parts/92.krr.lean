/-! all of it; what is no more than scratch -/
def tr (σ : zS) (c : Nat) : Prop := ∀ p, p < 20 → ∃ m : Nat, m ≤ c ∧ gI σ 236 p = nI m
def rm (B : Nat) (σ : zS) (c : Nat) : Prop := σ.1.length ≤ 253 + c ∧ zsl σ ≤ B + 1600 * c ∧ tr σ c
def RR (B : Nat) (σ : zS) (c P S N M K np : Nat) (t : Nat → Nat) (n : Nat) : Prop := Sh σ ∧ Hs σ P S ∧ Tp σ t n ∧ Ow σ ∧ Ft σ ∧ HH σ P N M K ∧ HD σ P N c ∧ PN σ np ∧ (∀ p, p < np → Pe σ N M p) ∧ IM σ ∧ MS σ ∧ (∀ k, k < 3 → RUk σ k) ∧ rm B σ c
def RX (B : Nat) (σ : zS) (c : Nat) : Prop := ∃ P S N M K np t n, RR B σ c P S N M K np t n
/-- cells of which nothing stands from one call to the next -/
def Xs (r j : Nat) : Prop := r = 8 ∨ (r = 12 ∧ (j = 3 ∨ j = 5)) ∨ r = 14 ∨ r = 15 ∨ (105 ≤ r ∧ r < 110) ∨ (112 ≤ r ∧ r < 116) ∨ XV r j ∨ XW r j ∨ (245 ≤ r ∧ r < 252) ∨ (r = 176 ∧ (j = 88 ∨ j = 3))
section
variable {σ σ' : zS} {X : Nat → Nat → Prop} {B P S N M K np c p k so z n : Nat} {t : Nat → Nat}
theorem rm_un (h : rm B σ c) (u : Un X σ σ') (hX : ∀ j, ¬ X 236 j) : rm B σ' c := by
  unfold rm zsl at *
  rw [u.1]
  refine ⟨h.1, h.2.1, fun p hp => ?_⟩
  rw [u.i (by omega) (by omega) (by omega) (hX p)]
  exact h.2.2 p hp
theorem rm_mono (h : rm B σ c) {c' : Nat} (hc : c ≤ c') : rm B σ c' := ⟨by have := h.1; omega, by have := h.2.1; omega, fun p hp => by
  obtain ⟨m, h1, h2⟩ := h.2.2 p hp
  exact ⟨m, by omega, h2⟩⟩
theorem RR_mono (h : RR B σ c P S N M K np t n) {c' : Nat} (hc : c ≤ c') : RR B σ c' P S N M K np t n := by
  obtain ⟨h1, h2, h3, h4, h5, h6, h7, h8, h9, h10, h11, h12, h13⟩ := h
  exact ⟨h1, h2, h3, h4, h5, h6, HD_mono h7 hc, h8, h9, h10, h11, h12, rm_mono h13 hc⟩
theorem nX_lo {r j : Nat} (h1 : 16 ≤ r) (h2 : r < 105) : ¬ Xs r j := by
  intro q; unfold Xs XV XU XL XW at q; omega
theorem nX_pe {r j : Nat} (h1 : 116 ≤ r) (h2 : r < 176) : ¬ Xs r j := by
  intro q; unfold Xs XV XU XL XW at q; omega
theorem nX_wd {r j : Nat} (h1 : 177 ≤ r) (h2 : r < 213) : ¬ Xs r j := by
  intro q; unfold Xs XV XU XL XW at q; omega
theorem nX_hi {r j : Nat} (h1 : 232 ≤ r) (h2 : r < 245) : ¬ Xs r j := by
  intro q; unfold Xs XV XU XL XW at q; omega
theorem nX_st {r j : Nat} (h1 : r = 6 ∨ r = 7 ∨ r = 9 ∨ r = 13) : ¬ Xs r j := by
  intro q; unfold Xs XV XU XL XW at q; omega
theorem nX_im {r j : Nat} (h1 : r = 110 ∨ r = 111 ∨ r = 252 ∨ r = 227) : ¬ Xs r j := by
  intro q; unfold Xs XV XU XL XW at q; omega
theorem nX_rf {j : Nat} (h : j = 1 ∨ j = 7 ∨ j = 8 ∨ (70 ≤ j ∧ j < 88) ∨ 88 < j) : ¬ Xs 176 j := by
  intro q; unfold Xs XV XU XL XW at q; omega
theorem nX_213 {j : Nat} (h : 24 ≤ j) : ¬ Xs 213 j := by
  intro q; unfold Xs XV XU XL XW at q; omega
theorem nX_214 {j : Nat} (h : 3 ≤ j) : ¬ Xs 214 j := by
  intro q; unfold Xs XV XU XL XW at q; omega
theorem nX_215 {j : Nat} (h : 8 ≤ j) : ¬ Xs 215 j := by
  intro q; unfold Xs XV XU XL XW at q; omega
theorem nX_217 {j : Nat} (h : 20 ≤ j) : ¬ Xs 217 j := by
  intro q; unfold Xs XV XU XL XW at q; omega
theorem nX_218 {r j : Nat} (h1 : r = 218 ∨ r = 219 ∨ r = 220) (h : 4 ≤ j) : ¬ Xs r j := by
  intro q; unfold Xs XV XU XL XW at q; omega
theorem nX_221 {j : Nat} (h : 30 ≤ j) : ¬ Xs 221 j := by
  intro q; unfold Xs XV XU XL XW at q; omega
theorem nX_222 {j : Nat} (h : 5 ≤ j) : ¬ Xs 222 j := by
  intro q; unfold Xs XV XU XL XW at q; omega
theorem nX_223 {j : Nat} (h : 3 ≤ j) : ¬ Xs 223 j := by
  intro q; unfold Xs XV XU XL XW at q; omega
theorem nX_224 {j : Nat} (h : 160 ≤ j) : ¬ Xs 224 j := by
  intro q; unfold Xs XV XU XL XW at q; omega
theorem nX_225 {j : Nat} (h : j < 4800) : ¬ Xs 225 j := by
  intro q; unfold Xs XV XU XL XW at q; omega
theorem nX_228 {j : Nat} (h : j < 3) : ¬ Xs 228 j := by
  intro q; unfold Xs XV XU XL XW at q; omega
theorem nX_229 {r j : Nat} (h1 : r = 229 ∨ r = 230 ∨ r = 231) (h : j < 120) : ¬ Xs r j := by
  intro q; unfold Xs XV XU XL XW at q; omega
theorem HH_xs (h : HH σ P N M K) (hP : HP P) (hS : Sh σ) (u : Un Xs σ σ') : HH σ' P N M K := by
  have hb := HPb hP
  obtain ⟨h1, h2, h3, h4, h5, h6, h7, h8, h9, h10⟩ := h
  have n1 := h1.1.2.1
  have n2 := h1.2.1.2.1
  have n3 := h1.2.2.2.1
  have lo : ∀ i j, i < 44 → ¬ Xs (P + i) j := fun i j hi => nX_lo (by omega) (by omega)
  refine ⟨HN_un h1 hP u (fun j _ _ => lo 0 j (by omega)) (fun j _ _ => nX_214 (by omega)), HF_un h2 hP u ⟨lo 0 _ (by omega), lo 0 _ (by omega)⟩ ⟨nX_223 (by omega), nX_223 (by omega)⟩, HC_un h3 hP u (lo 0 _ (by omega)) (nX_223 (by omega)), HPl_un h4 hP u (fun j _ => lo 4 _ (by omega)) (fun j _ _ => nX_222 (by omega)), fun k hk => HL_un (h5 k hk) (by omega) hP u (fun j _ => nX_lo (by omega) (by omega)) ⟨nX_213 (by omega), nX_215 (by omega)⟩, fun k hk => HO_un (h6 k hk) (by omega) hP u (fun j => ⟨nX_lo (by omega) (by omega), nX_lo (by omega) (by omega)⟩) ⟨nX_213 (by omega), nX_218 (by omega) (by omega), nX_218 (by omega) (by omega), nX_218 (by omega) (by omega), fun d _ => nX_217 (by omega)⟩, fun k hk => HQ_un (h7 k hk) (by omega) hP u (fun j => ⟨nX_lo (by omega) (by omega), nX_lo (by omega) (by omega)⟩) ⟨nX_213 (by omega), fun d _ => nX_221 (by omega)⟩, fun k hk => HR_un (h8 k hk) (by omega) hP u (fun j => nX_lo (by omega) (by omega)) (fun r _ => nX_hi (by omega) (by omega)), fun k hk => HU_un (h9 k hk) (by omega) hP u (nX_lo (by omega) (by omega)) (nX_hi (by omega) (by omega)), HS_un h10 n1 hS hP u (fun j => nX_lo (by omega) (by omega)) (fun j _ => nX_224 (by omega))⟩
theorem Pe_xs (h : Pe σ N M p) (hp : p < 20) (hS : Sh σ) (u : Un Xs σ σ') : Pe σ' N M p := by
  obtain ⟨so, z, h1, h2, h3, h4, h5, h6, h7, h8⟩ := h
  have lo : ∀ r j, 116 ≤ r → r < 176 → ¬ Xs r j := fun r j a b => nX_pe a b
  have hi : ∀ r j, 232 ≤ r → r < 245 → ¬ Xs r j := fun r j a b => nX_hi a b
  exact ⟨so, z, h1, h2, h3, PA_un h4 hp u ⟨lo _ _ (by omega) (by omega), lo _ _ (by omega) (by omega), hi _ _ (by omega) (by omega), hi _ _ (by omega) (by omega)⟩, PF_un h5 hp hS u ⟨fun d => lo _ _ (by omega) (by omega), fun d _ => hi _ _ (by omega) (by omega)⟩, PB_un h6 hp u ⟨lo _ _ (by omega) (by omega), lo _ _ (by omega) (by omega), hi _ _ (by omega) (by omega), hi _ _ (by omega) (by omega)⟩, PT_un h7 hp u ⟨lo _ _ (by omega) (by omega), hi _ _ (by omega) (by omega)⟩, PK_un h8 hp h3 hS u ⟨lo _ _ (by omega) (by omega), lo _ _ (by omega) (by omega), hi _ _ (by omega) (by omega), hi _ _ (by omega) (by omega), fun j => lo _ _ (by omega) (by omega), fun j _ _ => hi _ _ (by omega) (by omega)⟩⟩
theorem RU_xs (h : RUk σ k) (hk : k < 3) (hS : Sh σ) (u : Un Xs σ σ') : RUk σ' k := RUk_un h hk hS u ⟨nX_st (by omega), nX_im (by omega), nX_228 (by omega), fun r j a _ _ => nX_229 a (by omega), fun j _ _ => nX_225 (by omega)⟩
theorem RR_xs (h : RR B σ c P S N M K np t n) (u : Un Xs σ σ') (hS' : Sh σ') : RR B σ' c P S N M K np t n := by
  obtain ⟨h1, h2, h3, h4, h5, h6, h7, h8, h9, h10, h11, h12, h13⟩ := h
  have hP := h2.1
  have hb := HPb hP
  exact ⟨hS', Hs_un h2 u ⟨nX_st (by omega), nX_st (by omega)⟩, Tp_un h3 h1 u ⟨fun j => nX_st (by omega), fun j => nX_wd (by omega) (by omega), nX_st (by omega), nX_rf (by omega)⟩, Ow_un h4 h1 u (fun r j a => by
    rcases a with rfl | a
    · exact nX_st (by omega)
    · exact nX_wd (by omega) (by omega)), Ft_un h5 u ⟨nX_st (by omega), nX_st (by omega), nX_rf (by omega), nX_rf (by omega)⟩, HH_xs h6 hP h1 u, HD_un h7 h1 hP u ⟨nX_lo (by omega) (by omega), nX_lo (by omega) (by omega), fun j => nX_lo (by omega) (by omega)⟩ ⟨nX_rf (by omega), nX_rf (by omega), fun j => nX_hi (by omega) (by omega), fun j => nX_hi (by omega) (by omega)⟩, PN_un h8 u ⟨nX_st (by omega), nX_rf (by omega)⟩, fun p hp => Pe_xs (h9 p hp) (by have := h8.1; omega) h1 u, IM_un h10 h1 u ⟨nX_im (by omega), nX_rf (by omega), fun j => nX_im (by omega), fun j => nX_im (by omega)⟩, MS_un h11 u ⟨nX_st (by omega), nX_rf (by omega), nX_st (by omega), nX_rf (by omega)⟩, fun k hk => RU_xs (h12 k hk) hk h1 u, rm_un h13 u (fun j => nX_hi (by omega) (by omega))⟩
/-- the house, but for a changed part of it -/
theorem Un.sh (u : Un X σ σ') (h : Sh σ) (hF : ∀ e ∈ zF0, gR σ' e.1 e.2.1 = gR σ e.1 e.2.1) (hE : ∀ e ∈ zE0, gR σ' e.1 e.2.1 = gR σ e.1 e.2.1) (hP : ∀ j, j < 6 → gI σ' 1 j = gI σ 1 j) : Sh σ' := by
  obtain ⟨⟨L, KK, hK⟩, h2, h3, h4⟩ := h
  refine ⟨⟨L, KK, by rw [u.1]; exact hK⟩, fun e he => ?_, fun e he => ?_, fun j hj => ?_⟩
  · rw [hF e he]; exact h2 e he
  · rw [hE e he]; exact h3 e he
  · rw [hP j hj]; exact h4 j hj
end
