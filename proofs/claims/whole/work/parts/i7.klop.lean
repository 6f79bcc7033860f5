/-! the law's loop -/
section
variable {σ σ' : zS} {B L i c P S N M K np n mC mR m : Nat} {xs : Nat → Int32} {aC aR args : List Value} {t : Nat → Nat} {v : Option Value}
theorem W0.tk (h : W0 L xs σ) : tg σ 0 = 48 := tg_kd h.1
theorem W0.l (h : W0 L xs σ) : ln σ 0 = L := ln_kd h.1
theorem W0.a (h : W0 L xs σ) {k : Nat} (hk : k < L) (hL : L ≤ 3072) : ai σ 32 48 0 (nI k) = true := ai_nI (.inr h.tk) h.l hk (by omega)
theorem W0.ke (h : W0 L xs σ) (he : (eff m).elem 10048 = false) (hr : zM m args σ = some (v, σ')) : W0 L xs σ' := by
  obtain ⟨⟨K, hK⟩, h2⟩ := zM_ke hr
  have hl : 0 < σ.1.length := (List.getElem?_eq_some_iff.mp h.1).1
  refine ⟨?_, fun j => ?_⟩
  · rw [← hK, List.getElem?_append_left hl]
    exact h.1
  · rw [(h2 0 j hl (by rw [h.tk]; exact he)).1]
    exact h.2 j
theorem law_al (hw : W0 L xs σ) (A : Al B σ c mC aC mR aR) (e1 : (eff mC).elem 10048 = false) (e2 : (eff mR).elem 10048 = false) : ∃ v σ1 σ2, zM mC aC σ = some (some (.int v), σ1) ∧ Sh σ1 ∧ W0 L xs σ1 ∧ zM mR aR σ1 = some (some (.int v), σ2) ∧ W0 L xs σ2 ∧ RX B σ2 (c + 1) := by
  obtain ⟨v, s1, s2, a1, a2, a3, a4⟩ := A
  have w1 := hw.ke e1 a1
  exact ⟨v, s1, s2, a1, a2, w1, a3, w1.ke e2 a3, a4⟩
theorem law_alL (hw : W0 L xs σ) (A : AlL B σ c mC aC mR aR) (e1 : (eff mC).elem 10048 = false) (e2 : (eff mR).elem 10048 = false) : ∃ v σ1 σ2, zM mC aC σ = some (some (.long v), σ1) ∧ Sh σ1 ∧ W0 L xs σ1 ∧ zM mR aR σ1 = some (some (.long v), σ2) ∧ W0 L xs σ2 ∧ RX B σ2 (c + 1) := by
  obtain ⟨v, s1, s2, a1, a2, a3, a4⟩ := A
  have w1 := hw.ke e1 a1
  exact ⟨v, s1, s2, a1, a2, w1, a3, w1.ke e2 a3, a4⟩
def LX (B L : Nat) (xs : Nat → Int32) (i c : Nat) (σ : zS) : Prop := ∃ σ2, zR 87 338 10 [some (.ref 0), some (.ref 6), some (.ref 176), some (.int (nI (6 * i)))] [] σ = zR 87 338 1120 [some (.ref 0), some (.ref 6), some (.ref 176), some (.int (nI (6 * i)))] [] σ2 ∧ W0 L xs σ2 ∧ RX B σ2 (c + 1)
theorem lw_0 (h : RR B σ c P S N M K np t n) (hw : W0 L xs σ) (hi : 6 * i + 6 ≤ L) (hL : L ≤ 3072) (hc : c ≤ 600) (hk : xs (6 * i) &&& 63 = 0) : LX B L xs i c σ := by
  have hS := h.1
  obtain ⟨v, s1, s2, e1, S1, w1, e2, w2, rx⟩ := law_al hw (op_feed h (xs (6 * i + 1)) (xs (6 * i + 2)) (xs (6 * i + 3)) (xs (6 * i + 4)) (xs (6 * i + 5))) (by decide +kernel) (by decide +kernel)
  refine ⟨s2, ?_, w2, rx⟩
  have nl : ¬ Int32.ofNat L - 6 < nI (6 * i) := by
    rw [show Int32.ofNat L - 6 = nI (L - 6) from nI_subR (n := 6) (k := L) (by omega)]
    exact nI_nlt (by omega) (by omega)
  have x0 : ix (nI (6 * i)) = 6 * i := ixn (by omega)
  have x1 : ix (nI (6 * i + 1)) = 6 * i + 1 := ixn (by omega)
  have x2 : ix (nI (6 * i + 2)) = 6 * i + 2 := ixn (by omega)
  have x3 : ix (nI (6 * i + 3)) = 6 * i + 3 := ixn (by omega)
  have x4 : ix (nI (6 * i + 4)) = 6 * i + 4 := ixn (by omega)
  have x5 : ix (nI (6 * i + 5)) = 6 * i + 5 := ixn (by omega)
  rw [q_L_law_10, hw.tk, if_pos (show 32 ≤ 48 by omega), hw.l, if_neg nl, if_pos (hw.a (show 6 * i < L by omega) hL), x0, hw.2 (6 * i), hk, if_pos (show (0 : Int32) = 0 by decide)]
  rw [q_L_law_22]
  rw [nI_addR 1 (6 * i), nI_addR 2 (6 * i), nI_addR 3 (6 * i), nI_addR 4 (6 * i), nI_addR 5 (6 * i), if_pos (hw.a (show 6 * i + 1 < L by omega) hL), if_pos (hw.a (show 6 * i + 2 < L by omega) hL), if_pos (hw.a (show 6 * i + 3 < L by omega) hL), if_pos (hw.a (show 6 * i + 4 < L by omega) hL), if_pos (hw.a (show 6 * i + 5 < L by omega) hL), tg_6 hS, if_pos rfl, x1, x2, x3, x4, x5, hw.2 (6 * i + 1), hw.2 (6 * i + 2), hw.2 (6 * i + 3), hw.2 (6 * i + 4), hw.2 (6 * i + 5), e1, zbI_e, if_pos (w1.a (show 6 * i + 1 < L by omega) hL), if_pos (w1.a (show 6 * i + 2 < L by omega) hL), if_pos (w1.a (show 6 * i + 3 < L by omega) hL), if_pos (w1.a (show 6 * i + 4 < L by omega) hL), if_pos (w1.a (show 6 * i + 5 < L by omega) hL), tg_176 S1, if_pos rfl, w1.2 (6 * i + 1), w1.2 (6 * i + 2), w1.2 (6 * i + 3), w1.2 (6 * i + 4), w1.2 (6 * i + 5), e2, zbI_e, if_pos rfl]
theorem lw_1 (h : RR B σ c P S N M K np t n) (hw : W0 L xs σ) (hi : 6 * i + 6 ≤ L) (hL : L ≤ 3072) (hc : c ≤ 600) (hk : xs (6 * i) &&& 63 = 1) : LX B L xs i c σ := by
  have hS := h.1
  obtain ⟨v, s1, s2, e1, S1, w1, e2, w2, rx⟩ := law_al hw (op_end h (xs (6 * i + 1))) (by decide +kernel) (by decide +kernel)
  refine ⟨s2, ?_, w2, rx⟩
  have nl : ¬ Int32.ofNat L - 6 < nI (6 * i) := by
    rw [show Int32.ofNat L - 6 = nI (L - 6) from nI_subR (n := 6) (k := L) (by omega)]
    exact nI_nlt (by omega) (by omega)
  have x0 : ix (nI (6 * i)) = 6 * i := ixn (by omega)
  have x1 : ix (nI (6 * i + 1)) = 6 * i + 1 := ixn (by omega)
  rw [q_L_law_10, hw.tk, if_pos (show 32 ≤ 48 by omega), hw.l, if_neg nl, if_pos (hw.a (show 6 * i < L by omega) hL), x0, hw.2 (6 * i), hk, if_neg (show ¬ (1 : Int32) = 0 by decide), if_pos (show (1 : Int32) = 1 by decide)]
  rw [nI_addR 1 (6 * i), if_pos (hw.a (show 6 * i + 1 < L by omega) hL), tg_6 hS, if_pos rfl, x1, hw.2 (6 * i + 1), e1, zbI_e, if_pos (w1.a (show 6 * i + 1 < L by omega) hL), tg_176 S1, if_pos rfl, w1.2 (6 * i + 1), e2, zbI_e, if_pos rfl]
theorem lw_2 (h : RR B σ c P S N M K np t n) (hw : W0 L xs σ) (hi : 6 * i + 6 ≤ L) (hL : L ≤ 3072) (hc : c ≤ 600) (hk : xs (6 * i) &&& 63 = 2) : LX B L xs i c σ := by
  have hS := h.1
  obtain ⟨v, s1, s2, e1, S1, w1, e2, w2, rx⟩ := law_al hw (op_house h) (by decide +kernel) (by decide +kernel)
  refine ⟨s2, ?_, w2, rx⟩
  have nl : ¬ Int32.ofNat L - 6 < nI (6 * i) := by
    rw [show Int32.ofNat L - 6 = nI (L - 6) from nI_subR (n := 6) (k := L) (by omega)]
    exact nI_nlt (by omega) (by omega)
  have x0 : ix (nI (6 * i)) = 6 * i := ixn (by omega)
  rw [q_L_law_10, hw.tk, if_pos (show 32 ≤ 48 by omega), hw.l, if_neg nl, if_pos (hw.a (show 6 * i < L by omega) hL), x0, hw.2 (6 * i), hk, if_neg (show ¬ (2 : Int32) = 0 by decide), if_neg (show ¬ (2 : Int32) = 1 by decide), if_pos (show (2 : Int32) = 2 by decide)]
  rw [tg_6 hS, if_pos rfl, e1, zbI_e, tg_176 S1, if_pos rfl, e2, zbI_e, if_pos rfl]
theorem lw_3 (h : RR B σ c P S N M K np t n) (hw : W0 L xs σ) (hi : 6 * i + 6 ≤ L) (hL : L ≤ 3072) (hc : c ≤ 600) (hk : xs (6 * i) &&& 63 = 3) : LX B L xs i c σ := by
  have hS := h.1
  obtain ⟨v, s1, s2, e1, S1, w1, e2, w2, rx⟩ := law_al hw (op_rule h (xs (6 * i + 1))) (by decide +kernel) (by decide +kernel)
  refine ⟨s2, ?_, w2, rx⟩
  have nl : ¬ Int32.ofNat L - 6 < nI (6 * i) := by
    rw [show Int32.ofNat L - 6 = nI (L - 6) from nI_subR (n := 6) (k := L) (by omega)]
    exact nI_nlt (by omega) (by omega)
  have x0 : ix (nI (6 * i)) = 6 * i := ixn (by omega)
  have x1 : ix (nI (6 * i + 1)) = 6 * i + 1 := ixn (by omega)
  rw [q_L_law_10, hw.tk, if_pos (show 32 ≤ 48 by omega), hw.l, if_neg nl, if_pos (hw.a (show 6 * i < L by omega) hL), x0, hw.2 (6 * i), hk, if_neg (show ¬ (3 : Int32) = 0 by decide), if_neg (show ¬ (3 : Int32) = 1 by decide), if_neg (show ¬ (3 : Int32) = 2 by decide), if_pos (show (3 : Int32) = 3 by decide)]
  rw [nI_addR 1 (6 * i), if_pos (hw.a (show 6 * i + 1 < L by omega) hL), tg_6 hS, if_pos rfl, x1, hw.2 (6 * i + 1), e1, zbI_e, if_pos (w1.a (show 6 * i + 1 < L by omega) hL), tg_176 S1, if_pos rfl, w1.2 (6 * i + 1), e2, zbI_e, if_pos rfl]
theorem lw_4 (h : RR B σ c P S N M K np t n) (hw : W0 L xs σ) (hi : 6 * i + 6 ≤ L) (hL : L ≤ 3072) (hc : c ≤ 600) (hk : xs (6 * i) &&& 63 = 4) : LX B L xs i c σ := by
  have hS := h.1
  obtain ⟨v, s1, s2, e1, S1, w1, e2, w2, rx⟩ := law_al hw (op_fault h (xs (6 * i + 1))) (by decide +kernel) (by decide +kernel)
  refine ⟨s2, ?_, w2, rx⟩
  have nl : ¬ Int32.ofNat L - 6 < nI (6 * i) := by
    rw [show Int32.ofNat L - 6 = nI (L - 6) from nI_subR (n := 6) (k := L) (by omega)]
    exact nI_nlt (by omega) (by omega)
  have x0 : ix (nI (6 * i)) = 6 * i := ixn (by omega)
  have x1 : ix (nI (6 * i + 1)) = 6 * i + 1 := ixn (by omega)
  rw [q_L_law_10, hw.tk, if_pos (show 32 ≤ 48 by omega), hw.l, if_neg nl, if_pos (hw.a (show 6 * i < L by omega) hL), x0, hw.2 (6 * i), hk, if_neg (show ¬ (4 : Int32) = 0 by decide), if_neg (show ¬ (4 : Int32) = 1 by decide), if_neg (show ¬ (4 : Int32) = 2 by decide), if_neg (show ¬ (4 : Int32) = 3 by decide), if_pos (show (4 : Int32) = 4 by decide)]
  rw [nI_addR 1 (6 * i), if_pos (hw.a (show 6 * i + 1 < L by omega) hL), tg_6 hS, if_pos rfl, x1, hw.2 (6 * i + 1), e1, zbI_e, if_pos (w1.a (show 6 * i + 1 < L by omega) hL), tg_176 S1, if_pos rfl, w1.2 (6 * i + 1), e2, zbI_e, if_pos rfl]
theorem lw_5 (h : RR B σ c P S N M K np t n) (hw : W0 L xs σ) (hi : 6 * i + 6 ≤ L) (hL : L ≤ 3072) (hc : c ≤ 600) (hk : xs (6 * i) &&& 63 = 5) : LX B L xs i c σ := by
  have hS := h.1
  obtain ⟨v, s1, s2, e1, S1, w1, e2, w2, rx⟩ := law_al hw (op_has h (xs (6 * i + 1))) (by decide +kernel) (by decide +kernel)
  refine ⟨s2, ?_, w2, rx⟩
  have nl : ¬ Int32.ofNat L - 6 < nI (6 * i) := by
    rw [show Int32.ofNat L - 6 = nI (L - 6) from nI_subR (n := 6) (k := L) (by omega)]
    exact nI_nlt (by omega) (by omega)
  have x0 : ix (nI (6 * i)) = 6 * i := ixn (by omega)
  have x1 : ix (nI (6 * i + 1)) = 6 * i + 1 := ixn (by omega)
  rw [q_L_law_10, hw.tk, if_pos (show 32 ≤ 48 by omega), hw.l, if_neg nl, if_pos (hw.a (show 6 * i < L by omega) hL), x0, hw.2 (6 * i), hk, if_neg (show ¬ (5 : Int32) = 0 by decide), if_neg (show ¬ (5 : Int32) = 1 by decide), if_neg (show ¬ (5 : Int32) = 2 by decide), if_neg (show ¬ (5 : Int32) = 3 by decide), if_neg (show ¬ (5 : Int32) = 4 by decide), if_pos (show (5 : Int32) = 5 by decide)]
  rw [nI_addR 1 (6 * i), if_pos (hw.a (show 6 * i + 1 < L by omega) hL), tg_6 hS, if_pos rfl, x1, hw.2 (6 * i + 1), e1, zbI_e, if_pos (w1.a (show 6 * i + 1 < L by omega) hL), tg_176 S1, if_pos rfl, w1.2 (6 * i + 1), e2, zbI_e, if_pos rfl]
theorem lw_6 (h : RR B σ c P S N M K np t n) (hw : W0 L xs σ) (hi : 6 * i + 6 ≤ L) (hL : L ≤ 3072) (hc : c ≤ 600) (hk : xs (6 * i) &&& 63 = 6) : LX B L xs i c σ := by
  have hS := h.1
  obtain ⟨v, s1, s2, e1, S1, w1, e2, w2, rx⟩ := law_al hw (op_letter h (xs (6 * i + 1)) (xs (6 * i + 2)) (xs (6 * i + 3))) (by decide +kernel) (by decide +kernel)
  refine ⟨s2, ?_, w2, rx⟩
  have nl : ¬ Int32.ofNat L - 6 < nI (6 * i) := by
    rw [show Int32.ofNat L - 6 = nI (L - 6) from nI_subR (n := 6) (k := L) (by omega)]
    exact nI_nlt (by omega) (by omega)
  have x0 : ix (nI (6 * i)) = 6 * i := ixn (by omega)
  have x1 : ix (nI (6 * i + 1)) = 6 * i + 1 := ixn (by omega)
  have x2 : ix (nI (6 * i + 2)) = 6 * i + 2 := ixn (by omega)
  have x3 : ix (nI (6 * i + 3)) = 6 * i + 3 := ixn (by omega)
  rw [q_L_law_10, hw.tk, if_pos (show 32 ≤ 48 by omega), hw.l, if_neg nl, if_pos (hw.a (show 6 * i < L by omega) hL), x0, hw.2 (6 * i), hk, if_neg (show ¬ (6 : Int32) = 0 by decide), if_neg (show ¬ (6 : Int32) = 1 by decide), if_neg (show ¬ (6 : Int32) = 2 by decide), if_neg (show ¬ (6 : Int32) = 3 by decide), if_neg (show ¬ (6 : Int32) = 4 by decide), if_neg (show ¬ (6 : Int32) = 5 by decide), if_pos (show (6 : Int32) = 6 by decide)]
  rw [q_L_law_154]
  rw [nI_addR 1 (6 * i), nI_addR 2 (6 * i), nI_addR 3 (6 * i), if_pos (hw.a (show 6 * i + 1 < L by omega) hL), if_pos (hw.a (show 6 * i + 2 < L by omega) hL), if_pos (hw.a (show 6 * i + 3 < L by omega) hL), tg_6 hS, if_pos rfl, x1, x2, x3, hw.2 (6 * i + 1), hw.2 (6 * i + 2), hw.2 (6 * i + 3), e1, zbI_e, if_pos (w1.a (show 6 * i + 1 < L by omega) hL), if_pos (w1.a (show 6 * i + 2 < L by omega) hL), if_pos (w1.a (show 6 * i + 3 < L by omega) hL), tg_176 S1, if_pos rfl, w1.2 (6 * i + 1), w1.2 (6 * i + 2), w1.2 (6 * i + 3), e2, zbI_e, if_pos rfl]
theorem lw_7 (h : RR B σ c P S N M K np t n) (hw : W0 L xs σ) (hi : 6 * i + 6 ≤ L) (hL : L ≤ 3072) (hc : c ≤ 600) (hk : xs (6 * i) &&& 63 = 7) : LX B L xs i c σ := by
  have hS := h.1
  obtain ⟨v, s1, s2, e1, S1, w1, e2, w2, rx⟩ := law_al hw (op_person h (xs (6 * i + 1)) (xs (6 * i + 2))) (by decide +kernel) (by decide +kernel)
  refine ⟨s2, ?_, w2, rx⟩
  have nl : ¬ Int32.ofNat L - 6 < nI (6 * i) := by
    rw [show Int32.ofNat L - 6 = nI (L - 6) from nI_subR (n := 6) (k := L) (by omega)]
    exact nI_nlt (by omega) (by omega)
  have x0 : ix (nI (6 * i)) = 6 * i := ixn (by omega)
  have x1 : ix (nI (6 * i + 1)) = 6 * i + 1 := ixn (by omega)
  have x2 : ix (nI (6 * i + 2)) = 6 * i + 2 := ixn (by omega)
  rw [q_L_law_10, hw.tk, if_pos (show 32 ≤ 48 by omega), hw.l, if_neg nl, if_pos (hw.a (show 6 * i < L by omega) hL), x0, hw.2 (6 * i), hk, if_neg (show ¬ (7 : Int32) = 0 by decide), if_neg (show ¬ (7 : Int32) = 1 by decide), if_neg (show ¬ (7 : Int32) = 2 by decide), if_neg (show ¬ (7 : Int32) = 3 by decide), if_neg (show ¬ (7 : Int32) = 4 by decide), if_neg (show ¬ (7 : Int32) = 5 by decide), if_neg (show ¬ (7 : Int32) = 6 by decide), if_pos (show (7 : Int32) = 7 by decide)]
  rw [nI_addR 1 (6 * i), nI_addR 2 (6 * i), if_pos (hw.a (show 6 * i + 1 < L by omega) hL), if_pos (hw.a (show 6 * i + 2 < L by omega) hL), tg_6 hS, if_pos rfl, x1, x2, hw.2 (6 * i + 1), hw.2 (6 * i + 2), e1, zbI_e, if_pos (w1.a (show 6 * i + 1 < L by omega) hL), if_pos (w1.a (show 6 * i + 2 < L by omega) hL), tg_176 S1, if_pos rfl, w1.2 (6 * i + 1), w1.2 (6 * i + 2), e2, zbI_e, if_pos rfl]
theorem lw_8 (h : RR B σ c P S N M K np t n) (hw : W0 L xs σ) (hi : 6 * i + 6 ≤ L) (hL : L ≤ 3072) (hc : c ≤ 600) (hk : xs (6 * i) &&& 63 = 8) : LX B L xs i c σ := by
  have hS := h.1
  obtain ⟨v, s1, s2, e1, S1, w1, e2, w2, rx⟩ := law_al hw (op_foot h (xs (6 * i + 1)) (xs (6 * i + 2))) (by decide +kernel) (by decide +kernel)
  refine ⟨s2, ?_, w2, rx⟩
  have nl : ¬ Int32.ofNat L - 6 < nI (6 * i) := by
    rw [show Int32.ofNat L - 6 = nI (L - 6) from nI_subR (n := 6) (k := L) (by omega)]
    exact nI_nlt (by omega) (by omega)
  have x0 : ix (nI (6 * i)) = 6 * i := ixn (by omega)
  have x1 : ix (nI (6 * i + 1)) = 6 * i + 1 := ixn (by omega)
  have x2 : ix (nI (6 * i + 2)) = 6 * i + 2 := ixn (by omega)
  rw [q_L_law_10, hw.tk, if_pos (show 32 ≤ 48 by omega), hw.l, if_neg nl, if_pos (hw.a (show 6 * i < L by omega) hL), x0, hw.2 (6 * i), hk, if_neg (show ¬ (8 : Int32) = 0 by decide), if_neg (show ¬ (8 : Int32) = 1 by decide), if_neg (show ¬ (8 : Int32) = 2 by decide), if_neg (show ¬ (8 : Int32) = 3 by decide), if_neg (show ¬ (8 : Int32) = 4 by decide), if_neg (show ¬ (8 : Int32) = 5 by decide), if_neg (show ¬ (8 : Int32) = 6 by decide), if_neg (show ¬ (8 : Int32) = 7 by decide), if_pos (show (8 : Int32) = 8 by decide)]
  rw [nI_addR 1 (6 * i), nI_addR 2 (6 * i), if_pos (hw.a (show 6 * i + 1 < L by omega) hL), if_pos (hw.a (show 6 * i + 2 < L by omega) hL), tg_6 hS, if_pos rfl, x1, x2, hw.2 (6 * i + 1), hw.2 (6 * i + 2), e1, zbI_e, if_pos (w1.a (show 6 * i + 1 < L by omega) hL), if_pos (w1.a (show 6 * i + 2 < L by omega) hL), tg_176 S1, if_pos rfl, w1.2 (6 * i + 1), w1.2 (6 * i + 2), e2, zbI_e, if_pos rfl]
theorem lw_9 (h : RR B σ c P S N M K np t n) (hw : W0 L xs σ) (hi : 6 * i + 6 ≤ L) (hL : L ≤ 3072) (hc : c ≤ 600) (hk : xs (6 * i) &&& 63 = 9) : LX B L xs i c σ := by
  have hS := h.1
  obtain ⟨v, s1, s2, e1, S1, w1, e2, w2, rx⟩ := law_al hw (op_last h (xs (6 * i + 1)) (xs (6 * i + 2))) (by decide +kernel) (by decide +kernel)
  refine ⟨s2, ?_, w2, rx⟩
  have nl : ¬ Int32.ofNat L - 6 < nI (6 * i) := by
    rw [show Int32.ofNat L - 6 = nI (L - 6) from nI_subR (n := 6) (k := L) (by omega)]
    exact nI_nlt (by omega) (by omega)
  have x0 : ix (nI (6 * i)) = 6 * i := ixn (by omega)
  have x1 : ix (nI (6 * i + 1)) = 6 * i + 1 := ixn (by omega)
  have x2 : ix (nI (6 * i + 2)) = 6 * i + 2 := ixn (by omega)
  rw [q_L_law_10, hw.tk, if_pos (show 32 ≤ 48 by omega), hw.l, if_neg nl, if_pos (hw.a (show 6 * i < L by omega) hL), x0, hw.2 (6 * i), hk, if_neg (show ¬ (9 : Int32) = 0 by decide), if_neg (show ¬ (9 : Int32) = 1 by decide), if_neg (show ¬ (9 : Int32) = 2 by decide), if_neg (show ¬ (9 : Int32) = 3 by decide), if_neg (show ¬ (9 : Int32) = 4 by decide), if_neg (show ¬ (9 : Int32) = 5 by decide), if_neg (show ¬ (9 : Int32) = 6 by decide), if_neg (show ¬ (9 : Int32) = 7 by decide), if_neg (show ¬ (9 : Int32) = 8 by decide), if_pos (show (9 : Int32) = 9 by decide)]
  rw [nI_addR 1 (6 * i), nI_addR 2 (6 * i), if_pos (hw.a (show 6 * i + 1 < L by omega) hL), if_pos (hw.a (show 6 * i + 2 < L by omega) hL), tg_6 hS, if_pos rfl, x1, x2, hw.2 (6 * i + 1), hw.2 (6 * i + 2), e1, zbI_e, if_pos (w1.a (show 6 * i + 1 < L by omega) hL), if_pos (w1.a (show 6 * i + 2 < L by omega) hL), tg_176 S1, if_pos rfl, w1.2 (6 * i + 1), w1.2 (6 * i + 2), e2, zbI_e, if_pos rfl]
theorem lw_10 (h : RR B σ c P S N M K np t n) (hw : W0 L xs σ) (hi : 6 * i + 6 ≤ L) (hL : L ≤ 3072) (hc : c ≤ 600) (hk : xs (6 * i) &&& 63 = 10) : LX B L xs i c σ := by
  have hS := h.1
  obtain ⟨v, s1, s2, e1, S1, w1, e2, w2, rx⟩ := law_al hw (op_who h (xs (6 * i + 1)) (xs (6 * i + 2))) (by decide +kernel) (by decide +kernel)
  refine ⟨s2, ?_, w2, rx⟩
  have nl : ¬ Int32.ofNat L - 6 < nI (6 * i) := by
    rw [show Int32.ofNat L - 6 = nI (L - 6) from nI_subR (n := 6) (k := L) (by omega)]
    exact nI_nlt (by omega) (by omega)
  have x0 : ix (nI (6 * i)) = 6 * i := ixn (by omega)
  have x1 : ix (nI (6 * i + 1)) = 6 * i + 1 := ixn (by omega)
  have x2 : ix (nI (6 * i + 2)) = 6 * i + 2 := ixn (by omega)
  rw [q_L_law_10, hw.tk, if_pos (show 32 ≤ 48 by omega), hw.l, if_neg nl, if_pos (hw.a (show 6 * i < L by omega) hL), x0, hw.2 (6 * i), hk, if_neg (show ¬ (10 : Int32) = 0 by decide), if_neg (show ¬ (10 : Int32) = 1 by decide), if_neg (show ¬ (10 : Int32) = 2 by decide), if_neg (show ¬ (10 : Int32) = 3 by decide), if_neg (show ¬ (10 : Int32) = 4 by decide), if_neg (show ¬ (10 : Int32) = 5 by decide), if_neg (show ¬ (10 : Int32) = 6 by decide), if_neg (show ¬ (10 : Int32) = 7 by decide), if_neg (show ¬ (10 : Int32) = 8 by decide), if_neg (show ¬ (10 : Int32) = 9 by decide), if_pos (show (10 : Int32) = 10 by decide)]
  rw [nI_addR 1 (6 * i), nI_addR 2 (6 * i), if_pos (hw.a (show 6 * i + 1 < L by omega) hL), if_pos (hw.a (show 6 * i + 2 < L by omega) hL), tg_6 hS, if_pos rfl, x1, x2, hw.2 (6 * i + 1), hw.2 (6 * i + 2), e1, zbI_e, if_pos (w1.a (show 6 * i + 1 < L by omega) hL), if_pos (w1.a (show 6 * i + 2 < L by omega) hL), tg_176 S1, if_pos rfl, w1.2 (6 * i + 1), w1.2 (6 * i + 2), e2, zbI_e, if_pos rfl]
theorem lw_11 (h : RR B σ c P S N M K np t n) (hw : W0 L xs σ) (hi : 6 * i + 6 ≤ L) (hL : L ≤ 3072) (hc : c ≤ 600) (hk : xs (6 * i) &&& 63 = 11) : LX B L xs i c σ := by
  have hS := h.1
  obtain ⟨v, s1, s2, e1, S1, w1, e2, w2, rx⟩ := law_alL hw (op_keeps h (xs (6 * i + 1)) (xs (6 * i + 2)) (xs (6 * i + 3)) (xs (6 * i + 4))) (by decide +kernel) (by decide +kernel)
  refine ⟨s2, ?_, w2, rx⟩
  have nl : ¬ Int32.ofNat L - 6 < nI (6 * i) := by
    rw [show Int32.ofNat L - 6 = nI (L - 6) from nI_subR (n := 6) (k := L) (by omega)]
    exact nI_nlt (by omega) (by omega)
  have x0 : ix (nI (6 * i)) = 6 * i := ixn (by omega)
  have x1 : ix (nI (6 * i + 1)) = 6 * i + 1 := ixn (by omega)
  have x2 : ix (nI (6 * i + 2)) = 6 * i + 2 := ixn (by omega)
  have x3 : ix (nI (6 * i + 3)) = 6 * i + 3 := ixn (by omega)
  have x4 : ix (nI (6 * i + 4)) = 6 * i + 4 := ixn (by omega)
  rw [q_L_law_10, hw.tk, if_pos (show 32 ≤ 48 by omega), hw.l, if_neg nl, if_pos (hw.a (show 6 * i < L by omega) hL), x0, hw.2 (6 * i), hk, if_neg (show ¬ (11 : Int32) = 0 by decide), if_neg (show ¬ (11 : Int32) = 1 by decide), if_neg (show ¬ (11 : Int32) = 2 by decide), if_neg (show ¬ (11 : Int32) = 3 by decide), if_neg (show ¬ (11 : Int32) = 4 by decide), if_neg (show ¬ (11 : Int32) = 5 by decide), if_neg (show ¬ (11 : Int32) = 6 by decide), if_neg (show ¬ (11 : Int32) = 7 by decide), if_neg (show ¬ (11 : Int32) = 8 by decide), if_neg (show ¬ (11 : Int32) = 9 by decide), if_neg (show ¬ (11 : Int32) = 10 by decide), if_pos (show (11 : Int32) = 11 by decide)]
  rw [q_L_law_299]
  rw [nI_addR 1 (6 * i), nI_addR 2 (6 * i), nI_addR 3 (6 * i), nI_addR 4 (6 * i), if_pos (hw.a (show 6 * i + 1 < L by omega) hL), if_pos (hw.a (show 6 * i + 2 < L by omega) hL), if_pos (hw.a (show 6 * i + 3 < L by omega) hL), if_pos (hw.a (show 6 * i + 4 < L by omega) hL), tg_6 hS, if_pos rfl, x1, x2, x3, x4, hw.2 (6 * i + 1), hw.2 (6 * i + 2), hw.2 (6 * i + 3), hw.2 (6 * i + 4), e1, zbL_e, if_pos (w1.a (show 6 * i + 1 < L by omega) hL), if_pos (w1.a (show 6 * i + 2 < L by omega) hL), if_pos (w1.a (show 6 * i + 3 < L by omega) hL), if_pos (w1.a (show 6 * i + 4 < L by omega) hL), tg_176 S1, if_pos rfl, w1.2 (6 * i + 1), w1.2 (6 * i + 2), w1.2 (6 * i + 3), w1.2 (6 * i + 4), e2, zbL_e, if_pos (show lg_cmp v v = 0 by rw [cmp_eq])]
theorem lw_12 (h : RR B σ c P S N M K np t n) (hw : W0 L xs σ) (hi : 6 * i + 6 ≤ L) (hL : L ≤ 3072) (hc : c ≤ 600) (hk : xs (6 * i) &&& 63 = 12) : LX B L xs i c σ := by
  have hS := h.1
  obtain ⟨v, s1, s2, e1, S1, w1, e2, w2, rx⟩ := law_al hw (op_after h (xs (6 * i + 1)) (xs (6 * i + 2)) (xs (6 * i + 3)) (xs (6 * i + 4)) (xs (6 * i + 5))) (by decide +kernel) (by decide +kernel)
  refine ⟨s2, ?_, w2, rx⟩
  have nl : ¬ Int32.ofNat L - 6 < nI (6 * i) := by
    rw [show Int32.ofNat L - 6 = nI (L - 6) from nI_subR (n := 6) (k := L) (by omega)]
    exact nI_nlt (by omega) (by omega)
  have x0 : ix (nI (6 * i)) = 6 * i := ixn (by omega)
  have x1 : ix (nI (6 * i + 1)) = 6 * i + 1 := ixn (by omega)
  have x2 : ix (nI (6 * i + 2)) = 6 * i + 2 := ixn (by omega)
  have x3 : ix (nI (6 * i + 3)) = 6 * i + 3 := ixn (by omega)
  have x4 : ix (nI (6 * i + 4)) = 6 * i + 4 := ixn (by omega)
  have x5 : ix (nI (6 * i + 5)) = 6 * i + 5 := ixn (by omega)
  rw [q_L_law_10, hw.tk, if_pos (show 32 ≤ 48 by omega), hw.l, if_neg nl, if_pos (hw.a (show 6 * i < L by omega) hL), x0, hw.2 (6 * i), hk, if_neg (show ¬ (12 : Int32) = 0 by decide), if_neg (show ¬ (12 : Int32) = 1 by decide), if_neg (show ¬ (12 : Int32) = 2 by decide), if_neg (show ¬ (12 : Int32) = 3 by decide), if_neg (show ¬ (12 : Int32) = 4 by decide), if_neg (show ¬ (12 : Int32) = 5 by decide), if_neg (show ¬ (12 : Int32) = 6 by decide), if_neg (show ¬ (12 : Int32) = 7 by decide), if_neg (show ¬ (12 : Int32) = 8 by decide), if_neg (show ¬ (12 : Int32) = 9 by decide), if_neg (show ¬ (12 : Int32) = 10 by decide), if_neg (show ¬ (12 : Int32) = 11 by decide), if_pos (show (12 : Int32) = 12 by decide)]
  rw [q_L_law_347]
  rw [nI_addR 1 (6 * i), nI_addR 2 (6 * i), nI_addR 3 (6 * i), nI_addR 4 (6 * i), nI_addR 5 (6 * i), if_pos (hw.a (show 6 * i + 1 < L by omega) hL), if_pos (hw.a (show 6 * i + 2 < L by omega) hL), if_pos (hw.a (show 6 * i + 3 < L by omega) hL), if_pos (hw.a (show 6 * i + 4 < L by omega) hL), if_pos (hw.a (show 6 * i + 5 < L by omega) hL), tg_6 hS, if_pos rfl, x1, x2, x3, x4, x5, hw.2 (6 * i + 1), hw.2 (6 * i + 2), hw.2 (6 * i + 3), hw.2 (6 * i + 4), hw.2 (6 * i + 5), e1, zbI_e, if_pos (w1.a (show 6 * i + 1 < L by omega) hL), if_pos (w1.a (show 6 * i + 2 < L by omega) hL), if_pos (w1.a (show 6 * i + 3 < L by omega) hL), if_pos (w1.a (show 6 * i + 4 < L by omega) hL), if_pos (w1.a (show 6 * i + 5 < L by omega) hL), tg_176 S1, if_pos rfl, w1.2 (6 * i + 1), w1.2 (6 * i + 2), w1.2 (6 * i + 3), w1.2 (6 * i + 4), w1.2 (6 * i + 5), e2, zbI_e, if_pos rfl]
theorem lw_13 (h : RR B σ c P S N M K np t n) (hw : W0 L xs σ) (hi : 6 * i + 6 ≤ L) (hL : L ≤ 3072) (hc : c ≤ 600) (hk : xs (6 * i) &&& 63 = 13) : LX B L xs i c σ := by
  have hS := h.1
  obtain ⟨v, s1, s2, e1, S1, w1, e2, w2, rx⟩ := law_al hw (op_teaches h (xs (6 * i + 1)) (xs (6 * i + 2)) (xs (6 * i + 3)) (xs (6 * i + 4)) (xs (6 * i + 5))) (by decide +kernel) (by decide +kernel)
  refine ⟨s2, ?_, w2, rx⟩
  have nl : ¬ Int32.ofNat L - 6 < nI (6 * i) := by
    rw [show Int32.ofNat L - 6 = nI (L - 6) from nI_subR (n := 6) (k := L) (by omega)]
    exact nI_nlt (by omega) (by omega)
  have x0 : ix (nI (6 * i)) = 6 * i := ixn (by omega)
  have x1 : ix (nI (6 * i + 1)) = 6 * i + 1 := ixn (by omega)
  have x2 : ix (nI (6 * i + 2)) = 6 * i + 2 := ixn (by omega)
  have x3 : ix (nI (6 * i + 3)) = 6 * i + 3 := ixn (by omega)
  have x4 : ix (nI (6 * i + 4)) = 6 * i + 4 := ixn (by omega)
  have x5 : ix (nI (6 * i + 5)) = 6 * i + 5 := ixn (by omega)
  rw [q_L_law_10, hw.tk, if_pos (show 32 ≤ 48 by omega), hw.l, if_neg nl, if_pos (hw.a (show 6 * i < L by omega) hL), x0, hw.2 (6 * i), hk, if_neg (show ¬ (13 : Int32) = 0 by decide), if_neg (show ¬ (13 : Int32) = 1 by decide), if_neg (show ¬ (13 : Int32) = 2 by decide), if_neg (show ¬ (13 : Int32) = 3 by decide), if_neg (show ¬ (13 : Int32) = 4 by decide), if_neg (show ¬ (13 : Int32) = 5 by decide), if_neg (show ¬ (13 : Int32) = 6 by decide), if_neg (show ¬ (13 : Int32) = 7 by decide), if_neg (show ¬ (13 : Int32) = 8 by decide), if_neg (show ¬ (13 : Int32) = 9 by decide), if_neg (show ¬ (13 : Int32) = 10 by decide), if_neg (show ¬ (13 : Int32) = 11 by decide), if_neg (show ¬ (13 : Int32) = 12 by decide), if_pos (show (13 : Int32) = 13 by decide)]
  rw [q_L_law_404]
  rw [nI_addR 1 (6 * i), nI_addR 2 (6 * i), nI_addR 3 (6 * i), nI_addR 4 (6 * i), nI_addR 5 (6 * i), if_pos (hw.a (show 6 * i + 1 < L by omega) hL), if_pos (hw.a (show 6 * i + 2 < L by omega) hL), if_pos (hw.a (show 6 * i + 3 < L by omega) hL), if_pos (hw.a (show 6 * i + 4 < L by omega) hL), if_pos (hw.a (show 6 * i + 5 < L by omega) hL), tg_6 hS, if_pos rfl, x1, x2, x3, x4, x5, hw.2 (6 * i + 1), hw.2 (6 * i + 2), hw.2 (6 * i + 3), hw.2 (6 * i + 4), hw.2 (6 * i + 5), e1, zbI_e, if_pos (w1.a (show 6 * i + 1 < L by omega) hL), if_pos (w1.a (show 6 * i + 2 < L by omega) hL), if_pos (w1.a (show 6 * i + 3 < L by omega) hL), if_pos (w1.a (show 6 * i + 4 < L by omega) hL), if_pos (w1.a (show 6 * i + 5 < L by omega) hL), tg_176 S1, if_pos rfl, w1.2 (6 * i + 1), w1.2 (6 * i + 2), w1.2 (6 * i + 3), w1.2 (6 * i + 4), w1.2 (6 * i + 5), e2, zbI_e, if_pos rfl]
theorem lw_14 (h : RR B σ c P S N M K np t n) (hw : W0 L xs σ) (hi : 6 * i + 6 ≤ L) (hL : L ≤ 3072) (hc : c ≤ 600) (hk : xs (6 * i) &&& 63 = 14) : LX B L xs i c σ := by
  have hS := h.1
  obtain ⟨bv, hbv⟩ : ∃ bv : Int32, bv = if xs (6 * i + 4) = 0 then 0 else 1 := ⟨_, rfl⟩
  obtain ⟨v, s1, s2, e1, S1, w1, e2, w2, rx⟩ := law_al hw (op_mean h (xs (6 * i + 1)) (xs (6 * i + 2)) (xs (6 * i + 3)) bv) (by decide +kernel) (by decide +kernel)
  refine ⟨s2, ?_, w2, rx⟩
  have nl : ¬ Int32.ofNat L - 6 < nI (6 * i) := by
    rw [show Int32.ofNat L - 6 = nI (L - 6) from nI_subR (n := 6) (k := L) (by omega)]
    exact nI_nlt (by omega) (by omega)
  have x0 : ix (nI (6 * i)) = 6 * i := ixn (by omega)
  have x1 : ix (nI (6 * i + 1)) = 6 * i + 1 := ixn (by omega)
  have x2 : ix (nI (6 * i + 2)) = 6 * i + 2 := ixn (by omega)
  have x3 : ix (nI (6 * i + 3)) = 6 * i + 3 := ixn (by omega)
  have x4 : ix (nI (6 * i + 4)) = 6 * i + 4 := ixn (by omega)
  rw [q_L_law_10, hw.tk, if_pos (show 32 ≤ 48 by omega), hw.l, if_neg nl, if_pos (hw.a (show 6 * i < L by omega) hL), x0, hw.2 (6 * i), hk, if_neg (show ¬ (14 : Int32) = 0 by decide), if_neg (show ¬ (14 : Int32) = 1 by decide), if_neg (show ¬ (14 : Int32) = 2 by decide), if_neg (show ¬ (14 : Int32) = 3 by decide), if_neg (show ¬ (14 : Int32) = 4 by decide), if_neg (show ¬ (14 : Int32) = 5 by decide), if_neg (show ¬ (14 : Int32) = 6 by decide), if_neg (show ¬ (14 : Int32) = 7 by decide), if_neg (show ¬ (14 : Int32) = 8 by decide), if_neg (show ¬ (14 : Int32) = 9 by decide), if_neg (show ¬ (14 : Int32) = 10 by decide), if_neg (show ¬ (14 : Int32) = 11 by decide), if_neg (show ¬ (14 : Int32) = 12 by decide), if_neg (show ¬ (14 : Int32) = 13 by decide), if_pos (show (14 : Int32) = 14 by decide)]
  by_cases q : xs (6 * i + 4) = 0
  · rw [if_pos q] at hbv
    rw [hbv] at e1 e2
    rw [nI_addR 1 (6 * i), nI_addR 2 (6 * i), nI_addR 3 (6 * i), nI_addR 4 (6 * i), if_pos (hw.a (show 6 * i + 1 < L by omega) hL), if_pos (hw.a (show 6 * i + 2 < L by omega) hL), if_pos (hw.a (show 6 * i + 3 < L by omega) hL), if_pos (hw.a (show 6 * i + 4 < L by omega) hL), x1, x2, x3, x4, hw.2 (6 * i + 4), hw.2 (6 * i + 1), hw.2 (6 * i + 2), hw.2 (6 * i + 3), if_pos q, q_L_law_486, tg_6 hS, if_pos rfl, e1, zbI_e, nI_addR 1 (6 * i), nI_addR 2 (6 * i), nI_addR 3 (6 * i), nI_addR 4 (6 * i), if_pos (w1.a (show 6 * i + 1 < L by omega) hL), if_pos (w1.a (show 6 * i + 2 < L by omega) hL), if_pos (w1.a (show 6 * i + 3 < L by omega) hL), if_pos (w1.a (show 6 * i + 4 < L by omega) hL), x1, x2, x3, x4, w1.2 (6 * i + 4), w1.2 (6 * i + 1), w1.2 (6 * i + 2), w1.2 (6 * i + 3), if_pos q, tg_176 S1, if_pos rfl, e2, zbI_e, if_pos rfl]
  · rw [if_neg q] at hbv
    rw [hbv] at e1 e2
    rw [nI_addR 1 (6 * i), nI_addR 2 (6 * i), nI_addR 3 (6 * i), nI_addR 4 (6 * i), if_pos (hw.a (show 6 * i + 1 < L by omega) hL), if_pos (hw.a (show 6 * i + 2 < L by omega) hL), if_pos (hw.a (show 6 * i + 3 < L by omega) hL), if_pos (hw.a (show 6 * i + 4 < L by omega) hL), x1, x2, x3, x4, hw.2 (6 * i + 4), hw.2 (6 * i + 1), hw.2 (6 * i + 2), hw.2 (6 * i + 3), if_neg q, q_L_law_486, tg_6 hS, if_pos rfl, e1, zbI_e, nI_addR 1 (6 * i), nI_addR 2 (6 * i), nI_addR 3 (6 * i), nI_addR 4 (6 * i), if_pos (w1.a (show 6 * i + 1 < L by omega) hL), if_pos (w1.a (show 6 * i + 2 < L by omega) hL), if_pos (w1.a (show 6 * i + 3 < L by omega) hL), if_pos (w1.a (show 6 * i + 4 < L by omega) hL), x1, x2, x3, x4, w1.2 (6 * i + 4), w1.2 (6 * i + 1), w1.2 (6 * i + 2), w1.2 (6 * i + 3), if_neg q, tg_176 S1, if_pos rfl, e2, zbI_e, if_pos rfl]
theorem lw_15 (h : RR B σ c P S N M K np t n) (hw : W0 L xs σ) (hi : 6 * i + 6 ≤ L) (hL : L ≤ 3072) (hc : c ≤ 600) (hk : xs (6 * i) &&& 63 = 15) : LX B L xs i c σ := by
  have hS := h.1
  obtain ⟨bv, hbv⟩ : ∃ bv : Int32, bv = if xs (6 * i + 3) = 0 then 0 else 1 := ⟨_, rfl⟩
  obtain ⟨v, s1, s2, e1, S1, w1, e2, w2, rx⟩ := law_al hw (op_best h (xs (6 * i + 1)) (xs (6 * i + 2)) bv) (by decide +kernel) (by decide +kernel)
  refine ⟨s2, ?_, w2, rx⟩
  have nl : ¬ Int32.ofNat L - 6 < nI (6 * i) := by
    rw [show Int32.ofNat L - 6 = nI (L - 6) from nI_subR (n := 6) (k := L) (by omega)]
    exact nI_nlt (by omega) (by omega)
  have x0 : ix (nI (6 * i)) = 6 * i := ixn (by omega)
  have x1 : ix (nI (6 * i + 1)) = 6 * i + 1 := ixn (by omega)
  have x2 : ix (nI (6 * i + 2)) = 6 * i + 2 := ixn (by omega)
  have x3 : ix (nI (6 * i + 3)) = 6 * i + 3 := ixn (by omega)
  rw [q_L_law_10, hw.tk, if_pos (show 32 ≤ 48 by omega), hw.l, if_neg nl, if_pos (hw.a (show 6 * i < L by omega) hL), x0, hw.2 (6 * i), hk, if_neg (show ¬ (15 : Int32) = 0 by decide), if_neg (show ¬ (15 : Int32) = 1 by decide), if_neg (show ¬ (15 : Int32) = 2 by decide), if_neg (show ¬ (15 : Int32) = 3 by decide), if_neg (show ¬ (15 : Int32) = 4 by decide), if_neg (show ¬ (15 : Int32) = 5 by decide), if_neg (show ¬ (15 : Int32) = 6 by decide), if_neg (show ¬ (15 : Int32) = 7 by decide), if_neg (show ¬ (15 : Int32) = 8 by decide), if_neg (show ¬ (15 : Int32) = 9 by decide), if_neg (show ¬ (15 : Int32) = 10 by decide), if_neg (show ¬ (15 : Int32) = 11 by decide), if_neg (show ¬ (15 : Int32) = 12 by decide), if_neg (show ¬ (15 : Int32) = 13 by decide), if_neg (show ¬ (15 : Int32) = 14 by decide), if_pos (show (15 : Int32) = 15 by decide)]
  by_cases q : xs (6 * i + 3) = 0
  · rw [if_pos q] at hbv
    rw [hbv] at e1 e2
    rw [nI_addR 1 (6 * i), nI_addR 2 (6 * i), nI_addR 3 (6 * i), if_pos (hw.a (show 6 * i + 1 < L by omega) hL), if_pos (hw.a (show 6 * i + 2 < L by omega) hL), if_pos (hw.a (show 6 * i + 3 < L by omega) hL), x1, x2, x3, hw.2 (6 * i + 3), hw.2 (6 * i + 1), hw.2 (6 * i + 2), if_pos q, q_L_law_536, tg_6 hS, if_pos rfl, e1, zbI_e, nI_addR 1 (6 * i), nI_addR 2 (6 * i), nI_addR 3 (6 * i), if_pos (w1.a (show 6 * i + 1 < L by omega) hL), if_pos (w1.a (show 6 * i + 2 < L by omega) hL), if_pos (w1.a (show 6 * i + 3 < L by omega) hL), x1, x2, x3, w1.2 (6 * i + 3), w1.2 (6 * i + 1), w1.2 (6 * i + 2), if_pos q, tg_176 S1, if_pos rfl, e2, zbI_e, if_pos rfl]
  · rw [if_neg q] at hbv
    rw [hbv] at e1 e2
    rw [nI_addR 1 (6 * i), nI_addR 2 (6 * i), nI_addR 3 (6 * i), if_pos (hw.a (show 6 * i + 1 < L by omega) hL), if_pos (hw.a (show 6 * i + 2 < L by omega) hL), if_pos (hw.a (show 6 * i + 3 < L by omega) hL), x1, x2, x3, hw.2 (6 * i + 3), hw.2 (6 * i + 1), hw.2 (6 * i + 2), if_neg q, q_L_law_536, tg_6 hS, if_pos rfl, e1, zbI_e, nI_addR 1 (6 * i), nI_addR 2 (6 * i), nI_addR 3 (6 * i), if_pos (w1.a (show 6 * i + 1 < L by omega) hL), if_pos (w1.a (show 6 * i + 2 < L by omega) hL), if_pos (w1.a (show 6 * i + 3 < L by omega) hL), x1, x2, x3, w1.2 (6 * i + 3), w1.2 (6 * i + 1), w1.2 (6 * i + 2), if_neg q, tg_176 S1, if_pos rfl, e2, zbI_e, if_pos rfl]
theorem lw_16 (h : RR B σ c P S N M K np t n) (hw : W0 L xs σ) (hi : 6 * i + 6 ≤ L) (hL : L ≤ 3072) (hc : c ≤ 600) (hk : xs (6 * i) &&& 63 = 16) : LX B L xs i c σ := by
  have hS := h.1
  obtain ⟨v, s1, s2, e1, S1, w1, e2, w2, rx⟩ := law_al hw (op_box h hc (xs (6 * i + 1)) (xs (6 * i + 2)) (xs (6 * i + 3))) (by decide +kernel) (by decide +kernel)
  refine ⟨s2, ?_, w2, rx⟩
  have nl : ¬ Int32.ofNat L - 6 < nI (6 * i) := by
    rw [show Int32.ofNat L - 6 = nI (L - 6) from nI_subR (n := 6) (k := L) (by omega)]
    exact nI_nlt (by omega) (by omega)
  have x0 : ix (nI (6 * i)) = 6 * i := ixn (by omega)
  have x1 : ix (nI (6 * i + 1)) = 6 * i + 1 := ixn (by omega)
  have x2 : ix (nI (6 * i + 2)) = 6 * i + 2 := ixn (by omega)
  have x3 : ix (nI (6 * i + 3)) = 6 * i + 3 := ixn (by omega)
  rw [q_L_law_10, hw.tk, if_pos (show 32 ≤ 48 by omega), hw.l, if_neg nl, if_pos (hw.a (show 6 * i < L by omega) hL), x0, hw.2 (6 * i), hk, if_neg (show ¬ (16 : Int32) = 0 by decide), if_neg (show ¬ (16 : Int32) = 1 by decide), if_neg (show ¬ (16 : Int32) = 2 by decide), if_neg (show ¬ (16 : Int32) = 3 by decide), if_neg (show ¬ (16 : Int32) = 4 by decide), if_neg (show ¬ (16 : Int32) = 5 by decide), if_neg (show ¬ (16 : Int32) = 6 by decide), if_neg (show ¬ (16 : Int32) = 7 by decide), if_neg (show ¬ (16 : Int32) = 8 by decide), if_neg (show ¬ (16 : Int32) = 9 by decide), if_neg (show ¬ (16 : Int32) = 10 by decide), if_neg (show ¬ (16 : Int32) = 11 by decide), if_neg (show ¬ (16 : Int32) = 12 by decide), if_neg (show ¬ (16 : Int32) = 13 by decide), if_neg (show ¬ (16 : Int32) = 14 by decide), if_neg (show ¬ (16 : Int32) = 15 by decide), if_pos (show (16 : Int32) = 16 by decide)]
  rw [q_L_law_561]
  rw [nI_addR 1 (6 * i), nI_addR 2 (6 * i), nI_addR 3 (6 * i), if_pos (hw.a (show 6 * i + 1 < L by omega) hL), if_pos (hw.a (show 6 * i + 2 < L by omega) hL), if_pos (hw.a (show 6 * i + 3 < L by omega) hL), tg_6 hS, if_pos rfl, x1, x2, x3, hw.2 (6 * i + 1), hw.2 (6 * i + 2), hw.2 (6 * i + 3), e1, zbI_e, if_pos (w1.a (show 6 * i + 1 < L by omega) hL), if_pos (w1.a (show 6 * i + 2 < L by omega) hL), if_pos (w1.a (show 6 * i + 3 < L by omega) hL), tg_176 S1, if_pos rfl, w1.2 (6 * i + 1), w1.2 (6 * i + 2), w1.2 (6 * i + 3), e2, zbI_e, if_pos rfl]
theorem lw_17 (h : RR B σ c P S N M K np t n) (hw : W0 L xs σ) (hi : 6 * i + 6 ≤ L) (hL : L ≤ 3072) (hc : c ≤ 600) (hk : xs (6 * i) &&& 63 = 17) : LX B L xs i c σ := by
  have hS := h.1
  obtain ⟨v, s1, s2, e1, S1, w1, e2, w2, rx⟩ := law_al hw (op_way h hc (xs (6 * i + 1)) (xs (6 * i + 2)) (xs (6 * i + 3))) (by decide +kernel) (by decide +kernel)
  refine ⟨s2, ?_, w2, rx⟩
  have nl : ¬ Int32.ofNat L - 6 < nI (6 * i) := by
    rw [show Int32.ofNat L - 6 = nI (L - 6) from nI_subR (n := 6) (k := L) (by omega)]
    exact nI_nlt (by omega) (by omega)
  have x0 : ix (nI (6 * i)) = 6 * i := ixn (by omega)
  have x1 : ix (nI (6 * i + 1)) = 6 * i + 1 := ixn (by omega)
  have x2 : ix (nI (6 * i + 2)) = 6 * i + 2 := ixn (by omega)
  have x3 : ix (nI (6 * i + 3)) = 6 * i + 3 := ixn (by omega)
  rw [q_L_law_10, hw.tk, if_pos (show 32 ≤ 48 by omega), hw.l, if_neg nl, if_pos (hw.a (show 6 * i < L by omega) hL), x0, hw.2 (6 * i), hk, if_neg (show ¬ (17 : Int32) = 0 by decide), if_neg (show ¬ (17 : Int32) = 1 by decide), if_neg (show ¬ (17 : Int32) = 2 by decide), if_neg (show ¬ (17 : Int32) = 3 by decide), if_neg (show ¬ (17 : Int32) = 4 by decide), if_neg (show ¬ (17 : Int32) = 5 by decide), if_neg (show ¬ (17 : Int32) = 6 by decide), if_neg (show ¬ (17 : Int32) = 7 by decide), if_neg (show ¬ (17 : Int32) = 8 by decide), if_neg (show ¬ (17 : Int32) = 9 by decide), if_neg (show ¬ (17 : Int32) = 10 by decide), if_neg (show ¬ (17 : Int32) = 11 by decide), if_neg (show ¬ (17 : Int32) = 12 by decide), if_neg (show ¬ (17 : Int32) = 13 by decide), if_neg (show ¬ (17 : Int32) = 14 by decide), if_neg (show ¬ (17 : Int32) = 15 by decide), if_neg (show ¬ (17 : Int32) = 16 by decide), if_pos (show (17 : Int32) = 17 by decide)]
  rw [q_L_law_598]
  rw [nI_addR 1 (6 * i), nI_addR 2 (6 * i), nI_addR 3 (6 * i), if_pos (hw.a (show 6 * i + 1 < L by omega) hL), if_pos (hw.a (show 6 * i + 2 < L by omega) hL), if_pos (hw.a (show 6 * i + 3 < L by omega) hL), tg_6 hS, if_pos rfl, x1, x2, x3, hw.2 (6 * i + 1), hw.2 (6 * i + 2), hw.2 (6 * i + 3), e1, zbI_e, if_pos (w1.a (show 6 * i + 1 < L by omega) hL), if_pos (w1.a (show 6 * i + 2 < L by omega) hL), if_pos (w1.a (show 6 * i + 3 < L by omega) hL), tg_176 S1, if_pos rfl, w1.2 (6 * i + 1), w1.2 (6 * i + 2), w1.2 (6 * i + 3), e2, zbI_e, if_pos rfl]
theorem lw_18 (h : RR B σ c P S N M K np t n) (hw : W0 L xs σ) (hi : 6 * i + 6 ≤ L) (hL : L ≤ 3072) (hc : c ≤ 600) (hk : xs (6 * i) &&& 63 = 18) : LX B L xs i c σ := by
  have hS := h.1
  obtain ⟨v, s1, s2, e1, S1, w1, e2, w2, rx⟩ := law_al hw (op_send h (xs (6 * i + 1)) (xs (6 * i + 2)) (xs (6 * i + 3))) (by decide +kernel) (by decide +kernel)
  refine ⟨s2, ?_, w2, rx⟩
  have nl : ¬ Int32.ofNat L - 6 < nI (6 * i) := by
    rw [show Int32.ofNat L - 6 = nI (L - 6) from nI_subR (n := 6) (k := L) (by omega)]
    exact nI_nlt (by omega) (by omega)
  have x0 : ix (nI (6 * i)) = 6 * i := ixn (by omega)
  have x1 : ix (nI (6 * i + 1)) = 6 * i + 1 := ixn (by omega)
  have x2 : ix (nI (6 * i + 2)) = 6 * i + 2 := ixn (by omega)
  have x3 : ix (nI (6 * i + 3)) = 6 * i + 3 := ixn (by omega)
  rw [q_L_law_10, hw.tk, if_pos (show 32 ≤ 48 by omega), hw.l, if_neg nl, if_pos (hw.a (show 6 * i < L by omega) hL), x0, hw.2 (6 * i), hk, if_neg (show ¬ (18 : Int32) = 0 by decide), if_neg (show ¬ (18 : Int32) = 1 by decide), if_neg (show ¬ (18 : Int32) = 2 by decide), if_neg (show ¬ (18 : Int32) = 3 by decide), if_neg (show ¬ (18 : Int32) = 4 by decide), if_neg (show ¬ (18 : Int32) = 5 by decide), if_neg (show ¬ (18 : Int32) = 6 by decide), if_neg (show ¬ (18 : Int32) = 7 by decide), if_neg (show ¬ (18 : Int32) = 8 by decide), if_neg (show ¬ (18 : Int32) = 9 by decide), if_neg (show ¬ (18 : Int32) = 10 by decide), if_neg (show ¬ (18 : Int32) = 11 by decide), if_neg (show ¬ (18 : Int32) = 12 by decide), if_neg (show ¬ (18 : Int32) = 13 by decide), if_neg (show ¬ (18 : Int32) = 14 by decide), if_neg (show ¬ (18 : Int32) = 15 by decide), if_neg (show ¬ (18 : Int32) = 16 by decide), if_neg (show ¬ (18 : Int32) = 17 by decide), if_pos (show (18 : Int32) = 18 by decide)]
  rw [q_L_law_635]
  rw [nI_addR 1 (6 * i), nI_addR 2 (6 * i), nI_addR 3 (6 * i), if_pos (hw.a (show 6 * i + 1 < L by omega) hL), if_pos (hw.a (show 6 * i + 2 < L by omega) hL), if_pos (hw.a (show 6 * i + 3 < L by omega) hL), tg_6 hS, if_pos rfl, x1, x2, x3, hw.2 (6 * i + 1), hw.2 (6 * i + 2), hw.2 (6 * i + 3), e1, zbI_e, if_pos (w1.a (show 6 * i + 1 < L by omega) hL), if_pos (w1.a (show 6 * i + 2 < L by omega) hL), if_pos (w1.a (show 6 * i + 3 < L by omega) hL), tg_176 S1, if_pos rfl, w1.2 (6 * i + 1), w1.2 (6 * i + 2), w1.2 (6 * i + 3), e2, zbI_e, if_pos rfl]
theorem lw_19 (h : RR B σ c P S N M K np t n) (hw : W0 L xs σ) (hi : 6 * i + 6 ≤ L) (hL : L ≤ 3072) (hc : c ≤ 600) (hk : xs (6 * i) &&& 63 = 19) : LX B L xs i c σ := by
  have hS := h.1
  obtain ⟨v, s1, s2, e1, S1, w1, e2, w2, rx⟩ := law_al hw (op_back h hc (xs (6 * i + 1)) (xs (6 * i + 2))) (by decide +kernel) (by decide +kernel)
  refine ⟨s2, ?_, w2, rx⟩
  have nl : ¬ Int32.ofNat L - 6 < nI (6 * i) := by
    rw [show Int32.ofNat L - 6 = nI (L - 6) from nI_subR (n := 6) (k := L) (by omega)]
    exact nI_nlt (by omega) (by omega)
  have x0 : ix (nI (6 * i)) = 6 * i := ixn (by omega)
  have x1 : ix (nI (6 * i + 1)) = 6 * i + 1 := ixn (by omega)
  have x2 : ix (nI (6 * i + 2)) = 6 * i + 2 := ixn (by omega)
  rw [q_L_law_10, hw.tk, if_pos (show 32 ≤ 48 by omega), hw.l, if_neg nl, if_pos (hw.a (show 6 * i < L by omega) hL), x0, hw.2 (6 * i), hk, if_neg (show ¬ (19 : Int32) = 0 by decide), if_neg (show ¬ (19 : Int32) = 1 by decide), if_neg (show ¬ (19 : Int32) = 2 by decide), if_neg (show ¬ (19 : Int32) = 3 by decide), if_neg (show ¬ (19 : Int32) = 4 by decide), if_neg (show ¬ (19 : Int32) = 5 by decide), if_neg (show ¬ (19 : Int32) = 6 by decide), if_neg (show ¬ (19 : Int32) = 7 by decide), if_neg (show ¬ (19 : Int32) = 8 by decide), if_neg (show ¬ (19 : Int32) = 9 by decide), if_neg (show ¬ (19 : Int32) = 10 by decide), if_neg (show ¬ (19 : Int32) = 11 by decide), if_neg (show ¬ (19 : Int32) = 12 by decide), if_neg (show ¬ (19 : Int32) = 13 by decide), if_neg (show ¬ (19 : Int32) = 14 by decide), if_neg (show ¬ (19 : Int32) = 15 by decide), if_neg (show ¬ (19 : Int32) = 16 by decide), if_neg (show ¬ (19 : Int32) = 17 by decide), if_neg (show ¬ (19 : Int32) = 18 by decide), if_pos (show (19 : Int32) = 19 by decide)]
  rw [nI_addR 1 (6 * i), nI_addR 2 (6 * i), if_pos (hw.a (show 6 * i + 1 < L by omega) hL), if_pos (hw.a (show 6 * i + 2 < L by omega) hL), tg_6 hS, if_pos rfl, x1, x2, hw.2 (6 * i + 1), hw.2 (6 * i + 2), e1, zbI_e, if_pos (w1.a (show 6 * i + 1 < L by omega) hL), if_pos (w1.a (show 6 * i + 2 < L by omega) hL), tg_176 S1, if_pos rfl, w1.2 (6 * i + 1), w1.2 (6 * i + 2), e2, zbI_e, if_pos rfl]
theorem lw_20 (h : RR B σ c P S N M K np t n) (hw : W0 L xs σ) (hi : 6 * i + 6 ≤ L) (hL : L ≤ 3072) (hc : c ≤ 600) (hk : xs (6 * i) &&& 63 = 20) : LX B L xs i c σ := by
  have hS := h.1
  obtain ⟨v, s1, s2, e1, S1, w1, e2, w2, rx⟩ := law_al hw (op_days h hc (xs (6 * i + 1))) (by decide +kernel) (by decide +kernel)
  refine ⟨s2, ?_, w2, rx⟩
  have nl : ¬ Int32.ofNat L - 6 < nI (6 * i) := by
    rw [show Int32.ofNat L - 6 = nI (L - 6) from nI_subR (n := 6) (k := L) (by omega)]
    exact nI_nlt (by omega) (by omega)
  have x0 : ix (nI (6 * i)) = 6 * i := ixn (by omega)
  have x1 : ix (nI (6 * i + 1)) = 6 * i + 1 := ixn (by omega)
  rw [q_L_law_10, hw.tk, if_pos (show 32 ≤ 48 by omega), hw.l, if_neg nl, if_pos (hw.a (show 6 * i < L by omega) hL), x0, hw.2 (6 * i), hk, if_neg (show ¬ (20 : Int32) = 0 by decide), if_neg (show ¬ (20 : Int32) = 1 by decide), if_neg (show ¬ (20 : Int32) = 2 by decide), if_neg (show ¬ (20 : Int32) = 3 by decide), if_neg (show ¬ (20 : Int32) = 4 by decide), if_neg (show ¬ (20 : Int32) = 5 by decide), if_neg (show ¬ (20 : Int32) = 6 by decide), if_neg (show ¬ (20 : Int32) = 7 by decide), if_neg (show ¬ (20 : Int32) = 8 by decide), if_neg (show ¬ (20 : Int32) = 9 by decide), if_neg (show ¬ (20 : Int32) = 10 by decide), if_neg (show ¬ (20 : Int32) = 11 by decide), if_neg (show ¬ (20 : Int32) = 12 by decide), if_neg (show ¬ (20 : Int32) = 13 by decide), if_neg (show ¬ (20 : Int32) = 14 by decide), if_neg (show ¬ (20 : Int32) = 15 by decide), if_neg (show ¬ (20 : Int32) = 16 by decide), if_neg (show ¬ (20 : Int32) = 17 by decide), if_neg (show ¬ (20 : Int32) = 18 by decide), if_neg (show ¬ (20 : Int32) = 19 by decide), if_pos (show (20 : Int32) = 20 by decide)]
  rw [nI_addR 1 (6 * i), if_pos (hw.a (show 6 * i + 1 < L by omega) hL), tg_6 hS, if_pos rfl, x1, hw.2 (6 * i + 1), e1, zbI_e, if_pos (w1.a (show 6 * i + 1 < L by omega) hL), tg_176 S1, if_pos rfl, w1.2 (6 * i + 1), e2, zbI_e, if_pos rfl]
theorem lw_21 (h : RR B σ c P S N M K np t n) (hw : W0 L xs σ) (hi : 6 * i + 6 ≤ L) (hL : L ≤ 3072) (hc : c ≤ 600) (hk : xs (6 * i) &&& 63 = 21) : LX B L xs i c σ := by
  have hS := h.1
  obtain ⟨v, s1, s2, e1, S1, w1, e2, w2, rx⟩ := law_al hw (op_stock h (xs (6 * i + 1)) (xs (6 * i + 2))) (by decide +kernel) (by decide +kernel)
  refine ⟨s2, ?_, w2, rx⟩
  have nl : ¬ Int32.ofNat L - 6 < nI (6 * i) := by
    rw [show Int32.ofNat L - 6 = nI (L - 6) from nI_subR (n := 6) (k := L) (by omega)]
    exact nI_nlt (by omega) (by omega)
  have x0 : ix (nI (6 * i)) = 6 * i := ixn (by omega)
  have x1 : ix (nI (6 * i + 1)) = 6 * i + 1 := ixn (by omega)
  have x2 : ix (nI (6 * i + 2)) = 6 * i + 2 := ixn (by omega)
  rw [q_L_law_10, hw.tk, if_pos (show 32 ≤ 48 by omega), hw.l, if_neg nl, if_pos (hw.a (show 6 * i < L by omega) hL), x0, hw.2 (6 * i), hk, if_neg (show ¬ (21 : Int32) = 0 by decide), if_neg (show ¬ (21 : Int32) = 1 by decide), if_neg (show ¬ (21 : Int32) = 2 by decide), if_neg (show ¬ (21 : Int32) = 3 by decide), if_neg (show ¬ (21 : Int32) = 4 by decide), if_neg (show ¬ (21 : Int32) = 5 by decide), if_neg (show ¬ (21 : Int32) = 6 by decide), if_neg (show ¬ (21 : Int32) = 7 by decide), if_neg (show ¬ (21 : Int32) = 8 by decide), if_neg (show ¬ (21 : Int32) = 9 by decide), if_neg (show ¬ (21 : Int32) = 10 by decide), if_neg (show ¬ (21 : Int32) = 11 by decide), if_neg (show ¬ (21 : Int32) = 12 by decide), if_neg (show ¬ (21 : Int32) = 13 by decide), if_neg (show ¬ (21 : Int32) = 14 by decide), if_neg (show ¬ (21 : Int32) = 15 by decide), if_neg (show ¬ (21 : Int32) = 16 by decide), if_neg (show ¬ (21 : Int32) = 17 by decide), if_neg (show ¬ (21 : Int32) = 18 by decide), if_neg (show ¬ (21 : Int32) = 19 by decide), if_neg (show ¬ (21 : Int32) = 20 by decide), if_pos (show (21 : Int32) = 21 by decide)]
  rw [nI_addR 1 (6 * i), nI_addR 2 (6 * i), if_pos (hw.a (show 6 * i + 1 < L by omega) hL), if_pos (hw.a (show 6 * i + 2 < L by omega) hL), tg_6 hS, if_pos rfl, x1, x2, hw.2 (6 * i + 1), hw.2 (6 * i + 2), e1, zbI_e, if_pos (w1.a (show 6 * i + 1 < L by omega) hL), if_pos (w1.a (show 6 * i + 2 < L by omega) hL), tg_176 S1, if_pos rfl, w1.2 (6 * i + 1), w1.2 (6 * i + 2), e2, zbI_e, if_pos rfl]
theorem lw_22 (h : RR B σ c P S N M K np t n) (hw : W0 L xs σ) (hi : 6 * i + 6 ≤ L) (hL : L ≤ 3072) (hc : c ≤ 600) (hk : xs (6 * i) &&& 63 = 22) : LX B L xs i c σ := by
  have hS := h.1
  obtain ⟨v, s1, s2, e1, S1, w1, e2, w2, rx⟩ := law_al hw (op_earned h) (by decide +kernel) (by decide +kernel)
  refine ⟨s2, ?_, w2, rx⟩
  have nl : ¬ Int32.ofNat L - 6 < nI (6 * i) := by
    rw [show Int32.ofNat L - 6 = nI (L - 6) from nI_subR (n := 6) (k := L) (by omega)]
    exact nI_nlt (by omega) (by omega)
  have x0 : ix (nI (6 * i)) = 6 * i := ixn (by omega)
  rw [q_L_law_10, hw.tk, if_pos (show 32 ≤ 48 by omega), hw.l, if_neg nl, if_pos (hw.a (show 6 * i < L by omega) hL), x0, hw.2 (6 * i), hk, if_neg (show ¬ (22 : Int32) = 0 by decide), if_neg (show ¬ (22 : Int32) = 1 by decide), if_neg (show ¬ (22 : Int32) = 2 by decide), if_neg (show ¬ (22 : Int32) = 3 by decide), if_neg (show ¬ (22 : Int32) = 4 by decide), if_neg (show ¬ (22 : Int32) = 5 by decide), if_neg (show ¬ (22 : Int32) = 6 by decide), if_neg (show ¬ (22 : Int32) = 7 by decide), if_neg (show ¬ (22 : Int32) = 8 by decide), if_neg (show ¬ (22 : Int32) = 9 by decide), if_neg (show ¬ (22 : Int32) = 10 by decide), if_neg (show ¬ (22 : Int32) = 11 by decide), if_neg (show ¬ (22 : Int32) = 12 by decide), if_neg (show ¬ (22 : Int32) = 13 by decide), if_neg (show ¬ (22 : Int32) = 14 by decide), if_neg (show ¬ (22 : Int32) = 15 by decide), if_neg (show ¬ (22 : Int32) = 16 by decide), if_neg (show ¬ (22 : Int32) = 17 by decide), if_neg (show ¬ (22 : Int32) = 18 by decide), if_neg (show ¬ (22 : Int32) = 19 by decide), if_neg (show ¬ (22 : Int32) = 20 by decide), if_neg (show ¬ (22 : Int32) = 21 by decide), if_pos (show (22 : Int32) = 22 by decide)]
  rw [tg_6 hS, if_pos rfl, e1, zbI_e, tg_176 S1, if_pos rfl, e2, zbI_e, if_pos rfl]
theorem lw_23 (h : RR B σ c P S N M K np t n) (hw : W0 L xs σ) (hi : 6 * i + 6 ≤ L) (hL : L ≤ 3072) (hc : c ≤ 600) (hk : xs (6 * i) &&& 63 = 23) : LX B L xs i c σ := by
  have hS := h.1
  obtain ⟨bv, hbv⟩ : ∃ bv : Int32, bv = if xs (6 * i + 3) = 0 then 0 else 1 := ⟨_, rfl⟩
  obtain ⟨v, s1, s2, e1, S1, w1, e2, w2, rx⟩ := law_al hw (op_answer h (xs (6 * i + 1)) (xs (6 * i + 2)) bv) (by decide +kernel) (by decide +kernel)
  refine ⟨s2, ?_, w2, rx⟩
  have nl : ¬ Int32.ofNat L - 6 < nI (6 * i) := by
    rw [show Int32.ofNat L - 6 = nI (L - 6) from nI_subR (n := 6) (k := L) (by omega)]
    exact nI_nlt (by omega) (by omega)
  have x0 : ix (nI (6 * i)) = 6 * i := ixn (by omega)
  have x1 : ix (nI (6 * i + 1)) = 6 * i + 1 := ixn (by omega)
  have x2 : ix (nI (6 * i + 2)) = 6 * i + 2 := ixn (by omega)
  have x3 : ix (nI (6 * i + 3)) = 6 * i + 3 := ixn (by omega)
  rw [q_L_law_10, hw.tk, if_pos (show 32 ≤ 48 by omega), hw.l, if_neg nl, if_pos (hw.a (show 6 * i < L by omega) hL), x0, hw.2 (6 * i), hk, if_neg (show ¬ (23 : Int32) = 0 by decide), if_neg (show ¬ (23 : Int32) = 1 by decide), if_neg (show ¬ (23 : Int32) = 2 by decide), if_neg (show ¬ (23 : Int32) = 3 by decide), if_neg (show ¬ (23 : Int32) = 4 by decide), if_neg (show ¬ (23 : Int32) = 5 by decide), if_neg (show ¬ (23 : Int32) = 6 by decide), if_neg (show ¬ (23 : Int32) = 7 by decide), if_neg (show ¬ (23 : Int32) = 8 by decide), if_neg (show ¬ (23 : Int32) = 9 by decide), if_neg (show ¬ (23 : Int32) = 10 by decide), if_neg (show ¬ (23 : Int32) = 11 by decide), if_neg (show ¬ (23 : Int32) = 12 by decide), if_neg (show ¬ (23 : Int32) = 13 by decide), if_neg (show ¬ (23 : Int32) = 14 by decide), if_neg (show ¬ (23 : Int32) = 15 by decide), if_neg (show ¬ (23 : Int32) = 16 by decide), if_neg (show ¬ (23 : Int32) = 17 by decide), if_neg (show ¬ (23 : Int32) = 18 by decide), if_neg (show ¬ (23 : Int32) = 19 by decide), if_neg (show ¬ (23 : Int32) = 20 by decide), if_neg (show ¬ (23 : Int32) = 21 by decide), if_neg (show ¬ (23 : Int32) = 22 by decide), if_pos (show (23 : Int32) = 23 by decide)]
  by_cases q : xs (6 * i + 3) = 0
  · rw [if_pos q] at hbv
    rw [hbv] at e1 e2
    rw [nI_addR 1 (6 * i), nI_addR 2 (6 * i), nI_addR 3 (6 * i), if_pos (hw.a (show 6 * i + 1 < L by omega) hL), if_pos (hw.a (show 6 * i + 2 < L by omega) hL), if_pos (hw.a (show 6 * i + 3 < L by omega) hL), x1, x2, x3, hw.2 (6 * i + 3), hw.2 (6 * i + 1), hw.2 (6 * i + 2), if_pos q, q_L_law_770, tg_6 hS, if_pos rfl, e1, zbI_e, nI_addR 1 (6 * i), nI_addR 2 (6 * i), nI_addR 3 (6 * i), if_pos (w1.a (show 6 * i + 1 < L by omega) hL), if_pos (w1.a (show 6 * i + 2 < L by omega) hL), if_pos (w1.a (show 6 * i + 3 < L by omega) hL), x1, x2, x3, w1.2 (6 * i + 3), w1.2 (6 * i + 1), w1.2 (6 * i + 2), if_pos q, tg_176 S1, if_pos rfl, e2, zbI_e, if_pos rfl]
  · rw [if_neg q] at hbv
    rw [hbv] at e1 e2
    rw [nI_addR 1 (6 * i), nI_addR 2 (6 * i), nI_addR 3 (6 * i), if_pos (hw.a (show 6 * i + 1 < L by omega) hL), if_pos (hw.a (show 6 * i + 2 < L by omega) hL), if_pos (hw.a (show 6 * i + 3 < L by omega) hL), x1, x2, x3, hw.2 (6 * i + 3), hw.2 (6 * i + 1), hw.2 (6 * i + 2), if_neg q, q_L_law_770, tg_6 hS, if_pos rfl, e1, zbI_e, nI_addR 1 (6 * i), nI_addR 2 (6 * i), nI_addR 3 (6 * i), if_pos (w1.a (show 6 * i + 1 < L by omega) hL), if_pos (w1.a (show 6 * i + 2 < L by omega) hL), if_pos (w1.a (show 6 * i + 3 < L by omega) hL), x1, x2, x3, w1.2 (6 * i + 3), w1.2 (6 * i + 1), w1.2 (6 * i + 2), if_neg q, tg_176 S1, if_pos rfl, e2, zbI_e, if_pos rfl]
theorem lw_24 (h : RR B σ c P S N M K np t n) (hw : W0 L xs σ) (hi : 6 * i + 6 ≤ L) (hL : L ≤ 3072) (hc : c ≤ 600) (hk : xs (6 * i) &&& 63 = 24) : LX B L xs i c σ := by
  have hS := h.1
  obtain ⟨v, s1, s2, e1, S1, w1, e2, w2, rx⟩ := law_al hw (op_worth h (xs (6 * i + 1)) (xs (6 * i + 2)) (xs (6 * i + 3))) (by decide +kernel) (by decide +kernel)
  refine ⟨s2, ?_, w2, rx⟩
  have nl : ¬ Int32.ofNat L - 6 < nI (6 * i) := by
    rw [show Int32.ofNat L - 6 = nI (L - 6) from nI_subR (n := 6) (k := L) (by omega)]
    exact nI_nlt (by omega) (by omega)
  have x0 : ix (nI (6 * i)) = 6 * i := ixn (by omega)
  have x1 : ix (nI (6 * i + 1)) = 6 * i + 1 := ixn (by omega)
  have x2 : ix (nI (6 * i + 2)) = 6 * i + 2 := ixn (by omega)
  have x3 : ix (nI (6 * i + 3)) = 6 * i + 3 := ixn (by omega)
  rw [q_L_law_10, hw.tk, if_pos (show 32 ≤ 48 by omega), hw.l, if_neg nl, if_pos (hw.a (show 6 * i < L by omega) hL), x0, hw.2 (6 * i), hk, if_neg (show ¬ (24 : Int32) = 0 by decide), if_neg (show ¬ (24 : Int32) = 1 by decide), if_neg (show ¬ (24 : Int32) = 2 by decide), if_neg (show ¬ (24 : Int32) = 3 by decide), if_neg (show ¬ (24 : Int32) = 4 by decide), if_neg (show ¬ (24 : Int32) = 5 by decide), if_neg (show ¬ (24 : Int32) = 6 by decide), if_neg (show ¬ (24 : Int32) = 7 by decide), if_neg (show ¬ (24 : Int32) = 8 by decide), if_neg (show ¬ (24 : Int32) = 9 by decide), if_neg (show ¬ (24 : Int32) = 10 by decide), if_neg (show ¬ (24 : Int32) = 11 by decide), if_neg (show ¬ (24 : Int32) = 12 by decide), if_neg (show ¬ (24 : Int32) = 13 by decide), if_neg (show ¬ (24 : Int32) = 14 by decide), if_neg (show ¬ (24 : Int32) = 15 by decide), if_neg (show ¬ (24 : Int32) = 16 by decide), if_neg (show ¬ (24 : Int32) = 17 by decide), if_neg (show ¬ (24 : Int32) = 18 by decide), if_neg (show ¬ (24 : Int32) = 19 by decide), if_neg (show ¬ (24 : Int32) = 20 by decide), if_neg (show ¬ (24 : Int32) = 21 by decide), if_neg (show ¬ (24 : Int32) = 22 by decide), if_neg (show ¬ (24 : Int32) = 23 by decide), if_pos (show (24 : Int32) = 24 by decide)]
  rw [q_L_law_795]
  rw [nI_addR 1 (6 * i), nI_addR 2 (6 * i), nI_addR 3 (6 * i), if_pos (hw.a (show 6 * i + 1 < L by omega) hL), if_pos (hw.a (show 6 * i + 2 < L by omega) hL), if_pos (hw.a (show 6 * i + 3 < L by omega) hL), tg_6 hS, if_pos rfl, x1, x2, x3, hw.2 (6 * i + 1), hw.2 (6 * i + 2), hw.2 (6 * i + 3), e1, zbI_e, if_pos (w1.a (show 6 * i + 1 < L by omega) hL), if_pos (w1.a (show 6 * i + 2 < L by omega) hL), if_pos (w1.a (show 6 * i + 3 < L by omega) hL), tg_176 S1, if_pos rfl, w1.2 (6 * i + 1), w1.2 (6 * i + 2), w1.2 (6 * i + 3), e2, zbI_e, if_pos rfl]
theorem lw_25 (h : RR B σ c P S N M K np t n) (hw : W0 L xs σ) (hi : 6 * i + 6 ≤ L) (hL : L ≤ 3072) (hc : c ≤ 600) (hk : xs (6 * i) &&& 63 = 25) : LX B L xs i c σ := by
  have hS := h.1
  obtain ⟨v, s1, s2, e1, S1, w1, e2, w2, rx⟩ := law_al hw (op_question h (xs (6 * i + 1)) (xs (6 * i + 2))) (by decide +kernel) (by decide +kernel)
  refine ⟨s2, ?_, w2, rx⟩
  have nl : ¬ Int32.ofNat L - 6 < nI (6 * i) := by
    rw [show Int32.ofNat L - 6 = nI (L - 6) from nI_subR (n := 6) (k := L) (by omega)]
    exact nI_nlt (by omega) (by omega)
  have x0 : ix (nI (6 * i)) = 6 * i := ixn (by omega)
  have x1 : ix (nI (6 * i + 1)) = 6 * i + 1 := ixn (by omega)
  have x2 : ix (nI (6 * i + 2)) = 6 * i + 2 := ixn (by omega)
  rw [q_L_law_10, hw.tk, if_pos (show 32 ≤ 48 by omega), hw.l, if_neg nl, if_pos (hw.a (show 6 * i < L by omega) hL), x0, hw.2 (6 * i), hk, if_neg (show ¬ (25 : Int32) = 0 by decide), if_neg (show ¬ (25 : Int32) = 1 by decide), if_neg (show ¬ (25 : Int32) = 2 by decide), if_neg (show ¬ (25 : Int32) = 3 by decide), if_neg (show ¬ (25 : Int32) = 4 by decide), if_neg (show ¬ (25 : Int32) = 5 by decide), if_neg (show ¬ (25 : Int32) = 6 by decide), if_neg (show ¬ (25 : Int32) = 7 by decide), if_neg (show ¬ (25 : Int32) = 8 by decide), if_neg (show ¬ (25 : Int32) = 9 by decide), if_neg (show ¬ (25 : Int32) = 10 by decide), if_neg (show ¬ (25 : Int32) = 11 by decide), if_neg (show ¬ (25 : Int32) = 12 by decide), if_neg (show ¬ (25 : Int32) = 13 by decide), if_neg (show ¬ (25 : Int32) = 14 by decide), if_neg (show ¬ (25 : Int32) = 15 by decide), if_neg (show ¬ (25 : Int32) = 16 by decide), if_neg (show ¬ (25 : Int32) = 17 by decide), if_neg (show ¬ (25 : Int32) = 18 by decide), if_neg (show ¬ (25 : Int32) = 19 by decide), if_neg (show ¬ (25 : Int32) = 20 by decide), if_neg (show ¬ (25 : Int32) = 21 by decide), if_neg (show ¬ (25 : Int32) = 22 by decide), if_neg (show ¬ (25 : Int32) = 23 by decide), if_neg (show ¬ (25 : Int32) = 24 by decide), if_pos (show (25 : Int32) = 25 by decide)]
  rw [nI_addR 1 (6 * i), nI_addR 2 (6 * i), if_pos (hw.a (show 6 * i + 1 < L by omega) hL), if_pos (hw.a (show 6 * i + 2 < L by omega) hL), tg_6 hS, if_pos rfl, x1, x2, hw.2 (6 * i + 1), hw.2 (6 * i + 2), e1, zbI_e, if_pos (w1.a (show 6 * i + 1 < L by omega) hL), if_pos (w1.a (show 6 * i + 2 < L by omega) hL), tg_176 S1, if_pos rfl, w1.2 (6 * i + 1), w1.2 (6 * i + 2), e2, zbI_e, if_pos rfl]
theorem lw_26 (h : RR B σ c P S N M K np t n) (hw : W0 L xs σ) (hi : 6 * i + 6 ≤ L) (hL : L ≤ 3072) (hc : c ≤ 600) (hk : xs (6 * i) &&& 63 = 26) : LX B L xs i c σ := by
  have hS := h.1
  obtain ⟨v, s1, s2, e1, S1, w1, e2, w2, rx⟩ := law_al hw (op_fee h (xs (6 * i + 1))) (by decide +kernel) (by decide +kernel)
  refine ⟨s2, ?_, w2, rx⟩
  have nl : ¬ Int32.ofNat L - 6 < nI (6 * i) := by
    rw [show Int32.ofNat L - 6 = nI (L - 6) from nI_subR (n := 6) (k := L) (by omega)]
    exact nI_nlt (by omega) (by omega)
  have x0 : ix (nI (6 * i)) = 6 * i := ixn (by omega)
  have x1 : ix (nI (6 * i + 1)) = 6 * i + 1 := ixn (by omega)
  rw [q_L_law_10, hw.tk, if_pos (show 32 ≤ 48 by omega), hw.l, if_neg nl, if_pos (hw.a (show 6 * i < L by omega) hL), x0, hw.2 (6 * i), hk, if_neg (show ¬ (26 : Int32) = 0 by decide), if_neg (show ¬ (26 : Int32) = 1 by decide), if_neg (show ¬ (26 : Int32) = 2 by decide), if_neg (show ¬ (26 : Int32) = 3 by decide), if_neg (show ¬ (26 : Int32) = 4 by decide), if_neg (show ¬ (26 : Int32) = 5 by decide), if_neg (show ¬ (26 : Int32) = 6 by decide), if_neg (show ¬ (26 : Int32) = 7 by decide), if_neg (show ¬ (26 : Int32) = 8 by decide), if_neg (show ¬ (26 : Int32) = 9 by decide), if_neg (show ¬ (26 : Int32) = 10 by decide), if_neg (show ¬ (26 : Int32) = 11 by decide), if_neg (show ¬ (26 : Int32) = 12 by decide), if_neg (show ¬ (26 : Int32) = 13 by decide), if_neg (show ¬ (26 : Int32) = 14 by decide), if_neg (show ¬ (26 : Int32) = 15 by decide), if_neg (show ¬ (26 : Int32) = 16 by decide), if_neg (show ¬ (26 : Int32) = 17 by decide), if_neg (show ¬ (26 : Int32) = 18 by decide), if_neg (show ¬ (26 : Int32) = 19 by decide), if_neg (show ¬ (26 : Int32) = 20 by decide), if_neg (show ¬ (26 : Int32) = 21 by decide), if_neg (show ¬ (26 : Int32) = 22 by decide), if_neg (show ¬ (26 : Int32) = 23 by decide), if_neg (show ¬ (26 : Int32) = 24 by decide), if_neg (show ¬ (26 : Int32) = 25 by decide), if_pos (show (26 : Int32) = 26 by decide)]
  rw [nI_addR 1 (6 * i), if_pos (hw.a (show 6 * i + 1 < L by omega) hL), tg_6 hS, if_pos rfl, x1, hw.2 (6 * i + 1), e1, zbI_e, if_pos (w1.a (show 6 * i + 1 < L by omega) hL), tg_176 S1, if_pos rfl, w1.2 (6 * i + 1), e2, zbI_e, if_pos rfl]
theorem lw_27 (h : RR B σ c P S N M K np t n) (hw : W0 L xs σ) (hi : 6 * i + 6 ≤ L) (hL : L ≤ 3072) (hc : c ≤ 600) (hk : xs (6 * i) &&& 63 = 27) : LX B L xs i c σ := by
  have hS := h.1
  obtain ⟨v, s1, s2, e1, S1, w1, e2, w2, rx⟩ := law_al hw (op_step h (xs (6 * i + 1)) (xs (6 * i + 2)) (xs (6 * i + 3))) (by decide +kernel) (by decide +kernel)
  refine ⟨s2, ?_, w2, rx⟩
  have nl : ¬ Int32.ofNat L - 6 < nI (6 * i) := by
    rw [show Int32.ofNat L - 6 = nI (L - 6) from nI_subR (n := 6) (k := L) (by omega)]
    exact nI_nlt (by omega) (by omega)
  have x0 : ix (nI (6 * i)) = 6 * i := ixn (by omega)
  have x1 : ix (nI (6 * i + 1)) = 6 * i + 1 := ixn (by omega)
  have x2 : ix (nI (6 * i + 2)) = 6 * i + 2 := ixn (by omega)
  have x3 : ix (nI (6 * i + 3)) = 6 * i + 3 := ixn (by omega)
  rw [q_L_law_10, hw.tk, if_pos (show 32 ≤ 48 by omega), hw.l, if_neg nl, if_pos (hw.a (show 6 * i < L by omega) hL), x0, hw.2 (6 * i), hk, if_neg (show ¬ (27 : Int32) = 0 by decide), if_neg (show ¬ (27 : Int32) = 1 by decide), if_neg (show ¬ (27 : Int32) = 2 by decide), if_neg (show ¬ (27 : Int32) = 3 by decide), if_neg (show ¬ (27 : Int32) = 4 by decide), if_neg (show ¬ (27 : Int32) = 5 by decide), if_neg (show ¬ (27 : Int32) = 6 by decide), if_neg (show ¬ (27 : Int32) = 7 by decide), if_neg (show ¬ (27 : Int32) = 8 by decide), if_neg (show ¬ (27 : Int32) = 9 by decide), if_neg (show ¬ (27 : Int32) = 10 by decide), if_neg (show ¬ (27 : Int32) = 11 by decide), if_neg (show ¬ (27 : Int32) = 12 by decide), if_neg (show ¬ (27 : Int32) = 13 by decide), if_neg (show ¬ (27 : Int32) = 14 by decide), if_neg (show ¬ (27 : Int32) = 15 by decide), if_neg (show ¬ (27 : Int32) = 16 by decide), if_neg (show ¬ (27 : Int32) = 17 by decide), if_neg (show ¬ (27 : Int32) = 18 by decide), if_neg (show ¬ (27 : Int32) = 19 by decide), if_neg (show ¬ (27 : Int32) = 20 by decide), if_neg (show ¬ (27 : Int32) = 21 by decide), if_neg (show ¬ (27 : Int32) = 22 by decide), if_neg (show ¬ (27 : Int32) = 23 by decide), if_neg (show ¬ (27 : Int32) = 24 by decide), if_neg (show ¬ (27 : Int32) = 25 by decide), if_neg (show ¬ (27 : Int32) = 26 by decide), if_pos (show (27 : Int32) = 27 by decide)]
  rw [q_L_law_876]
  rw [nI_addR 1 (6 * i), nI_addR 2 (6 * i), nI_addR 3 (6 * i), if_pos (hw.a (show 6 * i + 1 < L by omega) hL), if_pos (hw.a (show 6 * i + 2 < L by omega) hL), if_pos (hw.a (show 6 * i + 3 < L by omega) hL), tg_6 hS, if_pos rfl, x1, x2, x3, hw.2 (6 * i + 1), hw.2 (6 * i + 2), hw.2 (6 * i + 3), e1, zbI_e, if_pos (w1.a (show 6 * i + 1 < L by omega) hL), if_pos (w1.a (show 6 * i + 2 < L by omega) hL), if_pos (w1.a (show 6 * i + 3 < L by omega) hL), tg_176 S1, if_pos rfl, w1.2 (6 * i + 1), w1.2 (6 * i + 2), w1.2 (6 * i + 3), e2, zbI_e, if_pos rfl]
theorem lw_28 (h : RR B σ c P S N M K np t n) (hw : W0 L xs σ) (hi : 6 * i + 6 ≤ L) (hL : L ≤ 3072) (hc : c ≤ 600) (hk : xs (6 * i) &&& 63 = 28) : LX B L xs i c σ := by
  have hS := h.1
  obtain ⟨v, s1, s2, e1, S1, w1, e2, w2, rx⟩ := law_al hw (op_print h (xs (6 * i + 1))) (by decide +kernel) (by decide +kernel)
  refine ⟨s2, ?_, w2, rx⟩
  have nl : ¬ Int32.ofNat L - 6 < nI (6 * i) := by
    rw [show Int32.ofNat L - 6 = nI (L - 6) from nI_subR (n := 6) (k := L) (by omega)]
    exact nI_nlt (by omega) (by omega)
  have x0 : ix (nI (6 * i)) = 6 * i := ixn (by omega)
  have x1 : ix (nI (6 * i + 1)) = 6 * i + 1 := ixn (by omega)
  rw [q_L_law_10, hw.tk, if_pos (show 32 ≤ 48 by omega), hw.l, if_neg nl, if_pos (hw.a (show 6 * i < L by omega) hL), x0, hw.2 (6 * i), hk, if_neg (show ¬ (28 : Int32) = 0 by decide), if_neg (show ¬ (28 : Int32) = 1 by decide), if_neg (show ¬ (28 : Int32) = 2 by decide), if_neg (show ¬ (28 : Int32) = 3 by decide), if_neg (show ¬ (28 : Int32) = 4 by decide), if_neg (show ¬ (28 : Int32) = 5 by decide), if_neg (show ¬ (28 : Int32) = 6 by decide), if_neg (show ¬ (28 : Int32) = 7 by decide), if_neg (show ¬ (28 : Int32) = 8 by decide), if_neg (show ¬ (28 : Int32) = 9 by decide), if_neg (show ¬ (28 : Int32) = 10 by decide), if_neg (show ¬ (28 : Int32) = 11 by decide), if_neg (show ¬ (28 : Int32) = 12 by decide), if_neg (show ¬ (28 : Int32) = 13 by decide), if_neg (show ¬ (28 : Int32) = 14 by decide), if_neg (show ¬ (28 : Int32) = 15 by decide), if_neg (show ¬ (28 : Int32) = 16 by decide), if_neg (show ¬ (28 : Int32) = 17 by decide), if_neg (show ¬ (28 : Int32) = 18 by decide), if_neg (show ¬ (28 : Int32) = 19 by decide), if_neg (show ¬ (28 : Int32) = 20 by decide), if_neg (show ¬ (28 : Int32) = 21 by decide), if_neg (show ¬ (28 : Int32) = 22 by decide), if_neg (show ¬ (28 : Int32) = 23 by decide), if_neg (show ¬ (28 : Int32) = 24 by decide), if_neg (show ¬ (28 : Int32) = 25 by decide), if_neg (show ¬ (28 : Int32) = 26 by decide), if_neg (show ¬ (28 : Int32) = 27 by decide), if_pos (show (28 : Int32) = 28 by decide)]
  rw [nI_addR 1 (6 * i), if_pos (hw.a (show 6 * i + 1 < L by omega) hL), tg_6 hS, if_pos rfl, x1, hw.2 (6 * i + 1), e1, zbI_e, if_pos (w1.a (show 6 * i + 1 < L by omega) hL), tg_176 S1, if_pos rfl, w1.2 (6 * i + 1), e2, zbI_e, if_pos rfl]
theorem lw_29 (h : RR B σ c P S N M K np t n) (hw : W0 L xs σ) (hi : 6 * i + 6 ≤ L) (hL : L ≤ 3072) (hc : c ≤ 600) (hk : xs (6 * i) &&& 63 = 29) : LX B L xs i c σ := by
  have hS := h.1
  obtain ⟨v, s1, s2, e1, S1, w1, e2, w2, rx⟩ := law_al hw (op_alike h (xs (6 * i + 1)) (xs (6 * i + 2))) (by decide +kernel) (by decide +kernel)
  refine ⟨s2, ?_, w2, rx⟩
  have nl : ¬ Int32.ofNat L - 6 < nI (6 * i) := by
    rw [show Int32.ofNat L - 6 = nI (L - 6) from nI_subR (n := 6) (k := L) (by omega)]
    exact nI_nlt (by omega) (by omega)
  have x0 : ix (nI (6 * i)) = 6 * i := ixn (by omega)
  have x1 : ix (nI (6 * i + 1)) = 6 * i + 1 := ixn (by omega)
  have x2 : ix (nI (6 * i + 2)) = 6 * i + 2 := ixn (by omega)
  rw [q_L_law_10, hw.tk, if_pos (show 32 ≤ 48 by omega), hw.l, if_neg nl, if_pos (hw.a (show 6 * i < L by omega) hL), x0, hw.2 (6 * i), hk, if_neg (show ¬ (29 : Int32) = 0 by decide), if_neg (show ¬ (29 : Int32) = 1 by decide), if_neg (show ¬ (29 : Int32) = 2 by decide), if_neg (show ¬ (29 : Int32) = 3 by decide), if_neg (show ¬ (29 : Int32) = 4 by decide), if_neg (show ¬ (29 : Int32) = 5 by decide), if_neg (show ¬ (29 : Int32) = 6 by decide), if_neg (show ¬ (29 : Int32) = 7 by decide), if_neg (show ¬ (29 : Int32) = 8 by decide), if_neg (show ¬ (29 : Int32) = 9 by decide), if_neg (show ¬ (29 : Int32) = 10 by decide), if_neg (show ¬ (29 : Int32) = 11 by decide), if_neg (show ¬ (29 : Int32) = 12 by decide), if_neg (show ¬ (29 : Int32) = 13 by decide), if_neg (show ¬ (29 : Int32) = 14 by decide), if_neg (show ¬ (29 : Int32) = 15 by decide), if_neg (show ¬ (29 : Int32) = 16 by decide), if_neg (show ¬ (29 : Int32) = 17 by decide), if_neg (show ¬ (29 : Int32) = 18 by decide), if_neg (show ¬ (29 : Int32) = 19 by decide), if_neg (show ¬ (29 : Int32) = 20 by decide), if_neg (show ¬ (29 : Int32) = 21 by decide), if_neg (show ¬ (29 : Int32) = 22 by decide), if_neg (show ¬ (29 : Int32) = 23 by decide), if_neg (show ¬ (29 : Int32) = 24 by decide), if_neg (show ¬ (29 : Int32) = 25 by decide), if_neg (show ¬ (29 : Int32) = 26 by decide), if_neg (show ¬ (29 : Int32) = 27 by decide), if_neg (show ¬ (29 : Int32) = 28 by decide), if_pos (show (29 : Int32) = 29 by decide)]
  rw [nI_addR 1 (6 * i), nI_addR 2 (6 * i), if_pos (hw.a (show 6 * i + 1 < L by omega) hL), if_pos (hw.a (show 6 * i + 2 < L by omega) hL), tg_6 hS, if_pos rfl, x1, x2, hw.2 (6 * i + 1), hw.2 (6 * i + 2), e1, zbI_e, if_pos (w1.a (show 6 * i + 1 < L by omega) hL), if_pos (w1.a (show 6 * i + 2 < L by omega) hL), tg_176 S1, if_pos rfl, w1.2 (6 * i + 1), w1.2 (6 * i + 2), e2, zbI_e, if_pos rfl]
theorem lw_30 (h : RR B σ c P S N M K np t n) (hw : W0 L xs σ) (hi : 6 * i + 6 ≤ L) (hL : L ≤ 3072) (hc : c ≤ 600) (hk : xs (6 * i) &&& 63 = 30) : LX B L xs i c σ := by
  have hS := h.1
  obtain ⟨v, s1, s2, e1, S1, w1, e2, w2, rx⟩ := law_al hw (op_strangers h (xs (6 * i + 1)) (xs (6 * i + 2))) (by decide +kernel) (by decide +kernel)
  refine ⟨s2, ?_, w2, rx⟩
  have nl : ¬ Int32.ofNat L - 6 < nI (6 * i) := by
    rw [show Int32.ofNat L - 6 = nI (L - 6) from nI_subR (n := 6) (k := L) (by omega)]
    exact nI_nlt (by omega) (by omega)
  have x0 : ix (nI (6 * i)) = 6 * i := ixn (by omega)
  have x1 : ix (nI (6 * i + 1)) = 6 * i + 1 := ixn (by omega)
  have x2 : ix (nI (6 * i + 2)) = 6 * i + 2 := ixn (by omega)
  rw [q_L_law_10, hw.tk, if_pos (show 32 ≤ 48 by omega), hw.l, if_neg nl, if_pos (hw.a (show 6 * i < L by omega) hL), x0, hw.2 (6 * i), hk, if_neg (show ¬ (30 : Int32) = 0 by decide), if_neg (show ¬ (30 : Int32) = 1 by decide), if_neg (show ¬ (30 : Int32) = 2 by decide), if_neg (show ¬ (30 : Int32) = 3 by decide), if_neg (show ¬ (30 : Int32) = 4 by decide), if_neg (show ¬ (30 : Int32) = 5 by decide), if_neg (show ¬ (30 : Int32) = 6 by decide), if_neg (show ¬ (30 : Int32) = 7 by decide), if_neg (show ¬ (30 : Int32) = 8 by decide), if_neg (show ¬ (30 : Int32) = 9 by decide), if_neg (show ¬ (30 : Int32) = 10 by decide), if_neg (show ¬ (30 : Int32) = 11 by decide), if_neg (show ¬ (30 : Int32) = 12 by decide), if_neg (show ¬ (30 : Int32) = 13 by decide), if_neg (show ¬ (30 : Int32) = 14 by decide), if_neg (show ¬ (30 : Int32) = 15 by decide), if_neg (show ¬ (30 : Int32) = 16 by decide), if_neg (show ¬ (30 : Int32) = 17 by decide), if_neg (show ¬ (30 : Int32) = 18 by decide), if_neg (show ¬ (30 : Int32) = 19 by decide), if_neg (show ¬ (30 : Int32) = 20 by decide), if_neg (show ¬ (30 : Int32) = 21 by decide), if_neg (show ¬ (30 : Int32) = 22 by decide), if_neg (show ¬ (30 : Int32) = 23 by decide), if_neg (show ¬ (30 : Int32) = 24 by decide), if_neg (show ¬ (30 : Int32) = 25 by decide), if_neg (show ¬ (30 : Int32) = 26 by decide), if_neg (show ¬ (30 : Int32) = 27 by decide), if_neg (show ¬ (30 : Int32) = 28 by decide), if_neg (show ¬ (30 : Int32) = 29 by decide), if_pos (show (30 : Int32) = 30 by decide)]
  rw [nI_addR 1 (6 * i), nI_addR 2 (6 * i), if_pos (hw.a (show 6 * i + 1 < L by omega) hL), if_pos (hw.a (show 6 * i + 2 < L by omega) hL), tg_6 hS, if_pos rfl, x1, x2, hw.2 (6 * i + 1), hw.2 (6 * i + 2), e1, zbI_e, if_pos (w1.a (show 6 * i + 1 < L by omega) hL), if_pos (w1.a (show 6 * i + 2 < L by omega) hL), tg_176 S1, if_pos rfl, w1.2 (6 * i + 1), w1.2 (6 * i + 2), e2, zbI_e, if_pos rfl]
theorem lw_31 (h : RR B σ c P S N M K np t n) (hw : W0 L xs σ) (hi : 6 * i + 6 ≤ L) (hL : L ≤ 3072) (hc : c ≤ 600) (hk : xs (6 * i) &&& 63 = 31) : LX B L xs i c σ := by
  have hS := h.1
  obtain ⟨v, s1, s2, e1, S1, w1, e2, w2, rx⟩ := law_al hw (op_hold h (xs (6 * i + 1)) (xs (6 * i + 2))) (by decide +kernel) (by decide +kernel)
  refine ⟨s2, ?_, w2, rx⟩
  have nl : ¬ Int32.ofNat L - 6 < nI (6 * i) := by
    rw [show Int32.ofNat L - 6 = nI (L - 6) from nI_subR (n := 6) (k := L) (by omega)]
    exact nI_nlt (by omega) (by omega)
  have x0 : ix (nI (6 * i)) = 6 * i := ixn (by omega)
  have x1 : ix (nI (6 * i + 1)) = 6 * i + 1 := ixn (by omega)
  have x2 : ix (nI (6 * i + 2)) = 6 * i + 2 := ixn (by omega)
  rw [q_L_law_10, hw.tk, if_pos (show 32 ≤ 48 by omega), hw.l, if_neg nl, if_pos (hw.a (show 6 * i < L by omega) hL), x0, hw.2 (6 * i), hk, if_neg (show ¬ (31 : Int32) = 0 by decide), if_neg (show ¬ (31 : Int32) = 1 by decide), if_neg (show ¬ (31 : Int32) = 2 by decide), if_neg (show ¬ (31 : Int32) = 3 by decide), if_neg (show ¬ (31 : Int32) = 4 by decide), if_neg (show ¬ (31 : Int32) = 5 by decide), if_neg (show ¬ (31 : Int32) = 6 by decide), if_neg (show ¬ (31 : Int32) = 7 by decide), if_neg (show ¬ (31 : Int32) = 8 by decide), if_neg (show ¬ (31 : Int32) = 9 by decide), if_neg (show ¬ (31 : Int32) = 10 by decide), if_neg (show ¬ (31 : Int32) = 11 by decide), if_neg (show ¬ (31 : Int32) = 12 by decide), if_neg (show ¬ (31 : Int32) = 13 by decide), if_neg (show ¬ (31 : Int32) = 14 by decide), if_neg (show ¬ (31 : Int32) = 15 by decide), if_neg (show ¬ (31 : Int32) = 16 by decide), if_neg (show ¬ (31 : Int32) = 17 by decide), if_neg (show ¬ (31 : Int32) = 18 by decide), if_neg (show ¬ (31 : Int32) = 19 by decide), if_neg (show ¬ (31 : Int32) = 20 by decide), if_neg (show ¬ (31 : Int32) = 21 by decide), if_neg (show ¬ (31 : Int32) = 22 by decide), if_neg (show ¬ (31 : Int32) = 23 by decide), if_neg (show ¬ (31 : Int32) = 24 by decide), if_neg (show ¬ (31 : Int32) = 25 by decide), if_neg (show ¬ (31 : Int32) = 26 by decide), if_neg (show ¬ (31 : Int32) = 27 by decide), if_neg (show ¬ (31 : Int32) = 28 by decide), if_neg (show ¬ (31 : Int32) = 29 by decide), if_neg (show ¬ (31 : Int32) = 30 by decide), if_pos (show (31 : Int32) = 31 by decide)]
  rw [nI_addR 1 (6 * i), nI_addR 2 (6 * i), if_pos (hw.a (show 6 * i + 1 < L by omega) hL), if_pos (hw.a (show 6 * i + 2 < L by omega) hL), tg_6 hS, if_pos rfl, x1, x2, hw.2 (6 * i + 1), hw.2 (6 * i + 2), e1, zbI_e, if_pos (w1.a (show 6 * i + 1 < L by omega) hL), if_pos (w1.a (show 6 * i + 2 < L by omega) hL), tg_176 S1, if_pos rfl, w1.2 (6 * i + 1), w1.2 (6 * i + 2), e2, zbI_e, if_pos rfl]
theorem lw_32 (h : RR B σ c P S N M K np t n) (hw : W0 L xs σ) (hi : 6 * i + 6 ≤ L) (hL : L ≤ 3072) (hc : c ≤ 600) (hk : xs (6 * i) &&& 63 = 32) : LX B L xs i c σ := by
  have hS := h.1
  obtain ⟨v, s1, s2, e1, S1, w1, e2, w2, rx⟩ := law_al hw (op_year h) (by decide +kernel) (by decide +kernel)
  refine ⟨s2, ?_, w2, rx⟩
  have nl : ¬ Int32.ofNat L - 6 < nI (6 * i) := by
    rw [show Int32.ofNat L - 6 = nI (L - 6) from nI_subR (n := 6) (k := L) (by omega)]
    exact nI_nlt (by omega) (by omega)
  have x0 : ix (nI (6 * i)) = 6 * i := ixn (by omega)
  rw [q_L_law_10, hw.tk, if_pos (show 32 ≤ 48 by omega), hw.l, if_neg nl, if_pos (hw.a (show 6 * i < L by omega) hL), x0, hw.2 (6 * i), hk, if_neg (show ¬ (32 : Int32) = 0 by decide), if_neg (show ¬ (32 : Int32) = 1 by decide), if_neg (show ¬ (32 : Int32) = 2 by decide), if_neg (show ¬ (32 : Int32) = 3 by decide), if_neg (show ¬ (32 : Int32) = 4 by decide), if_neg (show ¬ (32 : Int32) = 5 by decide), if_neg (show ¬ (32 : Int32) = 6 by decide), if_neg (show ¬ (32 : Int32) = 7 by decide), if_neg (show ¬ (32 : Int32) = 8 by decide), if_neg (show ¬ (32 : Int32) = 9 by decide), if_neg (show ¬ (32 : Int32) = 10 by decide), if_neg (show ¬ (32 : Int32) = 11 by decide), if_neg (show ¬ (32 : Int32) = 12 by decide), if_neg (show ¬ (32 : Int32) = 13 by decide), if_neg (show ¬ (32 : Int32) = 14 by decide), if_neg (show ¬ (32 : Int32) = 15 by decide), if_neg (show ¬ (32 : Int32) = 16 by decide), if_neg (show ¬ (32 : Int32) = 17 by decide), if_neg (show ¬ (32 : Int32) = 18 by decide), if_neg (show ¬ (32 : Int32) = 19 by decide), if_neg (show ¬ (32 : Int32) = 20 by decide), if_neg (show ¬ (32 : Int32) = 21 by decide), if_neg (show ¬ (32 : Int32) = 22 by decide), if_neg (show ¬ (32 : Int32) = 23 by decide), if_neg (show ¬ (32 : Int32) = 24 by decide), if_neg (show ¬ (32 : Int32) = 25 by decide), if_neg (show ¬ (32 : Int32) = 26 by decide), if_neg (show ¬ (32 : Int32) = 27 by decide), if_neg (show ¬ (32 : Int32) = 28 by decide), if_neg (show ¬ (32 : Int32) = 29 by decide), if_neg (show ¬ (32 : Int32) = 30 by decide), if_neg (show ¬ (32 : Int32) = 31 by decide), if_pos (show (32 : Int32) = 32 by decide)]
  rw [tg_6 hS, if_pos rfl, e1, zbI_e, tg_176 S1, if_pos rfl, e2, zbI_e, if_pos rfl]
theorem lw_33 (h : RR B σ c P S N M K np t n) (hw : W0 L xs σ) (hi : 6 * i + 6 ≤ L) (hL : L ≤ 3072) (hc : c ≤ 600) (hk : xs (6 * i) &&& 63 = 33) : LX B L xs i c σ := by
  have hS := h.1
  obtain ⟨v, s1, s2, e1, S1, w1, e2, w2, rx⟩ := law_al hw (op_draw h (xs (6 * i + 1))) (by decide +kernel) (by decide +kernel)
  refine ⟨s2, ?_, w2, rx⟩
  have nl : ¬ Int32.ofNat L - 6 < nI (6 * i) := by
    rw [show Int32.ofNat L - 6 = nI (L - 6) from nI_subR (n := 6) (k := L) (by omega)]
    exact nI_nlt (by omega) (by omega)
  have x0 : ix (nI (6 * i)) = 6 * i := ixn (by omega)
  have x1 : ix (nI (6 * i + 1)) = 6 * i + 1 := ixn (by omega)
  rw [q_L_law_10, hw.tk, if_pos (show 32 ≤ 48 by omega), hw.l, if_neg nl, if_pos (hw.a (show 6 * i < L by omega) hL), x0, hw.2 (6 * i), hk, if_neg (show ¬ (33 : Int32) = 0 by decide), if_neg (show ¬ (33 : Int32) = 1 by decide), if_neg (show ¬ (33 : Int32) = 2 by decide), if_neg (show ¬ (33 : Int32) = 3 by decide), if_neg (show ¬ (33 : Int32) = 4 by decide), if_neg (show ¬ (33 : Int32) = 5 by decide), if_neg (show ¬ (33 : Int32) = 6 by decide), if_neg (show ¬ (33 : Int32) = 7 by decide), if_neg (show ¬ (33 : Int32) = 8 by decide), if_neg (show ¬ (33 : Int32) = 9 by decide), if_neg (show ¬ (33 : Int32) = 10 by decide), if_neg (show ¬ (33 : Int32) = 11 by decide), if_neg (show ¬ (33 : Int32) = 12 by decide), if_neg (show ¬ (33 : Int32) = 13 by decide), if_neg (show ¬ (33 : Int32) = 14 by decide), if_neg (show ¬ (33 : Int32) = 15 by decide), if_neg (show ¬ (33 : Int32) = 16 by decide), if_neg (show ¬ (33 : Int32) = 17 by decide), if_neg (show ¬ (33 : Int32) = 18 by decide), if_neg (show ¬ (33 : Int32) = 19 by decide), if_neg (show ¬ (33 : Int32) = 20 by decide), if_neg (show ¬ (33 : Int32) = 21 by decide), if_neg (show ¬ (33 : Int32) = 22 by decide), if_neg (show ¬ (33 : Int32) = 23 by decide), if_neg (show ¬ (33 : Int32) = 24 by decide), if_neg (show ¬ (33 : Int32) = 25 by decide), if_neg (show ¬ (33 : Int32) = 26 by decide), if_neg (show ¬ (33 : Int32) = 27 by decide), if_neg (show ¬ (33 : Int32) = 28 by decide), if_neg (show ¬ (33 : Int32) = 29 by decide), if_neg (show ¬ (33 : Int32) = 30 by decide), if_neg (show ¬ (33 : Int32) = 31 by decide), if_neg (show ¬ (33 : Int32) = 32 by decide), if_pos (show (33 : Int32) = 33 by decide)]
  rw [nI_addR 1 (6 * i), if_pos (hw.a (show 6 * i + 1 < L by omega) hL), tg_6 hS, if_pos rfl, x1, hw.2 (6 * i + 1), e1, zbI_e, if_pos (w1.a (show 6 * i + 1 < L by omega) hL), tg_176 S1, if_pos rfl, w1.2 (6 * i + 1), e2, zbI_e, if_pos rfl]
theorem lw_34 (h : RR B σ c P S N M K np t n) (hw : W0 L xs σ) (hi : 6 * i + 6 ≤ L) (hL : L ≤ 3072) (hc : c ≤ 600) (hk : xs (6 * i) &&& 63 = 34) : LX B L xs i c σ := by
  have hS := h.1
  obtain ⟨v, s1, s2, e1, S1, w1, e2, w2, rx⟩ := law_al hw (op_truth h (xs (6 * i + 1))) (by decide +kernel) (by decide +kernel)
  refine ⟨s2, ?_, w2, rx⟩
  have nl : ¬ Int32.ofNat L - 6 < nI (6 * i) := by
    rw [show Int32.ofNat L - 6 = nI (L - 6) from nI_subR (n := 6) (k := L) (by omega)]
    exact nI_nlt (by omega) (by omega)
  have x0 : ix (nI (6 * i)) = 6 * i := ixn (by omega)
  have x1 : ix (nI (6 * i + 1)) = 6 * i + 1 := ixn (by omega)
  rw [q_L_law_10, hw.tk, if_pos (show 32 ≤ 48 by omega), hw.l, if_neg nl, if_pos (hw.a (show 6 * i < L by omega) hL), x0, hw.2 (6 * i), hk, if_neg (show ¬ (34 : Int32) = 0 by decide), if_neg (show ¬ (34 : Int32) = 1 by decide), if_neg (show ¬ (34 : Int32) = 2 by decide), if_neg (show ¬ (34 : Int32) = 3 by decide), if_neg (show ¬ (34 : Int32) = 4 by decide), if_neg (show ¬ (34 : Int32) = 5 by decide), if_neg (show ¬ (34 : Int32) = 6 by decide), if_neg (show ¬ (34 : Int32) = 7 by decide), if_neg (show ¬ (34 : Int32) = 8 by decide), if_neg (show ¬ (34 : Int32) = 9 by decide), if_neg (show ¬ (34 : Int32) = 10 by decide), if_neg (show ¬ (34 : Int32) = 11 by decide), if_neg (show ¬ (34 : Int32) = 12 by decide), if_neg (show ¬ (34 : Int32) = 13 by decide), if_neg (show ¬ (34 : Int32) = 14 by decide), if_neg (show ¬ (34 : Int32) = 15 by decide), if_neg (show ¬ (34 : Int32) = 16 by decide), if_neg (show ¬ (34 : Int32) = 17 by decide), if_neg (show ¬ (34 : Int32) = 18 by decide), if_neg (show ¬ (34 : Int32) = 19 by decide), if_neg (show ¬ (34 : Int32) = 20 by decide), if_neg (show ¬ (34 : Int32) = 21 by decide), if_neg (show ¬ (34 : Int32) = 22 by decide), if_neg (show ¬ (34 : Int32) = 23 by decide), if_neg (show ¬ (34 : Int32) = 24 by decide), if_neg (show ¬ (34 : Int32) = 25 by decide), if_neg (show ¬ (34 : Int32) = 26 by decide), if_neg (show ¬ (34 : Int32) = 27 by decide), if_neg (show ¬ (34 : Int32) = 28 by decide), if_neg (show ¬ (34 : Int32) = 29 by decide), if_neg (show ¬ (34 : Int32) = 30 by decide), if_neg (show ¬ (34 : Int32) = 31 by decide), if_neg (show ¬ (34 : Int32) = 32 by decide), if_neg (show ¬ (34 : Int32) = 33 by decide), if_pos (show (34 : Int32) = 34 by decide)]
  rw [nI_addR 1 (6 * i), if_pos (hw.a (show 6 * i + 1 < L by omega) hL), tg_6 hS, if_pos rfl, x1, hw.2 (6 * i + 1), e1, zbI_e, if_pos (w1.a (show 6 * i + 1 < L by omega) hL), tg_176 S1, if_pos rfl, w1.2 (6 * i + 1), e2, zbI_e, if_pos rfl]
theorem lw_35 (h : RR B σ c P S N M K np t n) (hw : W0 L xs σ) (hi : 6 * i + 6 ≤ L) (hL : L ≤ 3072) (hc : c ≤ 600) (hk : xs (6 * i) &&& 63 = 35) : LX B L xs i c σ := by
  have hS := h.1
  obtain ⟨v, s1, s2, e1, S1, w1, e2, w2, rx⟩ := law_al hw (op_trial h hc (xs (6 * i + 1)) (xs (6 * i + 2)) (xs (6 * i + 3))) (by decide +kernel) (by decide +kernel)
  refine ⟨s2, ?_, w2, rx⟩
  have nl : ¬ Int32.ofNat L - 6 < nI (6 * i) := by
    rw [show Int32.ofNat L - 6 = nI (L - 6) from nI_subR (n := 6) (k := L) (by omega)]
    exact nI_nlt (by omega) (by omega)
  have x0 : ix (nI (6 * i)) = 6 * i := ixn (by omega)
  have x1 : ix (nI (6 * i + 1)) = 6 * i + 1 := ixn (by omega)
  have x2 : ix (nI (6 * i + 2)) = 6 * i + 2 := ixn (by omega)
  have x3 : ix (nI (6 * i + 3)) = 6 * i + 3 := ixn (by omega)
  rw [q_L_law_10, hw.tk, if_pos (show 32 ≤ 48 by omega), hw.l, if_neg nl, if_pos (hw.a (show 6 * i < L by omega) hL), x0, hw.2 (6 * i), hk, if_neg (show ¬ (35 : Int32) = 0 by decide), if_neg (show ¬ (35 : Int32) = 1 by decide), if_neg (show ¬ (35 : Int32) = 2 by decide), if_neg (show ¬ (35 : Int32) = 3 by decide), if_neg (show ¬ (35 : Int32) = 4 by decide), if_neg (show ¬ (35 : Int32) = 5 by decide), if_neg (show ¬ (35 : Int32) = 6 by decide), if_neg (show ¬ (35 : Int32) = 7 by decide), if_neg (show ¬ (35 : Int32) = 8 by decide), if_neg (show ¬ (35 : Int32) = 9 by decide), if_neg (show ¬ (35 : Int32) = 10 by decide), if_neg (show ¬ (35 : Int32) = 11 by decide), if_neg (show ¬ (35 : Int32) = 12 by decide), if_neg (show ¬ (35 : Int32) = 13 by decide), if_neg (show ¬ (35 : Int32) = 14 by decide), if_neg (show ¬ (35 : Int32) = 15 by decide), if_neg (show ¬ (35 : Int32) = 16 by decide), if_neg (show ¬ (35 : Int32) = 17 by decide), if_neg (show ¬ (35 : Int32) = 18 by decide), if_neg (show ¬ (35 : Int32) = 19 by decide), if_neg (show ¬ (35 : Int32) = 20 by decide), if_neg (show ¬ (35 : Int32) = 21 by decide), if_neg (show ¬ (35 : Int32) = 22 by decide), if_neg (show ¬ (35 : Int32) = 23 by decide), if_neg (show ¬ (35 : Int32) = 24 by decide), if_neg (show ¬ (35 : Int32) = 25 by decide), if_neg (show ¬ (35 : Int32) = 26 by decide), if_neg (show ¬ (35 : Int32) = 27 by decide), if_neg (show ¬ (35 : Int32) = 28 by decide), if_neg (show ¬ (35 : Int32) = 29 by decide), if_neg (show ¬ (35 : Int32) = 30 by decide), if_neg (show ¬ (35 : Int32) = 31 by decide), if_neg (show ¬ (35 : Int32) = 32 by decide), if_neg (show ¬ (35 : Int32) = 33 by decide), if_neg (show ¬ (35 : Int32) = 34 by decide), if_pos (show (35 : Int32) = 35 by decide)]
  rw [q_L_law_1052]
  rw [nI_addR 1 (6 * i), nI_addR 2 (6 * i), nI_addR 3 (6 * i), if_pos (hw.a (show 6 * i + 1 < L by omega) hL), if_pos (hw.a (show 6 * i + 2 < L by omega) hL), if_pos (hw.a (show 6 * i + 3 < L by omega) hL), tg_6 hS, if_pos rfl, x1, x2, x3, hw.2 (6 * i + 1), hw.2 (6 * i + 2), hw.2 (6 * i + 3), e1, zbI_e, if_pos (w1.a (show 6 * i + 1 < L by omega) hL), if_pos (w1.a (show 6 * i + 2 < L by omega) hL), if_pos (w1.a (show 6 * i + 3 < L by omega) hL), tg_176 S1, if_pos rfl, w1.2 (6 * i + 1), w1.2 (6 * i + 2), w1.2 (6 * i + 3), e2, zbI_e, if_pos rfl]
theorem lw_36 (h : RR B σ c P S N M K np t n) (hw : W0 L xs σ) (hi : 6 * i + 6 ≤ L) (hL : L ≤ 3072) (hc : c ≤ 600) (hk : xs (6 * i) &&& 63 = 36) : LX B L xs i c σ := by
  have hS := h.1
  obtain ⟨v, s1, s2, e1, S1, w1, e2, w2, rx⟩ := law_al hw (op_image h) (by decide +kernel) (by decide +kernel)
  refine ⟨s2, ?_, w2, rx⟩
  have nl : ¬ Int32.ofNat L - 6 < nI (6 * i) := by
    rw [show Int32.ofNat L - 6 = nI (L - 6) from nI_subR (n := 6) (k := L) (by omega)]
    exact nI_nlt (by omega) (by omega)
  have x0 : ix (nI (6 * i)) = 6 * i := ixn (by omega)
  rw [q_L_law_10, hw.tk, if_pos (show 32 ≤ 48 by omega), hw.l, if_neg nl, if_pos (hw.a (show 6 * i < L by omega) hL), x0, hw.2 (6 * i), hk, if_neg (show ¬ (36 : Int32) = 0 by decide), if_neg (show ¬ (36 : Int32) = 1 by decide), if_neg (show ¬ (36 : Int32) = 2 by decide), if_neg (show ¬ (36 : Int32) = 3 by decide), if_neg (show ¬ (36 : Int32) = 4 by decide), if_neg (show ¬ (36 : Int32) = 5 by decide), if_neg (show ¬ (36 : Int32) = 6 by decide), if_neg (show ¬ (36 : Int32) = 7 by decide), if_neg (show ¬ (36 : Int32) = 8 by decide), if_neg (show ¬ (36 : Int32) = 9 by decide), if_neg (show ¬ (36 : Int32) = 10 by decide), if_neg (show ¬ (36 : Int32) = 11 by decide), if_neg (show ¬ (36 : Int32) = 12 by decide), if_neg (show ¬ (36 : Int32) = 13 by decide), if_neg (show ¬ (36 : Int32) = 14 by decide), if_neg (show ¬ (36 : Int32) = 15 by decide), if_neg (show ¬ (36 : Int32) = 16 by decide), if_neg (show ¬ (36 : Int32) = 17 by decide), if_neg (show ¬ (36 : Int32) = 18 by decide), if_neg (show ¬ (36 : Int32) = 19 by decide), if_neg (show ¬ (36 : Int32) = 20 by decide), if_neg (show ¬ (36 : Int32) = 21 by decide), if_neg (show ¬ (36 : Int32) = 22 by decide), if_neg (show ¬ (36 : Int32) = 23 by decide), if_neg (show ¬ (36 : Int32) = 24 by decide), if_neg (show ¬ (36 : Int32) = 25 by decide), if_neg (show ¬ (36 : Int32) = 26 by decide), if_neg (show ¬ (36 : Int32) = 27 by decide), if_neg (show ¬ (36 : Int32) = 28 by decide), if_neg (show ¬ (36 : Int32) = 29 by decide), if_neg (show ¬ (36 : Int32) = 30 by decide), if_neg (show ¬ (36 : Int32) = 31 by decide), if_neg (show ¬ (36 : Int32) = 32 by decide), if_neg (show ¬ (36 : Int32) = 33 by decide), if_neg (show ¬ (36 : Int32) = 34 by decide), if_neg (show ¬ (36 : Int32) = 35 by decide), if_pos (show (36 : Int32) = 36 by decide)]
  rw [tg_6 hS, if_pos rfl, e1, zbI_e, tg_176 S1, if_pos rfl, e2, zbI_e, if_pos rfl]
theorem lw_37 (h : RR B σ c P S N M K np t n) (hw : W0 L xs σ) (hi : 6 * i + 6 ≤ L) (hL : L ≤ 3072) (hc : c ≤ 600) (hk : xs (6 * i) &&& 63 = 37) : LX B L xs i c σ := by
  have hS := h.1
  obtain ⟨v, s1, s2, e1, S1, w1, e2, w2, rx⟩ := law_al hw (op_octet h (xs (6 * i + 1))) (by decide +kernel) (by decide +kernel)
  refine ⟨s2, ?_, w2, rx⟩
  have nl : ¬ Int32.ofNat L - 6 < nI (6 * i) := by
    rw [show Int32.ofNat L - 6 = nI (L - 6) from nI_subR (n := 6) (k := L) (by omega)]
    exact nI_nlt (by omega) (by omega)
  have x0 : ix (nI (6 * i)) = 6 * i := ixn (by omega)
  have x1 : ix (nI (6 * i + 1)) = 6 * i + 1 := ixn (by omega)
  rw [q_L_law_10, hw.tk, if_pos (show 32 ≤ 48 by omega), hw.l, if_neg nl, if_pos (hw.a (show 6 * i < L by omega) hL), x0, hw.2 (6 * i), hk, if_neg (show ¬ (37 : Int32) = 0 by decide), if_neg (show ¬ (37 : Int32) = 1 by decide), if_neg (show ¬ (37 : Int32) = 2 by decide), if_neg (show ¬ (37 : Int32) = 3 by decide), if_neg (show ¬ (37 : Int32) = 4 by decide), if_neg (show ¬ (37 : Int32) = 5 by decide), if_neg (show ¬ (37 : Int32) = 6 by decide), if_neg (show ¬ (37 : Int32) = 7 by decide), if_neg (show ¬ (37 : Int32) = 8 by decide), if_neg (show ¬ (37 : Int32) = 9 by decide), if_neg (show ¬ (37 : Int32) = 10 by decide), if_neg (show ¬ (37 : Int32) = 11 by decide), if_neg (show ¬ (37 : Int32) = 12 by decide), if_neg (show ¬ (37 : Int32) = 13 by decide), if_neg (show ¬ (37 : Int32) = 14 by decide), if_neg (show ¬ (37 : Int32) = 15 by decide), if_neg (show ¬ (37 : Int32) = 16 by decide), if_neg (show ¬ (37 : Int32) = 17 by decide), if_neg (show ¬ (37 : Int32) = 18 by decide), if_neg (show ¬ (37 : Int32) = 19 by decide), if_neg (show ¬ (37 : Int32) = 20 by decide), if_neg (show ¬ (37 : Int32) = 21 by decide), if_neg (show ¬ (37 : Int32) = 22 by decide), if_neg (show ¬ (37 : Int32) = 23 by decide), if_neg (show ¬ (37 : Int32) = 24 by decide), if_neg (show ¬ (37 : Int32) = 25 by decide), if_neg (show ¬ (37 : Int32) = 26 by decide), if_neg (show ¬ (37 : Int32) = 27 by decide), if_neg (show ¬ (37 : Int32) = 28 by decide), if_neg (show ¬ (37 : Int32) = 29 by decide), if_neg (show ¬ (37 : Int32) = 30 by decide), if_neg (show ¬ (37 : Int32) = 31 by decide), if_neg (show ¬ (37 : Int32) = 32 by decide), if_neg (show ¬ (37 : Int32) = 33 by decide), if_neg (show ¬ (37 : Int32) = 34 by decide), if_neg (show ¬ (37 : Int32) = 35 by decide), if_neg (show ¬ (37 : Int32) = 36 by decide), if_pos (show (37 : Int32) = 37 by decide)]
  rw [nI_addR 1 (6 * i), if_pos (hw.a (show 6 * i + 1 < L by omega) hL), tg_6 hS, if_pos rfl, x1, hw.2 (6 * i + 1), e1, zbI_e, if_pos (w1.a (show 6 * i + 1 < L by omega) hL), tg_176 S1, if_pos rfl, w1.2 (6 * i + 1), e2, zbI_e, if_pos rfl]
theorem lw_38 (h : RR B σ c P S N M K np t n) (hw : W0 L xs σ) (hi : 6 * i + 6 ≤ L) (hL : L ≤ 3072) (hc : c ≤ 600) (hk : xs (6 * i) &&& 63 = 38) : LX B L xs i c σ := by
  have hS := h.1
  obtain ⟨v, s1, s2, e1, S1, w1, e2, w2, rx⟩ := law_al hw (op_on h) (by decide +kernel) (by decide +kernel)
  refine ⟨s2, ?_, w2, rx⟩
  have nl : ¬ Int32.ofNat L - 6 < nI (6 * i) := by
    rw [show Int32.ofNat L - 6 = nI (L - 6) from nI_subR (n := 6) (k := L) (by omega)]
    exact nI_nlt (by omega) (by omega)
  have x0 : ix (nI (6 * i)) = 6 * i := ixn (by omega)
  rw [q_L_law_10, hw.tk, if_pos (show 32 ≤ 48 by omega), hw.l, if_neg nl, if_pos (hw.a (show 6 * i < L by omega) hL), x0, hw.2 (6 * i), hk, if_neg (show ¬ (38 : Int32) = 0 by decide), if_neg (show ¬ (38 : Int32) = 1 by decide), if_neg (show ¬ (38 : Int32) = 2 by decide), if_neg (show ¬ (38 : Int32) = 3 by decide), if_neg (show ¬ (38 : Int32) = 4 by decide), if_neg (show ¬ (38 : Int32) = 5 by decide), if_neg (show ¬ (38 : Int32) = 6 by decide), if_neg (show ¬ (38 : Int32) = 7 by decide), if_neg (show ¬ (38 : Int32) = 8 by decide), if_neg (show ¬ (38 : Int32) = 9 by decide), if_neg (show ¬ (38 : Int32) = 10 by decide), if_neg (show ¬ (38 : Int32) = 11 by decide), if_neg (show ¬ (38 : Int32) = 12 by decide), if_neg (show ¬ (38 : Int32) = 13 by decide), if_neg (show ¬ (38 : Int32) = 14 by decide), if_neg (show ¬ (38 : Int32) = 15 by decide), if_neg (show ¬ (38 : Int32) = 16 by decide), if_neg (show ¬ (38 : Int32) = 17 by decide), if_neg (show ¬ (38 : Int32) = 18 by decide), if_neg (show ¬ (38 : Int32) = 19 by decide), if_neg (show ¬ (38 : Int32) = 20 by decide), if_neg (show ¬ (38 : Int32) = 21 by decide), if_neg (show ¬ (38 : Int32) = 22 by decide), if_neg (show ¬ (38 : Int32) = 23 by decide), if_neg (show ¬ (38 : Int32) = 24 by decide), if_neg (show ¬ (38 : Int32) = 25 by decide), if_neg (show ¬ (38 : Int32) = 26 by decide), if_neg (show ¬ (38 : Int32) = 27 by decide), if_neg (show ¬ (38 : Int32) = 28 by decide), if_neg (show ¬ (38 : Int32) = 29 by decide), if_neg (show ¬ (38 : Int32) = 30 by decide), if_neg (show ¬ (38 : Int32) = 31 by decide), if_neg (show ¬ (38 : Int32) = 32 by decide), if_neg (show ¬ (38 : Int32) = 33 by decide), if_neg (show ¬ (38 : Int32) = 34 by decide), if_neg (show ¬ (38 : Int32) = 35 by decide), if_neg (show ¬ (38 : Int32) = 36 by decide), if_neg (show ¬ (38 : Int32) = 37 by decide), if_pos (show (38 : Int32) = 38 by decide)]
  rw [tg_6 hS, if_pos rfl, e1, zbI_e, tg_176 S1, if_pos rfl, e2, zbI_e, if_pos rfl]
theorem lw_no (h : RR B σ c P S N M K np t n) (hw : W0 L xs σ) (hi : 6 * i + 6 ≤ L) (hL : L ≤ 3072) (hk : ∀ k, k < 39 → ¬ xs (6 * i) &&& 63 = nI k) : LX B L xs i c σ := by
  refine ⟨σ, ?_, hw, P, S, N, M, K, np, t, n, RR_mono h (by omega)⟩
  have nl : ¬ Int32.ofNat L - 6 < nI (6 * i) := by
    rw [show Int32.ofNat L - 6 = nI (L - 6) from nI_subR (n := 6) (k := L) (by omega)]
    exact nI_nlt (by omega) (by omega)
  have x0 : ix (nI (6 * i)) = 6 * i := ixn (by omega)
  rw [q_L_law_10, hw.tk, if_pos (show 32 ≤ 48 by omega), hw.l, if_neg nl, if_pos (hw.a (show 6 * i < L by omega) hL), x0, hw.2 (6 * i), if_neg (show ¬ xs (6 * i) &&& 63 = 0 from hk 0 (by omega)), if_neg (show ¬ xs (6 * i) &&& 63 = 1 from hk 1 (by omega)), if_neg (show ¬ xs (6 * i) &&& 63 = 2 from hk 2 (by omega)), if_neg (show ¬ xs (6 * i) &&& 63 = 3 from hk 3 (by omega)), if_neg (show ¬ xs (6 * i) &&& 63 = 4 from hk 4 (by omega)), if_neg (show ¬ xs (6 * i) &&& 63 = 5 from hk 5 (by omega)), if_neg (show ¬ xs (6 * i) &&& 63 = 6 from hk 6 (by omega)), if_neg (show ¬ xs (6 * i) &&& 63 = 7 from hk 7 (by omega)), if_neg (show ¬ xs (6 * i) &&& 63 = 8 from hk 8 (by omega)), if_neg (show ¬ xs (6 * i) &&& 63 = 9 from hk 9 (by omega)), if_neg (show ¬ xs (6 * i) &&& 63 = 10 from hk 10 (by omega)), if_neg (show ¬ xs (6 * i) &&& 63 = 11 from hk 11 (by omega)), if_neg (show ¬ xs (6 * i) &&& 63 = 12 from hk 12 (by omega)), if_neg (show ¬ xs (6 * i) &&& 63 = 13 from hk 13 (by omega)), if_neg (show ¬ xs (6 * i) &&& 63 = 14 from hk 14 (by omega)), if_neg (show ¬ xs (6 * i) &&& 63 = 15 from hk 15 (by omega)), if_neg (show ¬ xs (6 * i) &&& 63 = 16 from hk 16 (by omega)), if_neg (show ¬ xs (6 * i) &&& 63 = 17 from hk 17 (by omega)), if_neg (show ¬ xs (6 * i) &&& 63 = 18 from hk 18 (by omega)), if_neg (show ¬ xs (6 * i) &&& 63 = 19 from hk 19 (by omega)), if_neg (show ¬ xs (6 * i) &&& 63 = 20 from hk 20 (by omega)), if_neg (show ¬ xs (6 * i) &&& 63 = 21 from hk 21 (by omega)), if_neg (show ¬ xs (6 * i) &&& 63 = 22 from hk 22 (by omega)), if_neg (show ¬ xs (6 * i) &&& 63 = 23 from hk 23 (by omega)), if_neg (show ¬ xs (6 * i) &&& 63 = 24 from hk 24 (by omega)), if_neg (show ¬ xs (6 * i) &&& 63 = 25 from hk 25 (by omega)), if_neg (show ¬ xs (6 * i) &&& 63 = 26 from hk 26 (by omega)), if_neg (show ¬ xs (6 * i) &&& 63 = 27 from hk 27 (by omega)), if_neg (show ¬ xs (6 * i) &&& 63 = 28 from hk 28 (by omega)), if_neg (show ¬ xs (6 * i) &&& 63 = 29 from hk 29 (by omega)), if_neg (show ¬ xs (6 * i) &&& 63 = 30 from hk 30 (by omega)), if_neg (show ¬ xs (6 * i) &&& 63 = 31 from hk 31 (by omega)), if_neg (show ¬ xs (6 * i) &&& 63 = 32 from hk 32 (by omega)), if_neg (show ¬ xs (6 * i) &&& 63 = 33 from hk 33 (by omega)), if_neg (show ¬ xs (6 * i) &&& 63 = 34 from hk 34 (by omega)), if_neg (show ¬ xs (6 * i) &&& 63 = 35 from hk 35 (by omega)), if_neg (show ¬ xs (6 * i) &&& 63 = 36 from hk 36 (by omega)), if_neg (show ¬ xs (6 * i) &&& 63 = 37 from hk 37 (by omega)), if_neg (show ¬ xs (6 * i) &&& 63 = 38 from hk 38 (by omega))]
theorem lw_all (h : RR B σ c P S N M K np t n) (hw : W0 L xs σ) (hi : 6 * i + 6 ≤ L) (hL : L ≤ 3072) (hc : c ≤ 600) : LX B L xs i c σ := by
  by_cases q0 : xs (6 * i) &&& 63 = 0
  · exact lw_0 h hw hi hL hc q0
  by_cases q1 : xs (6 * i) &&& 63 = 1
  · exact lw_1 h hw hi hL hc q1
  by_cases q2 : xs (6 * i) &&& 63 = 2
  · exact lw_2 h hw hi hL hc q2
  by_cases q3 : xs (6 * i) &&& 63 = 3
  · exact lw_3 h hw hi hL hc q3
  by_cases q4 : xs (6 * i) &&& 63 = 4
  · exact lw_4 h hw hi hL hc q4
  by_cases q5 : xs (6 * i) &&& 63 = 5
  · exact lw_5 h hw hi hL hc q5
  by_cases q6 : xs (6 * i) &&& 63 = 6
  · exact lw_6 h hw hi hL hc q6
  by_cases q7 : xs (6 * i) &&& 63 = 7
  · exact lw_7 h hw hi hL hc q7
  by_cases q8 : xs (6 * i) &&& 63 = 8
  · exact lw_8 h hw hi hL hc q8
  by_cases q9 : xs (6 * i) &&& 63 = 9
  · exact lw_9 h hw hi hL hc q9
  by_cases q10 : xs (6 * i) &&& 63 = 10
  · exact lw_10 h hw hi hL hc q10
  by_cases q11 : xs (6 * i) &&& 63 = 11
  · exact lw_11 h hw hi hL hc q11
  by_cases q12 : xs (6 * i) &&& 63 = 12
  · exact lw_12 h hw hi hL hc q12
  by_cases q13 : xs (6 * i) &&& 63 = 13
  · exact lw_13 h hw hi hL hc q13
  by_cases q14 : xs (6 * i) &&& 63 = 14
  · exact lw_14 h hw hi hL hc q14
  by_cases q15 : xs (6 * i) &&& 63 = 15
  · exact lw_15 h hw hi hL hc q15
  by_cases q16 : xs (6 * i) &&& 63 = 16
  · exact lw_16 h hw hi hL hc q16
  by_cases q17 : xs (6 * i) &&& 63 = 17
  · exact lw_17 h hw hi hL hc q17
  by_cases q18 : xs (6 * i) &&& 63 = 18
  · exact lw_18 h hw hi hL hc q18
  by_cases q19 : xs (6 * i) &&& 63 = 19
  · exact lw_19 h hw hi hL hc q19
  by_cases q20 : xs (6 * i) &&& 63 = 20
  · exact lw_20 h hw hi hL hc q20
  by_cases q21 : xs (6 * i) &&& 63 = 21
  · exact lw_21 h hw hi hL hc q21
  by_cases q22 : xs (6 * i) &&& 63 = 22
  · exact lw_22 h hw hi hL hc q22
  by_cases q23 : xs (6 * i) &&& 63 = 23
  · exact lw_23 h hw hi hL hc q23
  by_cases q24 : xs (6 * i) &&& 63 = 24
  · exact lw_24 h hw hi hL hc q24
  by_cases q25 : xs (6 * i) &&& 63 = 25
  · exact lw_25 h hw hi hL hc q25
  by_cases q26 : xs (6 * i) &&& 63 = 26
  · exact lw_26 h hw hi hL hc q26
  by_cases q27 : xs (6 * i) &&& 63 = 27
  · exact lw_27 h hw hi hL hc q27
  by_cases q28 : xs (6 * i) &&& 63 = 28
  · exact lw_28 h hw hi hL hc q28
  by_cases q29 : xs (6 * i) &&& 63 = 29
  · exact lw_29 h hw hi hL hc q29
  by_cases q30 : xs (6 * i) &&& 63 = 30
  · exact lw_30 h hw hi hL hc q30
  by_cases q31 : xs (6 * i) &&& 63 = 31
  · exact lw_31 h hw hi hL hc q31
  by_cases q32 : xs (6 * i) &&& 63 = 32
  · exact lw_32 h hw hi hL hc q32
  by_cases q33 : xs (6 * i) &&& 63 = 33
  · exact lw_33 h hw hi hL hc q33
  by_cases q34 : xs (6 * i) &&& 63 = 34
  · exact lw_34 h hw hi hL hc q34
  by_cases q35 : xs (6 * i) &&& 63 = 35
  · exact lw_35 h hw hi hL hc q35
  by_cases q36 : xs (6 * i) &&& 63 = 36
  · exact lw_36 h hw hi hL hc q36
  by_cases q37 : xs (6 * i) &&& 63 = 37
  · exact lw_37 h hw hi hL hc q37
  by_cases q38 : xs (6 * i) &&& 63 = 38
  · exact lw_38 h hw hi hL hc q38
  refine lw_no h hw hi hL (fun k hk => ?_)
  rcases (show k = 0 ∨ k = 1 ∨ k = 2 ∨ k = 3 ∨ k = 4 ∨ k = 5 ∨ k = 6 ∨ k = 7 ∨ k = 8 ∨ k = 9 ∨ k = 10 ∨ k = 11 ∨ k = 12 ∨ k = 13 ∨ k = 14 ∨ k = 15 ∨ k = 16 ∨ k = 17 ∨ k = 18 ∨ k = 19 ∨ k = 20 ∨ k = 21 ∨ k = 22 ∨ k = 23 ∨ k = 24 ∨ k = 25 ∨ k = 26 ∨ k = 27 ∨ k = 28 ∨ k = 29 ∨ k = 30 ∨ k = 31 ∨ k = 32 ∨ k = 33 ∨ k = 34 ∨ k = 35 ∨ k = 36 ∨ k = 37 ∨ k = 38 by omega) with rfl | rfl | rfl | rfl | rfl | rfl | rfl | rfl | rfl | rfl | rfl | rfl | rfl | rfl | rfl | rfl | rfl | rfl | rfl | rfl | rfl | rfl | rfl | rfl | rfl | rfl | rfl | rfl | rfl | rfl | rfl | rfl | rfl | rfl | rfl | rfl | rfl | rfl | rfl
  · exact q0
  · exact q1
  · exact q2
  · exact q3
  · exact q4
  · exact q5
  · exact q6
  · exact q7
  · exact q8
  · exact q9
  · exact q10
  · exact q11
  · exact q12
  · exact q13
  · exact q14
  · exact q15
  · exact q16
  · exact q17
  · exact q18
  · exact q19
  · exact q20
  · exact q21
  · exact q22
  · exact q23
  · exact q24
  · exact q25
  · exact q26
  · exact q27
  · exact q28
  · exact q29
  · exact q30
  · exact q31
  · exact q32
  · exact q33
  · exact q34
  · exact q35
  · exact q36
  · exact q37
  · exact q38
end
