/-! best: both answer alike -/
section
variable {σ σ' σ1 σ2 : zS} {s : Nat → Int32} {zf pl f f0 g : Nat → Nat} {B P S N M K np c n w b e y o d r p k so z pr fa wi ch lv A : Nat} {t : Nat → Nat}
/-- the mean of the best box, or nothing -/
def bmv (s : Nat → Int32) (z : Nat) (pl f g : Nat → Nat) (w pr fa wi ch : Nat) : Int32 := if cls (okb s z) (fun b => (mbv pl f g w pr fa wi ch b).toInt) 31 = 0 then -1000000000 else mbv pl f g w pr fa wi ch (cls (okb s z) (fun b => (mbv pl f g w pr fa wi ch b).toInt) 31)
theorem c_bmean (hS : Sh σ) (hP : HP P) (h65 : gR σ 6 5 = some P) (hp : p < 20) (hk : k < 8) (hso : so < 4) (hc : CW σ P p k so pl f0 g w) (tA : tg σ A = 32) (lA : ln σ A = 5) (nA : A ≠ 105) (fA : ∀ d, d < 5 → f d ≤ 10000 ∧ gI σ A d = nI (f d)) (hm : CM σ P k pr fa wi) (hch : gI σ P 10 = nI ch) (h1 : gI σ (116 + 3 * p) 1 = nI z) (hz : 30 ≤ z ∧ z ≤ 49) (hs : ∀ j, j < 20 → gI σ (P + 6) (20 * k + j) = s j) : ∃ σ', zM 151 [.ref 6, .ref (116 + 3 * p), .ref A, .int (nI k)] σ = some (some (.int (bmv s z pl f g w pr fa wi ch)), σ') ∧ Sh σ' ∧ Un (fun r _ => r = 105 ∨ r = 108) σ σ' := by
  have hbb := HPb hP
  obtain ⟨s1, a1, a2, a3, a4, a5⟩ := c_best hS hP h65 hp hk hso hc tA lA nA fA hm hch h1 hz hs
  have ux : Un Xs σ s1 := a3.mono (fun r j _ _ q => by unfold Xs; omega)
  have e65 : gR s1 6 5 = some P := by rw [a3.r (by omega) (by omega) (by omega) (by omega)]; exact h65
  have ech : gI s1 P 10 = nI ch := by rw [a3.i (by omega) (by omega) (by omega) (by omega)]; exact hch
  refine ⟨s1, ?_, a2, a3⟩
  rw [q_X11_bestMean, tg_6 hS, if_pos rfl, a1, zbI_e]
  unfold bmv
  rcases cls_in (ok := okb s z) (v := fun b => (mbv pl f g w pr fa wi ch b).toInt) 31 with q | ⟨q1, q2, q3⟩
  · rw [q, if_pos (by decide), if_pos rfl]
  · obtain ⟨o1, o2, o3, o4⟩ := okb_pc q3
    have qn : ¬ cls (okb s z) (fun b => (mbv pl f g w pr fa wi ch b).toInt) 31 = 0 := by omega
    rw [if_neg (nI_ne0 (by omega) (by omega)), if_neg qn, tg_6 a2, if_pos rfl, e65, zeR_e, tg_P a2 hP, if_pos rfl, if_pos rfl, ech, c_mean1 a2 hP e65 hk a4 (CM_xs hm hP hk ux) o1.1 o1.2 o2 a5, zbI_e]
/-- what the stock of a last is, to both -/
theorem RR_st (h : RR B σ c P S N M K np t n) (hk : k < N) : ∃ s : Nat → Int32, (∀ j, j < 20 → gI σ (P + 6) (20 * k + j) = s j) ∧ ∀ j, j < 20 → gI σ 224 (160 + (20 * k + j)) = s j := by
  have hs : HS σ P N := h.2.2.2.2.2.1.2.2.2.2.2.2.2.2.2
  exact ⟨fun j => gI σ 224 (160 + (20 * k + j)), fun j hj => hs _ (by omega), fun j hj => rfl⟩
theorem ZF_r (hz : ZF σ np zf) : ∀ p, p < np → 30 ≤ zf p ∧ zf p ≤ 49 ∧ gI σ 233 p = nI (zf p) := fun p hp => ⟨(hz p hp).1, (hz p hp).2.1, (hz p hp).2.2.2⟩
theorem op_best (h : RR B σ c P S N M K np t n) (a l e : Int32) : Al B σ c 149 [.ref 6, .int a, .int l, .int e] 263 [.ref 176, .int a, .int l, .int e] := by
  have hS := h.1
  have hP := h.2.1.1
  have hb := HPb hP
  have p20 := (RR_pn h).1
  have n8 := (RR_hn h).1.2.1
  have h65 := h.2.1.2.2.2.1
  obtain ⟨zf, hz⟩ := RR_zf h
  rcases rng_no a (N := np) (by omega) with q | ⟨p, hp, rfl⟩
  · refine Al_rd h (if e = 0 then -1 else -1000000000) ?_ ?_
    · rw [q_X11_best, tg_6 hS, if_pos rfl, RR_cP h, zbI_e, if_neg q, if_pos rfl]
      split <;> rfl
    · rw [q_X12_best, tg_176 hS, if_pos rfl, RR_rP h, zbI_e, if_neg q, if_pos rfl]
      split <;> rfl
  have qp := rng_ok hp (show np < 2 ^ 31 by omega)
  rcases rng_no l (N := N) (by omega) with q | ⟨k, hk, rfl⟩
  · refine Al_rd h (if e = 0 then -1 else -1000000000) ?_ ?_
    · rw [q_X11_best, tg_6 hS, if_pos rfl, RR_cP h, zbI_e, if_pos qp, if_neg (by decide), tg_6 hS, if_pos rfl, RR_cL h, zbI_e, if_neg q, if_pos rfl]
      split <;> rfl
    · rw [q_X12_best, tg_176 hS, if_pos rfl, RR_rP h, zbI_e, if_pos qp, if_neg (by decide), tg_176 hS, if_pos rfl, RR_rL h, zbI_e, if_neg q, if_pos rfl]
      split <;> rfl
  have qk := rng_ok hk (show N < 2 ^ 31 by omega)
  have hp20 : p < 20 := by omega
  have hk8 : k < 8 := by omega
  obtain ⟨z1, z2, z3, z4⟩ := hz p hp
  obtain ⟨so, pl, f, g, w, s1, s4, f1, g1, hc, hr⟩ := RR_wd h hp hk
  obtain ⟨pr, fa, wi, ch, lv, c99, l100, hm, hm2, hc1, hc2, hl1, hl2⟩ := RR_md h hk s1
  obtain ⟨s, t1, t2⟩ := RR_st h hk
  have ap := ai_nI (σ := σ) (t := 69) (u := 69) (.inl (tg_104 hS)) (ln_104 hS) hp20 (by omega)
  have fin : ∀ σ1, Sh σ1 → Un (fun r _ => r = 105 ∨ r = 108) σ σ1 → zM 263 [.ref 176, .int (nI p), .int (nI k), .int e] σ1 = some (some (.int (if e = 0 then nI (cls (okb s (zf p)) (fun b => (mbv pl f g w pr fa wi ch b).toInt) 31) else bmv s (zf p) pl f g w pr fa wi ch)), σ1) ∧ RX B σ1 (c + 1) := fun σ1 e2 e3 => by
    have ux : Un Xs σ σ1 := e3.mono (fun r j _ _ q => by unfold Xs; omega)
    have h' := RR_xs h ux e2
    have hz' := ZF_xs hz p20 ux
    have hc2' : gI σ1 223 5 = nI ch := by rw [e3.i (by omega) (by omega) (by omega) (by omega)]; exact hc2
    have t2' : ∀ j, j < 20 → gI σ1 224 (160 + (20 * k + j)) = s j := fun j hj => by rw [e3.iA (by omega) (by omega) (by rw [tg_224 hS]; omega) (by omega)]; exact t2 j hj
    have hrx := RW_xs hr hp20 hk8 s4 ux
    have hmx := RM_xs hm2 hk8 ux
    have rb := r_best e2 (RR_pn h').2.2 p20 (RR_hn h').1.2.2 n8 (ZF_r hz') hp hk s4 hrx hmx hc2' c99 f1 g1 t2'
    rw [← okb_cr] at rb
    refine ⟨?_, P, S, N, M, K, np, t, n, RR_mono h' (by omega)⟩
    rw [q_X12_best, tg_176 e2, if_pos rfl, RR_rP h', zbI_e, if_pos qp, if_neg (by decide), tg_176 e2, if_pos rfl, RR_rL h', zbI_e, if_pos qk, if_neg (by decide), tg_176 e2, if_pos rfl, rb, zbI_e]
    by_cases q : e = 0
    · rw [if_pos q, if_pos q]
    · rw [if_neg q, if_neg q]
      unfold bmv
      rcases cls_in (ok := okb s (zf p)) (v := fun b => (mbv pl f g w pr fa wi ch b).toInt) 31 with z | ⟨q1, q2, q3⟩
      · rw [z, if_pos (by decide), if_pos rfl]
      · obtain ⟨o1, o2, o3, o4⟩ := okb_pc q3
        have qn : ¬ cls (okb s (zf p)) (fun b => (mbv pl f g w pr fa wi ch b).toInt) 31 = 0 := by omega
        rw [if_neg (nI_ne0 (by omega) (by omega)), if_neg qn, q_X12_best_27, tg_176 e2, if_pos rfl, r_meanOf e2 hp20 hk8 s4 hrx hmx hc2' c99 f1 g1 o1.1 o1.2 o2, zbI_e]
  have cb : zM 149 [.ref 6, .int (nI p), .int (nI k), .int e] σ = if e = 0 then zR 6 149 28 [some (.ref 6), some (.int (nI p)), some (.int (nI k)), some (.int e), some (.ref (116 + 3 * p))] [] σ else zR 6 149 21 [some (.ref 6), some (.int (nI p)), some (.int (nI k)), some (.int e), some (.ref (116 + 3 * p))] [] σ := by
    rw [q_X11_best, tg_6 hS, if_pos rfl, RR_cP h, zbI_e, if_pos qp, if_neg (by decide), tg_6 hS, if_pos rfl, RR_cL h, zbI_e, if_pos qk, if_neg (by decide), tg_6 hS, if_pos rfl, gR_6_9 hS, zeR_e, if_pos ap, ixn (by omega), gR_people hS hp20, zeR_e]
  by_cases q : e = 0
  · obtain ⟨σ1, e1, e2, e3, -⟩ := c_best hS hP h65 hp20 hk8 s4 hc (tg_pfeet hS hp20) (ln_pfeet hS hp20) (by omega) hc.2.2.2.2.1 hm hc1 z3 ⟨z1, z2⟩ t1
    obtain ⟨r1, r2⟩ := fin σ1 e2 e3
    refine ⟨_, σ1, σ1, ?_, e2, r1, r2⟩
    rw [cb, if_pos q, q_X11_best_28, tg_person hS hp20, if_pos rfl, gR_pfeet hS hp20, zeR_e, tg_6 hS, if_pos rfl, e1, zbI_e, if_pos q]
  · obtain ⟨σ1, e1, e2, e3⟩ := c_bmean hS hP h65 hp20 hk8 s4 hc (tg_pfeet hS hp20) (ln_pfeet hS hp20) (by omega) hc.2.2.2.2.1 hm hc1 z3 ⟨z1, z2⟩ t1
    obtain ⟨r1, r2⟩ := fin σ1 e2 e3
    refine ⟨_, σ1, σ1, ?_, e2, r1, r2⟩
    rw [cb, if_neg q, q_X11_best_21, tg_person hS hp20, if_pos rfl, gR_pfeet hS hp20, zeR_e, tg_6 hS, if_pos rfl, e1, zbI_e, if_neg q]
end
