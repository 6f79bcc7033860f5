/-! trial: both answer alike -/
section
variable {σ σ' τ : zS} {zf : Nat → Nat} {B P S N M K np c n p k : Nat} {t : Nat → Nat}
theorem r_trG (hS : Sh σ) (p70 : gI σ 176 70 = nI np) (p20 : np ≤ 20) (n3 : gI σ 214 3 = nI N) (n8 : N ≤ 8) (hp : p < np) (hk : k < N) (w : Int32) : zM 310 [.ref 176, .int (nI p), .int (nI k), .int w] σ = if (0 ≤ w ∧ w ≤ 5) ∧ gI σ 238 p = -1 ∧ ¬ gI σ 241 k = -1 ∧ ¬ gI σ 240 p = -1 then zR 9 310 26 [some (.ref 176), some (.int (nI p)), some (.int (nI k)), some (.int w), none, none, none] [] σ else some (some (.int (-1)), σ) := by
  have qp := rng_ok hp (show np < 2 ^ 31 by omega)
  have qk := rng_ok hk (show N < 2 ^ 31 by omega)
  have a38 := ai_nI (σ := σ) (t := 32) (u := 48) (.inl (tg_238 hS)) (ln_238 hS) (show p < 20 by omega) (by omega)
  have a40 := ai_nI (σ := σ) (t := 32) (u := 48) (.inl (tg_240 hS)) (ln_240 hS) (show p < 20 by omega) (by omega)
  have a41 := ai_nI (σ := σ) (t := 32) (u := 48) (.inl (tg_241 hS)) (ln_241 hS) (show k < 8 by omega) (by omega)
  have xp : ix (nI p) = p := ixn (by omega)
  have xk : ix (nI k) = k := ixn (by omega)
  by_cases q1 : 0 ≤ w ∧ w ≤ 5
  · rw [q_X12_trial, tg_176 hS, if_pos rfl, r_wyG1 hS p70 p20 n3 n8 ⟨q1, qp, qk⟩, zbI_e, if_neg (by decide), tg_176 hS, if_pos rfl, gR_176_77 hS, zeR_e, if_pos a38, xp]
    by_cases q2 : gI σ 238 p = -1
    · rw [if_pos q2, if_pos rfl, gR_176_80 hS, zeR_e, if_pos a41, xk]
      by_cases q3 : gI σ 241 k = -1
      · rw [if_pos q3, if_neg (fun y => y.2.2.1 q3)]
      · rw [if_neg q3, if_pos rfl, gR_176_79 hS, zeR_e, if_pos a40]
        by_cases q4 : gI σ 240 p = -1
        · rw [if_pos q4, if_neg (fun y => y.2.2.2 q4)]
        · rw [if_neg q4, if_pos ⟨q1, q2, q3, q4⟩]
    · rw [if_neg q2, if_neg (fun y => q2 y.2.1)]
  · rw [q_X12_trial, tg_176 hS, if_pos rfl, r_wyG0 hS p70 p20 n3 n8 (fun y => q1 y.1), zbI_e, if_pos rfl, if_neg (fun y => q1 y.1)]
theorem c_trG (h : RR B σ c P S N M K np t n) (hp : p < np) (hk : k < N) (w : Int32) : zM 180 [.ref 6, .int (nI p), .int (nI k), .int w] σ = if ¬ gI σ (116 + 3 * p) 7 = -1 ∧ ¬ gI σ (P + 8 + 2 * k) 3 = -1 then zR 7 180 15 [some (.ref 6), some (.int (nI p)), some (.int (nI k)), some (.int w), none, none] [] σ else some (some (.int (-1)), σ) := by
  have hS := h.1
  have hP := h.2.1.1
  have p20 := (RR_pn h).1
  have n8 := (RR_hn h).1.2.1
  have h65 := h.2.1.2.2.2.1
  have hp20 : p < 20 := by omega
  have hk8 : k < 8 := by omega
  have qp := rng_ok hp (show np < 2 ^ 31 by omega)
  have qk := rng_ok hk (show N < 2 ^ 31 by omega)
  have ap := ai_nI (σ := σ) (t := 69) (u := 69) (.inl (tg_104 hS)) (ln_104 hS) hp20 (by omega)
  have al := ai_nI (σ := σ) (t := 68) (u := 68) (.inl (tg_P1 hS hP)) (ln_P1 hS hP) hk8 (by omega)
  have ht : zM 181 [.ref 6, .int (nI p), .int (nI k)] σ = some (some (.int (if ¬ gI σ (116 + 3 * p) 7 = -1 ∧ ¬ gI σ (P + 8 + 2 * k) 3 = -1 then 1 else 0)), σ) := by
    rw [q_X11_hasTruth, tg_6 hS, if_pos rfl, gR_6_9 hS, zeR_e, if_pos ap, ixn (by omega), gR_people hS hp20, zeR_e, tg_person hS hp20, if_pos rfl]
    by_cases q : gI σ (116 + 3 * p) 7 = -1
    · rw [if_pos q, if_neg (fun y => y.1 q)]
    · rw [if_neg q, if_pos rfl, h65, zeR_e, tg_P hS hP, if_pos rfl, gR_P_0 hS hP, zeR_e, if_pos al, ixn (by omega), gR_Plast hS hP hk8, zeR_e, tg_Plast hS hP hk8, if_pos rfl]
      by_cases q2 : gI σ (P + 8 + 2 * k) 3 = -1
      · rw [if_pos q2, if_neg (fun y => y.2 q2)]
      · rw [if_neg q2, if_pos ⟨q, q2⟩]
  rw [q_X11_trial, tg_6 hS, if_pos rfl, RR_cP h, zbI_e, if_pos qp, if_neg (by decide), tg_6 hS, if_pos rfl, RR_cL h, zbI_e, if_pos qk, if_neg (by decide), tg_6 hS, if_pos rfl, ht, zbI_e]
  by_cases q : ¬ gI σ (116 + 3 * p) 7 = -1 ∧ ¬ gI σ (P + 8 + 2 * k) 3 = -1
  · rw [if_pos q, if_neg (by decide), if_pos q]
  · rw [if_neg q, if_pos rfl, if_neg q]
theorem op_trial (h : RR B σ c P S N M K np t n) (hc512 : c ≤ 600) (a l w : Int32) : Al B σ c 180 [.ref 6, .int a, .int l, .int w] 310 [.ref 176, .int a, .int l, .int w] := by
  have hS := h.1
  have hP := h.2.1.1
  have hbb := HPb hP
  have p20 := (RR_pn h).1
  have n8 := (RR_hn h).1.2.1
  have h65 := h.2.1.2.2.2.1
  obtain ⟨zf, hz⟩ := RR_zf h
  rcases rng_no a (N := np) (by omega) with q | ⟨p, hp, rfl⟩
  · refine Al_rd h (-1) ?_ ?_
    · rw [q_X11_trial, tg_6 hS, if_pos rfl, RR_cP h, zbI_e, if_neg q, if_pos rfl]
    · rw [q_X12_trial, tg_176 hS, if_pos rfl, r_wy0 h (fun y => q y.2.1), zbI_e, if_pos rfl]
  have qp := rng_ok hp (show np < 2 ^ 31 by omega)
  rcases rng_no l (N := N) (by omega) with q | ⟨k, hk, rfl⟩
  · refine Al_rd h (-1) ?_ ?_
    · rw [q_X11_trial, tg_6 hS, if_pos rfl, RR_cP h, zbI_e, if_pos qp, if_neg (by decide), tg_6 hS, if_pos rfl, RR_cL h, zbI_e, if_neg q, if_pos rfl]
    · rw [q_X12_trial, tg_176 hS, if_pos rfl, r_wy0 h (fun y => q y.2.2), zbI_e, if_pos rfl]
  have hp20 : p < 20 := by omega
  have hk8 : k < 8 := by omega
  obtain ⟨z1, z2, z3, z4⟩ := hz p hp
  have pe := h.2.2.2.2.2.2.2.2.1 p hp
  have pt : PT σ p := by
    obtain ⟨so, z, -, -, -, -, -, -, p7, -⟩ := pe
    exact p7
  have hu : HU σ P k := h.2.2.2.2.2.1.2.2.2.2.2.2.2.2.1 k hk
  have pb : (gI σ (116 + 3 * p) 6 = 0 ∧ gI σ 238 p = -1) ∨ (¬ gI σ (116 + 3 * p) 6 = 0 ∧ ¬ gI σ 238 p = -1) := by
    obtain ⟨so, z, -, -, -, -, -, p6, -⟩ := pe
    exact PB_or p6 n8
  have cg := c_trG h hp hk w
  have rg : ∀ τ, Sh τ → Un XCl σ τ → zM 310 [.ref 176, .int (nI p), .int (nI k), .int w] τ = if (0 ≤ w ∧ w ≤ 5) ∧ gI σ 238 p = -1 ∧ ¬ gI σ 241 k = -1 ∧ ¬ gI σ 240 p = -1 then zR 9 310 26 [some (.ref 176), some (.int (nI p)), some (.int (nI k)), some (.int w), none, none, none] [] τ else some (some (.int (-1)), τ) := fun τ hSt u => by
    have r70 : gI τ 176 70 = nI np := by rw [u.i (by omega) (by omega) (by omega) (xc (by omega) (nX_rf (by omega)))]; exact (RR_pn h).2.2
    have r3 : gI τ 214 3 = nI N := by rw [u.i (by omega) (by omega) (by omega) (xc (by omega) (nX_214 (by omega)))]; exact (RR_hn h).1.2.2
    rw [r_trG hSt r70 p20 r3 n8 hp hk w, u.i (show 6 ≤ 238 by omega) (by omega) (by omega) (xc (by omega) (nX_hi (by omega) (by omega))), u.i (show 6 ≤ 241 by omega) (by omega) (by omega) (xc (by omega) (nX_hi (by omega) (by omega))), u.i (show 6 ≤ 240 by omega) (by omega) (by omega) (xc (by omega) (nX_hi (by omega) (by omega)))]
  rcases (Classical.em (¬ gI σ (116 + 3 * p) 7 = -1 ∧ ¬ gI σ (P + 8 + 2 * k) 3 = -1)).symm with qt | qt
  · refine Al_rd h (-1) ?_ ?_
    · rw [cg, if_neg qt]
    · rw [rg σ hS (Un.refl _ _), if_neg (fun y => qt ⟨by rw [pt.1]; exact y.2.2.2, by rw [hu.1]; exact y.2.2.1⟩)]
  rw [if_pos qt] at cg
  have qt1 : ¬ gI σ 240 p = -1 := by rw [← pt.1]; exact qt.1
  have qt2 : ¬ gI σ 241 k = -1 := by rw [← hu.1]; exact qt.2
  rcases ways h hc512 hz hp hk w with ⟨q, e⟩ | ⟨q, b, hb, ⟨x, σ1, e1, e2, e3, ex⟩, hr⟩
  · refine Al_rd h (-1) ?_ ?_
    · rw [cg, q_X11_trial_15, tg_6 hS, if_pos rfl, e, zbI_e, if_pos (by decide)]
    · rw [rg σ hS (Un.refl _ _), if_neg (fun y => q y.1)]
  have h' := RR_xs h e3 e2
  have u1 : Un XCl σ σ1 := e3.mono (fun r j _ _ q => .inr q)
  have ap1 := ai_nI (σ := σ1) (t := 69) (u := 69) (.inl (tg_104 e2)) (ln_104 e2) hp20 (by omega)
  by_cases q0 : b = 0
  · have xn : x ≤ 0 := by
      rcases ex with ex | ⟨-, ex⟩
      · rw [ex, q0]
        decide
      · rw [ex]
        decide
    have cl : zM 180 [.ref 6, .int (nI p), .int (nI k), .int w] σ = some (some (.int (-1)), σ1) := by
      rw [cg, q_X11_trial_15, tg_6 hS, if_pos rfl, e1, zbI_e, if_pos xn]
    have rc := rg σ1 e2 u1
    by_cases qb : gI σ 238 p = -1
    · obtain ⟨σ2, d1, d2, d3⟩ := hr σ1 e2 u1
      rw [if_pos ⟨q, qb, qt2, qt1⟩] at rc
      refine ⟨-1, σ1, σ2, cl, e2, ?_, P, S, N, M, K, np, t, n, RR_mono (RR_xs h' (XPi_xs d3) d2) (by omega)⟩
      rw [rc, q_X12_trial_26, tg_176 e2, if_pos rfl, d1, zbI_e, q0, if_pos (show nI 0 = 0 by decide)]
    · rw [if_neg (fun y => qb y.2.1)] at rc
      exact ⟨-1, σ1, σ1, cl, e2, rc, P, S, N, M, K, np, t, n, RR_mono h' (by omega)⟩
  obtain ⟨b1, b2, b3, b4⟩ := okv_ne hb q0
  have bi := bz_inz b4
  have ex' : x = nI b := by
    rcases ex with ex | ⟨y, -⟩
    · exact ex
    · exact absurd y q0
  have xp : ¬ x ≤ 0 := by
    rw [ex', Int32.le_iff_toInt_le, nI_toInt (by omega)]
    have e0 : (0 : Int32).toInt = 0 := rfl
    omega
  obtain ⟨s, t1, t2⟩ := RR_st h' hk
  have z3' : gI σ1 (116 + 3 * p) 1 = nI (zf p) := by rw [e3.i (by omega) (by omega) (by omega) (nX_pe (by omega) (by omega))]; exact z3
  have z4' : gI σ1 233 p = nI (zf p) := by rw [e3.i (by omega) (by omega) (by omega) (nX_hi (by omega) (by omega))]; exact z4
  have g6 : gI σ1 (116 + 3 * p) 6 = gI σ (116 + 3 * p) 6 := e3.i (by omega) (by omega) (by omega) (nX_pe (by omega) (by omega))
  have cS := c_canSend e2 hP h'.2.1.2.2.2.1 hp20 hk8 z3' ⟨z1, z2⟩ b2 bi t1
  rw [g6] at cS
  have go : zM 180 [.ref 6, .int (nI p), .int (nI k), .int w] σ = if bI (decide (gI σ (116 + 3 * p) 6 = 0) && stq s (zf p) b 5) = 0 then some (some (.int (-1)), σ1) else zbV (zM 158 [.ref 6, .ref (116 + 3 * p), .int (nI k), .int (nI b)] σ1) (fun σ7 => zR 7 180 42 [some (.ref 6), some (.int (nI p)), some (.int (nI k)), some (.int w), some (.int (nI b)), none] [] σ7) := by
    rw [cg, q_X11_trial_15, tg_6 hS, if_pos rfl, e1, zbI_e, if_neg xp, tg_6 e2, if_pos rfl, gR_6_9 e2, zeR_e, if_pos ap1, ixn (by omega), gR_people e2 hp20, zeR_e, if_pos rfl, ex', cS, zbI_e, tg_6 e2, if_pos rfl, gR_6_9 e2, zeR_e, if_pos ap1, gR_people e2 hp20, zeR_e, if_pos rfl]
  rcases pb.symm with ⟨c6, c238⟩ | ⟨c6, c238⟩
  · have rc := rg σ1 e2 u1
    rw [if_neg (fun y => c238 y.2.1)] at rc
    refine ⟨-1, σ1, σ1, ?_, e2, rc, P, S, N, M, K, np, t, n, RR_mono h' (by omega)⟩
    rw [go, decide_eq_false c6, Bool.false_and, if_pos (by decide)]
  rw [decide_eq_true c6, Bool.true_and] at go
  rcases (Classical.em (stq s (zf p) b 5 = true)).symm with qs | qs
  · have qs' : stq s (zf p) b 5 = false := by
      cases hq : stq s (zf p) b 5 with
      | true => exact absurd hq qs
      | false => rfl
    obtain ⟨σ2, d1, d2, d3⟩ := hr σ1 e2 u1
    have rc := rg σ1 e2 u1
    rw [if_pos ⟨q, c238, qt2, qt1⟩] at rc
    have rS := r_stock d2 hp20 hk8 (z := zf p) (by rw [d3.i (by omega) (by omega) (by omega) (by unfold XPi; omega)]; exact z4') ⟨z1, z2⟩ b2 bi (s := s) (fun j hj => by rw [d3.iA (by omega) (by omega) (by rw [tg_224 e2]; omega) (by unfold XPi; omega)]; exact t2 j hj)
    refine ⟨-1, σ1, σ2, ?_, e2, ?_, P, S, N, M, K, np, t, n, RR_mono (RR_xs h' (XPi_xs d3) d2) (by omega)⟩
    · rw [go, qs', if_pos (by decide)]
    · rw [rc, q_X12_trial_26, tg_176 e2, if_pos rfl, d1, zbI_e, if_neg (nI_ne0 (by omega) (by omega)), tg_176 d2, if_pos rfl, rS, zbI_e, qs', if_pos (by decide)]
  rw [qs, if_neg (by decide)] at go
  obtain ⟨so, pl, f, g, wr, s1, s4, f1, g1, hcw, hrw⟩ := RR_wd h' hp hk
  obtain ⟨pr, fa, wi, ch, lv, c99, l100, hm, hm2, hc1, hc2, hl1, hl2⟩ := RR_md h' hk s1
  obtain ⟨day, cm, at', dy, y1, y2, y3, y4, y5⟩ := RR_hd h'
  obtain ⟨hMS1, sd, hsd, hL1, hL2⟩ : MS σ1 := h'.2.2.2.2.2.2.2.2.2.2.1
  have hHS : HS σ1 P N := h'.2.2.2.2.2.1.2.2.2.2.2.2.2.2.2
  obtain ⟨dF, hdF, eF⟩ : ∃ d, d < 5 ∧ gI σ 240 p = nI d := pt.2.resolve_left qt1
  obtain ⟨dR, hdR, eR⟩ : ∃ d, d < 3 ∧ gI σ 241 k = nI d := hu.2.resolve_left qt2
  obtain ⟨o, hO⟩ : ∃ o, o = trO pl wr b sd (dF + 2 - dR) := ⟨_, rfl⟩
  obtain ⟨ho5, hob⟩ := trO_ok (pl := pl) (w := wr) (sd := sd) (y := dF + 2 - dR) b1 b2
  rw [← hO] at ho5 hob
  obtain ⟨σ5, k1, k2, k3, k4, k5, k6, k7, k8, k9, k10, k11, k12, k13, k14, k15⟩ := tr_c (s := s) (o := o) e2 hP h'.2.1.2.2.2.1 hp20 hk8 s4 hcw f1 g1 hm hc1 z3' ⟨z1, z2⟩ b1 b2 b3 bi t1 (show day < 2 ^ 30 by omega) y3 (x := dF) (y := dR) (by rw [e3.i (by omega) (by omega) (by omega) (nX_pe (by omega) (by omega)), pt.1]; exact eF) hdF (by rw [e3.i (by omega) (by omega) (by omega) (nX_lo (by omega) (by omega)), hu.1]; exact eR) hdR hsd hL1 hO w none
  have u5 : Un XCl σ σ5 := u1.trans (k3.mono (fun r j _ _ q => by
    refine .inl ?_
    unfold XTc at q
    omega))
  obtain ⟨σ6, d1, d2, d3⟩ := hr σ5 k2 u5
  have lo5 : ∀ r j, 176 ≤ r → r < 253 → j < 100 → gI σ5 r j = gI σ1 r j := fun r j v1 v2 v3 => k3.i (by omega) v2 v3 (by unfold XTc; omega)
  have lo5A : ∀ r j, 176 ≤ r → r < 253 → 32 ≤ tg σ1 r → gI σ5 r j = gI σ1 r j := fun r j v1 v2 v3 => k3.iA (by omega) v2 v3 (by unfold XTc; omega)
  have lo6 : ∀ r j, ¬ r = 245 → ¬ (r = 176 ∧ j = 88) → 176 ≤ r → r < 253 → j < 100 → gI σ6 r j = gI σ1 r j := fun r j v4 v5 v1 v2 v3 => by
    rw [d3.i (by omega) v2 v3 (by unfold XPi; omega), lo5 r j v1 v2 v3]
  have lo6A : ∀ r j, ¬ r = 245 → 177 ≤ r → r < 253 → 32 ≤ tg σ1 r → 32 ≤ tg σ5 r → gI σ6 r j = gI σ1 r j := fun r j v4 v1 v2 v3 v5 => by
    rw [d3.iA (by omega) v2 v5 (by unfold XPi; omega), lo5A r j (by omega) v2 v3]
  have hr6 : RW σ6 p k so pl f g wr := by
    obtain ⟨m1, m2, m3, m4, m5, m6⟩ := hrw
    refine ⟨fun i hi => ⟨(m1 i hi).1, ?_⟩, ?_, ?_, m4, fun i hi => ⟨(m5 i hi).1, ?_⟩, fun i hi => ⟨(m6 i hi).1, ?_⟩⟩
    · rw [lo6A _ _ (by omega) (by omega) (by omega) (by rw [tg_222 e2]; omega) (by rw [tg_222 k2]; omega)]; exact (m1 i hi).2
    · rw [lo6 _ _ (by omega) (by omega) (by omega) (by omega) (by omega)]; exact m2
    · rw [lo6 _ _ (by omega) (by omega) (by omega) (by omega) (by omega)]; exact m3
    · rw [lo6A _ _ (by omega) (by omega) (by omega) (by rw [tg_234 e2]; omega) (by rw [tg_234 k2]; omega)]; exact (m5 i hi).2
    · rw [lo6A _ _ (by omega) (by omega) (by omega) (by rw [tg_235 e2]; omega) (by rw [tg_235 k2]; omega)]; exact (m6 i hi).2
  have hm6 : RM σ6 k pr fa wi := by
    obtain ⟨m1, m2, m3, m4⟩ := hm2
    refine ⟨?_, ?_, ?_, m4⟩
    · rw [lo6 _ _ (by omega) (by omega) (by omega) (by omega) (by omega)]; exact m1
    · rw [lo6 _ _ (by omega) (by omega) (by omega) (by omega) (by omega)]; exact m2
    · rw [lo6 _ _ (by omega) (by omega) (by omega) (by omega) (by omega)]; exact m3
  have dr6 : HDr σ6 day cm at' dy := by
    obtain ⟨m1, m2, m3⟩ := y4
    refine ⟨?_, ?_, fun i hi => ⟨?_, ?_⟩⟩
    · rw [lo6 _ _ (by omega) (by omega) (by omega) (by omega) (by omega)]; exact m1
    · rw [lo6 _ _ (by omega) (by omega) (by omega) (by omega) (by omega)]; exact m2
    · rw [lo6A _ _ (by omega) (by omega) (by omega) (by rw [tg_243 e2]; omega) (by rw [tg_243 k2]; omega)]; exact (m3 i hi).1
    · rw [lo6A _ _ (by omega) (by omega) (by omega) (by rw [tg_244 e2]; omega) (by rw [tg_244 k2]; omega)]; exact (m3 i hi).2
  have z6 : gI σ6 233 p = nI (zf p) := by rw [lo6 _ _ (by omega) (by omega) (by omega) (by omega) (by omega)]; exact z4'
  have t6 : ∀ j, j < 20 → gI σ6 224 (160 + (20 * k + j)) = s j := fun j hj => by
    rw [lo6A _ _ (by omega) (by omega) (by omega) (by rw [tg_224 e2]; omega) (by rw [tg_224 k2]; omega)]; exact t2 j hj
  obtain ⟨σ7, v1, v2, v3, v4, v5, v6, v7, v8, v9, v10, v11, v12, v13, v14, v15⟩ := tr_r (s := s) (o := o) d2 hp20 hk8 s4 hr6 f1 g1 hm6 (by rw [lo6 _ _ (by omega) (by omega) (by omega) (by omega) (by omega)]; exact hc2) z6 ⟨z1, z2⟩ b1 b2 bi t6 (show day < 2 ^ 30 by omega) (by omega) dr6 (x := dF) (y := dR) (by rw [lo6 _ _ (by omega) (by omega) (by omega) (by omega) (by omega), e3.i (by omega) (by omega) (by omega) (nX_hi (by omega) (by omega))]; exact eF) hdF (by rw [lo6 _ _ (by omega) (by omega) (by omega) (by omega) (by omega), e3.i (by omega) (by omega) (by omega) (nX_hi (by omega) (by omega))]; exact eR) hdR hsd (by rw [d3.l (by omega) (by omega) (by omega) (by unfold XPi; omega), k3.l (by omega) (by omega) (by omega) (by unfold XTc; omega)]; exact hL2) hO w none none
  have rS := r_stock d2 hp20 hk8 z6 ⟨z1, z2⟩ b2 bi t6
  rw [qs] at rS
  have rc := rg σ5 k2 u5
  rw [if_pos ⟨q, c238, qt2, qt1⟩] at rc
  -- what the reference leaves of the class's cells
  have wr2 : Un (fun r j => XPi r j ∨ XTr p k r j) σ5 σ7 := (d3.mono (fun r j _ _ q => .inl q)).trans (v3.mono (fun r j _ _ q => .inr q))
  have nlo : ∀ r j, r < 176 → ¬ (XPi r j ∨ XTr p k r j) := fun r j v q => by
    unfold XPi XTr at q
    omega
  have cf : ∀ r j, 6 ≤ r → r < 176 → j < 100 → gI σ7 r j = gI σ5 r j := fun r j a1 a2 a3 => wr2.i a1 (by omega) a3 (nlo r j a2)
  have cfA : ∀ r j, 6 ≤ r → r < 176 → 32 ≤ tg σ5 r → gI σ7 r j = gI σ5 r j := fun r j a1 a2 a3 => wr2.iA a1 (by omega) a3 (nlo r j a2)
  have wx : Un (XP P p k) σ1 σ7 := (k3.mono (fun r j _ _ q => by
    unfold XTc at q
    unfold XP
    rcases q with q | q | q | q | q | q | q | q | q
    · exact .inl q
    · exact .inr (.inr (.inr (.inr (.inr (.inr (.inl q))))))
    · exact .inr (.inr (.inr (.inr (.inr (.inr (.inr (.inr (.inr (.inr (.inr (.inr (.inr (.inr (.inl q))))))))))))))
    · exact .inr (.inr (.inr (.inr (.inr (.inr (.inr (.inr (.inr (.inr (.inr (.inr (.inr (.inr (.inr (.inr (.inr (.inr (.inr (.inl q)))))))))))))))))))
    · exact .inr (.inr (.inr (.inr (.inr (.inr (.inr (.inr (.inr (.inr (.inr (.inr (.inr (.inr (.inr (.inr (.inr (.inr (.inr (.inr (.inr q))))))))))))))))))))
    · exact .inr (.inr (.inr (.inr (.inr (.inr (.inr (.inr (.inl q))))))))
    · exact .inr (.inr (.inr (.inr (.inr (.inr (.inr (.inr (.inr (.inl q)))))))))
    · exact .inr (.inr (.inr (.inr (.inr (.inr (.inr (.inr (.inr (.inr (.inr (.inr (.inr (.inl q)))))))))))))
    · exact .inr (.inr (.inr (.inr (.inr (.inr (.inr (.inr (.inr (.inr (.inr (.inr (.inr (.inr (.inr (.inl q))))))))))))))))).trans (wr2.mono (fun r j _ _ q => by
    unfold XPi XTr at q
    unfold XP
    rcases q with (q | q) | q | q | q | q | q | q | q | q | q
    · exact .inr (.inr (.inl ⟨by omega, by omega⟩))
    · exact .inr (.inr (.inr (.inl q)))
    · exact .inr (.inr (.inr (.inr (.inr (.inr (.inr (.inl q)))))))
    · exact .inr (.inr (.inl ⟨by omega, by omega⟩))
    · exact .inr (.inr (.inr (.inr (.inr (.inr (.inr (.inr (.inr (.inr (.inr (.inr (.inr (.inr (.inr (.inr (.inr (.inl q)))))))))))))))))
    · exact .inr (.inr (.inr (.inr (.inr (.inr (.inr (.inr (.inr (.inr (.inr (.inr (.inr (.inr (.inr (.inr (.inr (.inr (.inr (.inr (.inl q))))))))))))))))))))
    · exact .inr (.inr (.inr (.inr (.inr (.inr (.inr (.inr (.inr (.inr (.inl ⟨q.1, by omega⟩))))))))))
    · exact .inr (.inr (.inr (.inr (.inr (.inr (.inr (.inr (.inr (.inr (.inr (.inl q)))))))))))
    · exact .inr (.inr (.inr (.inr (.inr (.inr (.inr (.inr (.inr (.inr (.inr (.inr (.inl q))))))))))))
    · exact .inr (.inr (.inr (.inr (.inr (.inr (.inr (.inr (.inr (.inr (.inr (.inr (.inr (.inr (.inr (.inr (.inl q))))))))))))))))
    · exact .inr (.inr (.inr (.inr (.inr (.inr (.inr (.inr (.inr (.inr (.inr (.inr (.inr (.inr (.inr (.inr (.inr (.inr (.inl q))))))))))))))))))))
  have pcb := exC_le (b := bts b o) (cm := cm) 5
  have pc2 := bts_pc b2 ho5 hob
  have hHS7 : HS σ7 P N := fun j hj => by
    rw [cfA _ _ (by omega) (by omega) (by rw [tg_P6 k2 hP]; omega)]
    by_cases qj : 20 * k ≤ j ∧ j < 20 * k + 20
    · have ej : 20 * k + (j - 20 * k) = j := by omega
      have w1 := k4 (j - 20 * k) (by omega)
      have w2 := v4 (j - 20 * k) (by omega)
      rw [ej] at w1 w2
      rw [w1, w2]
    · rw [k5 j qj, v5 j qj, lo6A _ _ (by omega) (by omega) (by omega) (by rw [tg_224 e2]; omega) (by rw [tg_224 k2]; omega)]
      exact hHS j hj
  have hMS7 : MS σ7 := by
    refine ⟨?_, drs sd, drs_lt sd, ?_, v9⟩
    · rw [cf _ _ (by omega) (by omega) (by omega), k8, v8, lo6 _ _ (by omega) (by omega) (by omega) (by omega) (by omega), hMS1]
    · rw [wr2.l (by omega) (by omega) (by omega) (nlo _ _ (by omega))]; exact k9
  have hDc7 : HDc σ7 P day (exC (bts b o) cm 5) (exA k (zf p) (bts b o) cm at' 5) (exD day (bts b o) cm dy 5) := by
    obtain ⟨m1, m2, m3⟩ := k10
    refine ⟨?_, ?_, fun i hi l hl => ?_⟩
    · rw [cf _ _ (by omega) (by omega) (by omega)]; exact m1
    · rw [cf _ _ (by omega) (by omega) (by omega)]; exact m2
    · rw [cfA _ _ (by omega) (by omega) (by rw [tg_P7 k2 hP]; omega)]; exact m3 i hi l hl
  have h7 : RR B σ7 (c + 1) P S N M K np t n := bk_fin (F := lnF pl f g wr b o) (G := lnG pl f g wr b o) (z := zf p) (o := o) h' hp hk wx v2 hHS7 hMS7 ⟨by omega, by omega⟩ hDc7 v10 (ex_bd hk (bts_inz b2 ho5 hob bi) ⟨z1, z2⟩ y5 5 (by omega)) (lnF_sum f1) (fun d hd => ⟨by rw [cf _ _ (by omega) (by omega) (by omega)]; exact k6 d hd, v6 d hd⟩) (lnG_sum g1) (fun r hr => ⟨by rw [cf _ _ (by omega) (by omega) (by omega)]; exact k7 r hr, v7 r hr⟩) z4' ⟨z1, z2⟩ ho5 (fun q => bi o (by omega) (hob.resolve_left q)) (by rw [cf _ _ (by omega) (by omega) (by omega)]; exact k11) (by rw [v11, lo6 _ _ (by omega) (by omega) (by omega) (by omega) (by omega)]) (by rw [cf _ _ (by omega) (by omega) (by omega)]; exact k12) (by rw [v12, lo6 _ _ (by omega) (by omega) (by omega) (by omega) (by omega)]) (by rw [cf _ _ (by omega) (by omega) (by omega)]; exact k13) (by rw [cf _ _ (by omega) (by omega) (by omega)]; exact k14) v13 v14 (fun j hj => by rw [cf _ _ (by omega) (by omega) (by omega)]; exact k15 j hj) (fun j hj => by rw [v15 j hj, lo6A _ _ (by omega) (by omega) (by omega) (by rw [tg_242 e2]; omega) (by rw [tg_242 k2]; omega)])
  refine ⟨nI o, σ5, σ7, ?_, k2, ?_, P, S, N, M, K, np, t, n, h7⟩
  · rw [go]
    exact k1
  · rw [rc, q_X12_trial_26, tg_176 k2, if_pos rfl, d1, zbI_e, if_neg (nI_ne0 (by omega) (by omega)), tg_176 d2, if_pos rfl, rS, zbI_e, if_neg (show ¬ bI true = 0 by decide), tg_176 d2, if_pos rfl]
    exact v1
end
