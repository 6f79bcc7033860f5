/-! box: both answer alike -/
/-- bits of a box that can be sent, or none -/
def okv (z b : Nat) : Prop := b < 32 ∧ (b = 0 ∨ (1 ≤ b ∧ pc b ≤ 3 ∧ bz z b 5 = true))
/-- the class's cells, and what nothing stands in -/
def XCl (r j : Nat) : Prop := r < 176 ∨ Xs r j
section
variable {σ σ' τ : zS} {zf f g : Nat → Nat} {B P S N M K np c n kk p k so z m pr ch b : Nat} {t : Nat → Nat} {w : Int32} {F : Nat → Int}
theorem xc {r j : Nat} (h1 : 176 ≤ r) (hx : ¬ Xs r j) : ¬ XCl r j := fun q => q.elim (fun y => by omega) hx
theorem okv_wz (hb : b < 32) (h3 : pc b ≤ 3) (hz : z < 50) : okv z (wz z b 5) := by
  have w1 := wz_lt z b 5
  obtain ⟨w2, w3⟩ := wz_pc b hb z hz
  refine ⟨by omega, ?_⟩
  rcases Nat.eq_zero_or_pos (wz z b 5) with q | q
  · exact .inl q
  · exact .inr ⟨q, by omega, w3⟩
theorem rch_ok : ∀ SS, wfS SS → rch F SS < 32 ∧ pc (rch F SS) ≤ 3
  | [], _ => by
    show 0 < 32 ∧ pc 0 ≤ 3
    decide
  | x :: SS, hw => by
    have hx := hw x (List.mem_cons_self ..)
    show (if evL F 64 x.1 [] = some [1] then x.2 else rch F SS) < 32 ∧ pc (if evL F 64 x.1 [] = some [1] then x.2 else rch F SS) ≤ 3
    by_cases q : evL F 64 x.1 [] = some [1]
    · rw [if_pos q]
      exact ⟨hx.2.1, hx.2.2.2⟩
    · rw [if_neg q]
      exact rch_ok SS (fun y hy => hw y (List.mem_cons_of_mem _ hy))
theorem RR_pkf (h : RR B σ c P S N M K np t n) (hc : c ≤ 600) (hp : p < np) (hk : k < N) : ∃ so m f g pr ch, (so ≤ 10000 ∧ m ≤ 10000 ∧ f 0 + f 1 ≤ 10000 ∧ f 3 + f 4 ≤ 10000 ∧ g 0 ≤ 10000 ∧ g 2 ≤ 10000 ∧ pr ≤ 10000 ∧ ch ≤ 10000) ∧ CPk σ P p k f g so m pr ch ∧ RPk σ p k f g so m pr ch := by
  obtain ⟨so, pl, f, g, w, s1, s4, f1, g1, hcw, hr⟩ := RR_wd h hp hk
  obtain ⟨pr, fa, wi, ch, lv, c99, l100, hm, hm2, hc1, hc2, hl1, hl2⟩ := RR_md h hk s1
  have p20 := (RR_pn h).1
  obtain ⟨m, m1, m2⟩ := h.2.2.2.2.2.2.2.2.2.2.2.2.2.2 p (by omega)
  obtain ⟨so', z, -, -, -, -, -, -, -, ⟨k1, -⟩⟩ := h.2.2.2.2.2.2.2.2.1 p hp
  have pr9 := hm.2.2.2.2.2
  exact ⟨so, m, f, g, pr, ch, by omega, ⟨hcw.2.1, k1.trans m2, fun d hd => (hcw.2.2.2.2.1 d hd).2, fun r q => (hcw.2.2.2.2.2 r q).2, hm.2.2.1, hc1⟩, ⟨hr.2.1, m2, fun d hd => (hr.2.2.2.2.1 d hd).2, fun r q => (hr.2.2.2.2.2 r q).2, hm2.2.2.1, hc2⟩⟩
theorem RPk_xs (h : RPk σ p k f g so m pr ch) (hS : Sh σ) (hp : p < 20) (hk : k < 8) (u : Un XCl σ σ') : RPk σ' p k f g so m pr ch := by
  obtain ⟨h1, h2, h3, h4, h5, h6⟩ := h
  refine ⟨?_, ?_, fun d hd => ?_, fun r hr => ?_, ?_, ?_⟩
  · rw [u.i (by omega) (by omega) (by omega) (xc (by omega) (nX_hi (by omega) (by omega)))]; exact h1
  · rw [u.i (by omega) (by omega) (by omega) (xc (by omega) (nX_hi (by omega) (by omega)))]; exact h2
  · rw [u.iA (by omega) (by omega) (by rw [tg_234 hS]; omega) (xc (by omega) (nX_hi (by omega) (by omega)))]; exact h3 d hd
  · rw [u.iA (by omega) (by omega) (by rw [tg_235 hS]; omega) (xc (by omega) (nX_hi (by omega) (by omega)))]; exact h4 r hr
  · rw [u.i (by omega) (by omega) (by omega) (xc (by omega) (nX_215 (by omega)))]; exact h5
  · rw [u.i (by omega) (by omega) (by omega) (xc (by omega) (nX_223 (by omega)))]; exact h6
theorem XPi_xs (u : Un XPi σ σ') : Un Xs σ σ' := u.mono (fun r j _ _ q => by unfold XPi at q; unfold Xs; omega)
theorem XSt_xs (u : Un XSt σ σ') : Un Xs σ σ' := u.mono (fun r j _ _ q => by unfold XSt at q; unfold Xs; omega)
theorem X114_xs (u : Un (fun r _ => r = 114) σ σ') : Un Xs σ σ' := u.mono (fun r j _ _ q => by unfold Xs; omega)
theorem RR_rule (h : RR B σ c P S N M K np t n) (hc : c ≤ 600) (hz : ZF σ np zf) (hq : kk < 3) (hp : p < np) (hk : k < N) : (gR σ 13 kk = none ∧ gI σ 227 kk = 0) ∨ ((∃ r, gR σ 13 kk = some r) ∧ gI σ 227 kk = 1 ∧ ∃ b, okv (zf p) b ∧ (∃ σ', zM 152 [.ref 6, .int (nI kk), .int (nI p), .int (nI k)] σ = some (some (.int (nI b)), σ') ∧ Sh σ' ∧ Un Xs σ σ') ∧ ∀ τ, Sh τ → Un XCl σ τ → ∃ τ', zM 271 [.ref 176, .int (nI kk), .int (nI p), .int (nI k)] τ = some (some (.int (nI b)), τ') ∧ Sh τ' ∧ Un XPi τ τ') := by
  have hS := h.1
  have hP := h.2.1.1
  have hb := HPb hP
  have p20 := (RR_pn h).1
  have n8 := (RR_hn h).1.2.1
  have h65 := h.2.1.2.2.2.1
  have hp20 : p < 20 := by omega
  have hk8 : k < 8 := by omega
  have qp := rng_ok hp (show np < 2 ^ 31 by omega)
  have qk := rng_ok hk (show N < 2 ^ 31 by omega)
  rcases h.2.2.2.2.2.2.2.2.2.2.2.1 kk hq with ⟨h1, h2⟩ | ⟨r, SS, h1, h2, h3, h4, h5, h6, h7, h8, h9, h10, h11, h12⟩
  · exact .inl ⟨h1, h2⟩
  obtain ⟨so, m, f, g, pr, ch, bd, hC, hR⟩ := RR_pkf h hc hp hk
  have hF := fcv_ok bd
  obtain ⟨z1, z2, z3, z4⟩ := hz p hp
  obtain ⟨r1, r2⟩ := rch_ok (F := fcv so m (f 0 + f 1) (f 3 + f 4) (g 0) (g 2) pr ch) SS h6
  have hlr : (lr SS).length ≤ (lc SS).length := by
    rw [← flt_lc h6]; exact flt_le _
  refine .inr ⟨⟨r, h1⟩, h9, wz (zf p) (rch (fcv so m (f 0 + f 1) (f 3 + f 4) (g 0) (g 2) pr ch) SS) 5, okv_wz r1 r2 (by omega), ?_, fun τ hSt u => ?_⟩
  · obtain ⟨s1, e1, e2, e3, e4⟩ := c_tell hS hP hp20 hk8 h65 hC
    have hr1 : CRo s1 kk r (lc SS) := by
      refine ⟨?_, ?_, ?_, h8, h2, fun i hi => ?_⟩
      · rw [e3.r (by omega) (by omega) (by omega) (by omega)]; exact h1
      · rw [tg_of1 e3.1]; exact h3
      · rw [ln_of1 e3.1]; exact h4
      · rw [e3.2.2 r i h2 h3]; exact h5 i hi
    obtain ⟨s2, d1, d2, d3⟩ := c_choose e2 hq hF h6 hr1 e4
    have ux : Un Xs σ s2 := (X114_xs e3).trans (XSt_xs d3)
    have gz : gI s2 (116 + 3 * p) 1 = nI (zf p) := by
      rw [ux.i (by omega) (by omega) (by omega) (nX_pe (by omega) (by omega))]; exact z3
    have ap := ai_nI (σ := σ) (t := 69) (u := 69) (.inl (tg_104 hS)) (ln_104 hS) hp20 (by omega)
    have al := ai_nI (σ := σ) (t := 68) (u := 68) (.inl (tg_P1 hS hP)) (ln_P1 hS hP) hk8 (by omega)
    refine ⟨s2, ?_, d2, ux⟩
    rw [q_X11_box, tg_6 hS, if_pos rfl, gR_6_4 hS, zeR_e, tg_12 hS, if_pos rfl, c_thY hS hq h1, zbI_e, if_neg (by decide), tg_6 hS, if_pos rfl, RR_cP h, zbI_e, if_pos qp, if_neg (by decide), tg_6 hS, if_pos rfl, RR_cL h, zbI_e, if_pos qk, if_neg (by decide), tg_6 hS, if_pos rfl, gR_6_9 hS, zeR_e, if_pos ap, ixn (by omega), gR_people hS hp20, zeR_e]
    rw [q_X11_box_20, tg_6 hS, if_pos rfl, h65, zeR_e, tg_P hS hP, if_pos rfl, gR_P_0 hS hP, zeR_e, if_pos al, ixn (by omega), gR_Plast hS hP hk8, zeR_e, if_pos rfl, e1, zbV_e, tg_6 e2, if_pos rfl, gR_6_4 e2, zeR_e, if_pos rfl, gR_6_17 e2, zeR_e, tg_12 e2, if_pos rfl, d1, zbI_e, tg_person d2 hp20, if_pos rfl, c_within d2 hp20 gz ⟨z1, z2⟩ r1, zbI_e]
  · have hRt := RPk_xs hR hS hp20 hk8 u
    obtain ⟨τ', x1, x2, x3⟩ := r_ru (σ0 := τ) (F := fcv so m (f 0 + f 1) (f 3 + f 4) (g 0) (g 2) pr ch) (p := p) (l := k) (k := kk) (z := zf p) (SS0 := SS) hq hp20 hF (fun τ2 s2 u2 c hc => r_ask s2 hp20 hk8 (RPk_un hRt hSt hp20 hk8 u2) c hc) hSt h6 h7 (by omega) (by
      rw [u.i (by omega) (by omega) (by omega) (xc (by omega) (nX_228 hq))]; exact h10) (SR_un h11 hS u (fun r j a b c => xc (by omega) (nX_229 a (by omega)))) (fun i hi => by
      rw [u.iA (by omega) (by omega) (by rw [tg_225 hS]; omega) (xc (by omega) (nX_225 (by omega)))]; exact h12 i hi) (by
      rw [u.i (by omega) (by omega) (by omega) (xc (by omega) (nX_hi (by omega) (by omega)))]; exact z4) ⟨z1, z2⟩ SS [] τ rfl hSt (Un.refl _ _)
    refine ⟨τ', ?_, x2, x3⟩
    rw [q_X12_ruled, nI_mulL 40 kk]
    exact x1
theorem rl_ix (w : Int32) : (¬ (0 ≤ w ∧ w ≤ 2) ∧ (w < 0 ∨ (¬ w < 0 ∧ 3 ≤ w))) ∨ ∃ kk, kk < 3 ∧ w = nI kk := by
  have e0 : (0 : Int32).toInt = 0 := rfl
  have e2 : (2 : Int32).toInt = 2 := by decide
  have e3 : (3 : Int32).toInt = 3 := by decide
  simp only [Int32.le_iff_toInt_le, Int32.lt_iff_toInt_lt, e0, e2, e3]
  rcases pk_ix w (n := 3) (by omega) with q | q | ⟨b, hb, rfl⟩
  · left
    rw [Int32.lt_iff_toInt_lt] at q
    omega
  · left
    rw [Int32.le_iff_toInt_le, nI_toInt (by omega)] at q
    omega
  · exact .inr ⟨b, hb, rfl⟩
theorem r_irO (q : ¬ (0 ≤ w ∧ w ≤ 2)) : zM 272 [.ref 176, .int w] σ = some (some (.int 0), σ) := by
  have r02 := isInL (a := w) (x := 0) (y := 2) (X := 0) (Y := 2) (s := σ) (by decide +kernel) (by decide +kernel)
  rw [q_X12_isRuled, r02, zbI_e, if_neg q, if_pos rfl]
theorem ir_in : ∀ kk, kk < 3 → 0 ≤ nI kk ∧ nI kk ≤ 2 := by decide +kernel
theorem r_irN (hS : Sh σ) (hq : kk < 3) (h : gI σ 227 kk = 0) : zM 272 [.ref 176, .int (nI kk)] σ = some (some (.int 0), σ) := by
  have r02 := isInL (a := nI kk) (x := 0) (y := 2) (X := 0) (Y := 2) (s := σ) (by decide +kernel) (by decide +kernel)
  have ak := ai_nI (σ := σ) (t := 35) (u := 35) (.inl (tg_227 hS)) (ln_227 hS) hq (by omega)
  rw [q_X12_isRuled, r02, zbI_e, if_pos (ir_in kk hq), if_neg (by decide), tg_176 hS, if_pos rfl, gR_176_64 hS, zeR_e, if_pos ak, ixn (by omega), h, if_pos rfl]
theorem r_irY (hS : Sh σ) (hq : kk < 3) (h : gI σ 227 kk = 1) : zM 272 [.ref 176, .int (nI kk)] σ = some (some (.int 1), σ) := by
  have r02 := isInL (a := nI kk) (x := 0) (y := 2) (X := 0) (Y := 2) (s := σ) (by decide +kernel) (by decide +kernel)
  have ak := ai_nI (σ := σ) (t := 35) (u := 35) (.inl (tg_227 hS)) (ln_227 hS) hq (by omega)
  rw [q_X12_isRuled, r02, zbI_e, if_pos (ir_in kk hq), if_neg (by decide), tg_176 hS, if_pos rfl, gR_176_64 hS, zeR_e, if_pos ak, ixn (by omega), h, if_neg (by decide)]
theorem c_boxN (hS : Sh σ) (hq : kk < 3) (h1 : gR σ 13 kk = none) (a l : Int32) : zM 152 [.ref 6, .int (nI kk), .int a, .int l] σ = some (some (.int (-1)), σ) := by
  rw [q_X11_box, tg_6 hS, if_pos rfl, gR_6_4 hS, zeR_e, tg_12 hS, if_pos rfl, c_thN hS hq h1, zbI_e, if_pos rfl]
theorem op_box (h : RR B σ c P S N M K np t n) (hc : c ≤ 600) (w a l : Int32) : Al B σ c 152 [.ref 6, .int w, .int a, .int l] 273 [.ref 176, .int w, .int a, .int l] := by
  have hS := h.1
  have p20 := (RR_pn h).1
  have n8 := (RR_hn h).1.2.1
  obtain ⟨zf, hz⟩ := RR_zf h
  rcases rl_ix w with ⟨q, q'⟩ | ⟨kk, hq, rfl⟩
  · refine Al_rd h (-1) ?_ ?_
    · have e : zM 45 [.ref 12, .int w] σ = some (some (.int 0), σ) := by
        rw [q_X6_isThere]
        rcases q' with q1 | ⟨q1, q2⟩
        · rw [if_pos q1]
        · rw [if_neg q1, if_pos q2]
      rw [q_X11_box, tg_6 hS, if_pos rfl, gR_6_4 hS, zeR_e, tg_12 hS, if_pos rfl, e, zbI_e, if_pos rfl]
    · rw [q_X12_box, tg_176 hS, if_pos rfl, r_irO q, zbI_e, if_pos rfl]
  rcases h.2.2.2.2.2.2.2.2.2.2.2.1 kk hq with ⟨h1, h2⟩ | ⟨r, SS, h1, -, -, -, -, -, -, -, h9, -⟩
  · refine Al_rd h (-1) (c_boxN hS hq h1 a l) ?_
    rw [q_X12_box, tg_176 hS, if_pos rfl, r_irN hS hq h2, zbI_e, if_pos rfl]
  rcases rng_no a (N := np) (by omega) with q | ⟨p, hp, rfl⟩
  · refine Al_rd h (-1) ?_ ?_
    · rw [q_X11_box, tg_6 hS, if_pos rfl, gR_6_4 hS, zeR_e, tg_12 hS, if_pos rfl, c_thY hS hq h1, zbI_e, if_neg (by decide), tg_6 hS, if_pos rfl, RR_cP h, zbI_e, if_neg q, if_pos rfl]
    · rw [q_X12_box, tg_176 hS, if_pos rfl, r_irY hS hq h9, zbI_e, if_neg (by decide), tg_176 hS, if_pos rfl, RR_rP h, zbI_e, if_neg q, if_pos rfl]
  have qp := rng_ok hp (show np < 2 ^ 31 by omega)
  rcases rng_no l (N := N) (by omega) with q | ⟨k, hk, rfl⟩
  · refine Al_rd h (-1) ?_ ?_
    · rw [q_X11_box, tg_6 hS, if_pos rfl, gR_6_4 hS, zeR_e, tg_12 hS, if_pos rfl, c_thY hS hq h1, zbI_e, if_neg (by decide), tg_6 hS, if_pos rfl, RR_cP h, zbI_e, if_pos qp, if_neg (by decide), tg_6 hS, if_pos rfl, RR_cL h, zbI_e, if_neg q, if_pos rfl]
    · rw [q_X12_box, tg_176 hS, if_pos rfl, r_irY hS hq h9, zbI_e, if_neg (by decide), tg_176 hS, if_pos rfl, RR_rP h, zbI_e, if_pos qp, if_neg (by decide), tg_176 hS, if_pos rfl, RR_rL h, zbI_e, if_neg q, if_pos rfl]
  have qk := rng_ok hk (show N < 2 ^ 31 by omega)
  rcases RR_rule h hc hz hq hp hk with ⟨h1', -⟩ | ⟨-, -, b, hb, ⟨σ1, e1, e2, e3⟩, hr⟩
  · rw [h1] at h1'
    cases h1'
  have h' := RR_xs h e3 e2
  obtain ⟨σ2, d1, d2, d3⟩ := hr σ1 e2 (e3.mono (fun r j _ _ q => .inr q))
  refine ⟨nI b, σ1, σ2, e1, e2, ?_, P, S, N, M, K, np, t, n, RR_mono (RR_xs h' (XPi_xs d3) d2) (by omega)⟩
  have h9' : gI σ1 227 kk = 1 := by
    rw [e3.i (by omega) (by omega) (by omega) (nX_im (by omega))]; exact h9
  rw [q_X12_box, tg_176 e2, if_pos rfl, r_irY e2 hq h9', zbI_e, if_neg (by decide), tg_176 e2, if_pos rfl, RR_rP h', zbI_e, if_pos qp, if_neg (by decide), tg_176 e2, if_pos rfl, RR_rL h', zbI_e, if_pos qk, if_neg (by decide), q_X12_box_12, tg_176 e2, if_pos rfl, d1, zbI_e]
end
