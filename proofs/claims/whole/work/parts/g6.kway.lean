/-! ways: both alike -/
section
variable {σ σ' τ : zS} {zf f g : Nat → Nat} {B P S N M K np c n kk p k so z m pr ch b : Nat} {t : Nat → Nat} {w : Int32}
theorem wz_4 : ∀ z, z < 50 → 30 ≤ z → wz z 4 5 = 4 := by decide +kernel
theorem okv_ne (h : okv z b) (q : ¬ b = 0) : 1 ≤ b ∧ b < 32 ∧ pc b ≤ 3 ∧ bz z b 5 = true := by
  obtain ⟨h1, h2⟩ := h
  rcases h2 with h2 | ⟨h2, h3, h4⟩
  · exact absurd h2 q
  · exact ⟨h2, h1, h3, h4⟩
theorem wy_in : ∀ kk, kk < 6 → 0 ≤ nI kk ∧ nI kk ≤ 5 := by decide +kernel
theorem RW_xc {pl : Nat → Nat} {w : Nat} (h : RW σ p k so pl f g w) (hS : Sh σ) (hp : p < 20) (hk : k < 8) (hso : so < 4) (u : Un XCl σ τ) : RW τ p k so pl f g w := by
  obtain ⟨y1, y2, y3, y4, y5, y6⟩ := h
  refine ⟨fun d hd => ⟨(y1 d hd).1, ?_⟩, ?_, ?_, y4, fun d hd => ⟨(y5 d hd).1, ?_⟩, fun r hr => ⟨(y6 r hr).1, ?_⟩⟩
  · rw [u.i (by omega) (by omega) (by omega) (xc (by omega) (nX_222 (by omega)))]; exact (y1 d hd).2
  · rw [u.i (by omega) (by omega) (by omega) (xc (by omega) (nX_hi (by omega) (by omega)))]; exact y2
  · rw [u.i (by omega) (by omega) (by omega) (xc (by omega) (nX_218 (by omega) (by omega)))]; exact y3
  · rw [u.iA (by omega) (by omega) (by rw [tg_234 hS]; omega) (xc (by omega) (nX_hi (by omega) (by omega)))]; exact (y5 d hd).2
  · rw [u.iA (by omega) (by omega) (by rw [tg_235 hS]; omega) (xc (by omega) (nX_hi (by omega) (by omega)))]; exact (y6 r hr).2
theorem RM_xc {fa wi : Nat} (h : RM σ k pr fa wi) (hk : k < 8) (u : Un XCl σ τ) : RM τ k pr fa wi := by
  obtain ⟨y1, y2, y3, y4⟩ := h
  refine ⟨?_, ?_, ?_, y4⟩
  · rw [u.i (by omega) (by omega) (by omega) (xc (by omega) (nX_223 (by omega)))]; exact y1
  · rw [u.i (by omega) (by omega) (by omega) (xc (by omega) (nX_223 (by omega)))]; exact y2
  · rw [u.i (by omega) (by omega) (by omega) (xc (by omega) (nX_215 (by omega)))]; exact y3
theorem ways (h : RR B σ c P S N M K np t n) (hc : c ≤ 600) (hz : ZF σ np zf) (hp : p < np) (hk : k < N) (w : Int32) : (¬ (0 ≤ w ∧ w ≤ 5) ∧ zM 155 [.ref 6, .int w, .int (nI p), .int (nI k)] σ = some (some (.int (-1)), σ)) ∨ ((0 ≤ w ∧ w ≤ 5) ∧ ∃ b, okv (zf p) b ∧ (∃ x σ1, zM 155 [.ref 6, .int w, .int (nI p), .int (nI k)] σ = some (some (.int x), σ1) ∧ Sh σ1 ∧ Un Xs σ σ1 ∧ (x = nI b ∨ (b = 0 ∧ x = -1))) ∧ ∀ τ, Sh τ → Un XCl σ τ → ∃ τ', zM 274 [.ref 176, .int w, .int (nI p), .int (nI k)] τ = some (some (.int (nI b)), τ') ∧ Sh τ' ∧ Un XPi τ τ') := by
  have hS := h.1
  have hP := h.2.1.1
  have hbb := HPb hP
  have p20 := (RR_pn h).1
  have n8 := (RR_hn h).1.2.1
  have h65 := h.2.1.2.2.2.1
  have hp20 : p < 20 := by omega
  have hk8 : k < 8 := by omega
  have e0 : (0 : Int32).toInt = 0 := rfl
  have e5 : (5 : Int32).toInt = 5 := by decide
  have ap := ai_nI (σ := σ) (t := 69) (u := 69) (.inl (tg_104 hS)) (ln_104 hS) hp20 (by omega)
  obtain ⟨z1, z2, z3, z4⟩ := hz p hp
  have cw : ∀ b, b < 32 → zM 36 [.ref (116 + 3 * p), .int (nI b)] σ = some (some (.int (nI (wz (zf p) b 5))), σ) := fun b hb => c_within hS hp20 z3 ⟨z1, z2⟩ hb
  rcases pk_ix w (n := 6) (by omega) with q | q | ⟨kk, hq, rfl⟩
  · refine .inl ⟨fun y => ?_, ?_⟩
    · have y1 := Int32.le_iff_toInt_le.mp y.1
      rw [Int32.lt_iff_toInt_lt] at q
      omega
    · rw [q_X11_bitsOfWay, if_pos q]
  · have q1 : ¬ w < 0 := fun y => by
      rw [Int32.lt_iff_toInt_lt] at y
      rw [Int32.le_iff_toInt_le, nI_toInt (by omega)] at q
      omega
    have q2 : ¬ w ≤ 5 := fun y => by
      rw [Int32.le_iff_toInt_le] at y
      rw [Int32.le_iff_toInt_le, nI_toInt (by omega)] at q
      omega
    refine .inl ⟨fun y => q2 y.2, ?_⟩
    rw [q_X11_bitsOfWay, if_neg q1, if_neg q2]
  refine .inr ⟨wy_in kk hq, ?_⟩
  have fc : ∀ kk, kk < 6 → ¬ nI kk < 0 := by decide +kernel
  have fc2 : ∀ kk, kk < 3 → nI kk < 3 := by decide +kernel
  rcases (show kk = 0 ∨ kk = 1 ∨ kk = 2 ∨ 3 ≤ kk by omega) with rfl | rfl | rfl | q3
  · have c4 := cw 4 (by omega)
    rw [wz_4 (zf p) (by omega) z1] at c4
    refine ⟨4, ⟨by omega, .inr ⟨by omega, by decide, ?_⟩⟩, ⟨nI 4, σ, ?_, hS, Un.refl _ _, .inl rfl⟩, fun τ hSt u => ⟨τ, ?_, hSt, Un.refl _ _⟩⟩
    · have := wz_bz 4 (by omega) (zf p) (by omega)
      rw [wz_4 (zf p) (by omega) z1] at this
      rw [← this]
      decide
    · rw [q_X11_bitsOfWay, if_neg (fc 0 (by omega)), if_pos (wy_in 0 (by omega)).2, if_pos (fc2 0 (by omega)), tg_6 hS, if_pos rfl, gR_6_9 hS, zeR_e, if_pos ap, ixn (by omega), gR_people hS hp20, zeR_e, if_neg (show ¬ nI 0 = (2 : Int32) by decide +kernel), if_pos (show nI 0 = (0 : Int32) by decide +kernel), tg_person hS hp20, if_pos rfl, show (4 : Int32) = nI 4 by decide +kernel, c4, zbI_e]
    · rw [q_X12_wayBox, if_pos (show nI 0 = (0 : Int32) by decide +kernel), show (4 : Int32) = nI 4 by decide +kernel]
  · have c12 := cw 12 (by omega)
    refine ⟨wz (zf p) 12 5, okv_wz (by omega) (by decide) (by omega), ⟨nI (wz (zf p) 12 5), σ, ?_, hS, Un.refl _ _, .inl rfl⟩, fun τ hSt u => ⟨τ, ?_, hSt, Un.refl _ _⟩⟩
    · rw [q_X11_bitsOfWay, if_neg (fc 1 (by omega)), if_pos (wy_in 1 (by omega)).2, if_pos (fc2 1 (by omega)), tg_6 hS, if_pos rfl, gR_6_9 hS, zeR_e, if_pos ap, ixn (by omega), gR_people hS hp20, zeR_e, if_neg (show ¬ nI 1 = (2 : Int32) by decide +kernel), if_neg (show ¬ nI 1 = (0 : Int32) by decide +kernel), tg_person hS hp20, if_pos rfl, show (12 : Int32) = nI 12 by decide +kernel, c12, zbI_e]
    · have rc := r_cut hSt hp20 (z := zf p) (b := 12) (by rw [u.i (by omega) (by omega) (by omega) (xc (by omega) (nX_hi (by omega) (by omega)))]; exact z4) ⟨z1, z2⟩ (by omega)
      rw [q_X12_wayBox, if_neg (show ¬ nI 1 = (0 : Int32) by decide +kernel), if_pos (show nI 1 = (1 : Int32) by decide +kernel), tg_176 hSt, if_pos rfl, show (12 : Int32) = nI 12 by decide +kernel, rc, zbI_e]
  · obtain ⟨so, pl, f, g, w, s1, s4, f1, g1, hcw, hr⟩ := RR_wd h hp hk
    obtain ⟨pr, fa, wi, ch, lv, c99, l100, hm, hm2, hc1, hc2, hl1, hl2⟩ := RR_md h hk s1
    obtain ⟨s, t1, t2⟩ := RR_st h hk
    obtain ⟨σ1, e1, e2, e3, -⟩ := c_best hS hP h65 hp20 hk8 s4 hcw (tg_pfeet hS hp20) (ln_pfeet hS hp20) (by omega) hcw.2.2.2.2.1 hm hc1 z3 ⟨z1, z2⟩ t1
    refine ⟨cls (okb s (zf p)) (fun b => (mbv pl f g w pr fa wi ch b).toInt) 31, ?_, ⟨_, σ1, ?_, e2, e3.mono (fun r j _ _ q => by unfold Xs; omega), .inl rfl⟩, fun τ hSt u => ⟨τ, ?_, hSt, Un.refl _ _⟩⟩
    · rcases cls_in (ok := okb s (zf p)) (v := fun b => (mbv pl f g w pr fa wi ch b).toInt) 31 with y | ⟨y1, y2, y3⟩
      · exact ⟨by omega, .inl y⟩
      · obtain ⟨o1, o2, o3, o4⟩ := okb_pc y3
        exact ⟨o1.2, .inr ⟨o1.1, o2, o3⟩⟩
    · rw [q_X11_bitsOfWay, if_neg (fc 2 (by omega)), if_pos (wy_in 2 (by omega)).2, if_pos (fc2 2 (by omega)), tg_6 hS, if_pos rfl, gR_6_9 hS, zeR_e, if_pos ap, ixn (by omega), gR_people hS hp20, zeR_e, if_pos (show nI 2 = (2 : Int32) by decide +kernel), tg_person hS hp20, if_pos rfl, gR_pfeet hS hp20, zeR_e, if_pos rfl, e1, zbI_e]
    · have r70 : gI τ 176 70 = nI np := by rw [u.i (by omega) (by omega) (by omega) (xc (by omega) (nX_rf (by omega)))]; exact (RR_pn h).2.2
      have r3 : gI τ 214 3 = nI N := by rw [u.i (by omega) (by omega) (by omega) (xc (by omega) (nX_214 (by omega)))]; exact (RR_hn h).1.2.2
      have rz : ∀ p, p < np → 30 ≤ zf p ∧ zf p ≤ 49 ∧ gI τ 233 p = nI (zf p) := fun p hp => ⟨(hz p hp).1, (hz p hp).2.1, by rw [u.i (by omega) (by omega) (by omega) (xc (by omega) (nX_hi (by omega) (by omega)))]; exact (hz p hp).2.2.2⟩
      have rch : gI τ 223 5 = nI ch := by rw [u.i (by omega) (by omega) (by omega) (xc (by omega) (nX_223 (by omega)))]; exact hc2
      have rst : ∀ j, j < 20 → gI τ 224 (160 + (20 * k + j)) = s j := fun j hj => by rw [u.iA (by omega) (by omega) (by rw [tg_224 hS]; omega) (xc (by omega) (nX_224 (by omega)))]; exact t2 j hj
      have rb := r_best hSt r70 p20 r3 n8 rz hp hk s4 (RW_xc hr hS hp20 hk8 s4 u) (RM_xc hm2 hk8 u) rch c99 f1 g1 rst
      rw [← okb_cr] at rb
      rw [q_X12_wayBox, if_neg (show ¬ nI 2 = (0 : Int32) by decide +kernel), if_neg (show ¬ nI 2 = (1 : Int32) by decide +kernel), if_pos (show nI 2 = (2 : Int32) by decide +kernel), tg_176 hSt, if_pos rfl, rb, zbI_e]
  · obtain ⟨j, rfl⟩ : ∃ j, kk = j + 3 := ⟨kk - 3, by omega⟩
    have j3 : j < 3 := by omega
    have es : nI (j + 3) - 3 = nI j := by rw [nI_subR (n := 3) (by omega), Nat.add_sub_cancel]
    have fd : ∀ j, j < 3 → ¬ nI (j + 3) < 3 ∧ ¬ nI (j + 3) = 0 ∧ ¬ nI (j + 3) = 1 ∧ ¬ nI (j + 3) = 2 := by decide +kernel
    obtain ⟨d1, d2, d3, d4⟩ := fd j j3
    rcases RR_rule h hc hz j3 hp hk with ⟨h1, h2⟩ | ⟨⟨r, h1⟩, h9, b, hb, ⟨σ1, e1, e2, e3⟩, hr⟩
    · refine ⟨0, ⟨by omega, .inl rfl⟩, ⟨-1, σ, ?_, hS, Un.refl _ _, .inr ⟨rfl, rfl⟩⟩, fun τ hSt u => ⟨τ, ?_, hSt, Un.refl _ _⟩⟩
      · rw [q_X11_bitsOfWay, if_neg (fc _ hq), if_pos (wy_in _ hq).2, if_neg d1, tg_6 hS, if_pos rfl, es, c_boxN hS j3 h1, zbI_e]
      · rw [q_X12_wayBox, if_neg d2, if_neg d3, if_neg d4, tg_176 hSt, if_pos rfl, es, r_irN hSt j3 (by rw [u.i (by omega) (by omega) (by omega) (xc (by omega) (nX_im (by omega)))]; exact h2), zbI_e, if_pos rfl]
        rfl
    · refine ⟨b, hb, ⟨nI b, σ1, ?_, e2, e3, .inl rfl⟩, fun τ hSt u => ?_⟩
      · rw [q_X11_bitsOfWay, if_neg (fc _ hq), if_pos (wy_in _ hq).2, if_neg d1, tg_6 hS, if_pos rfl, es, e1, zbI_e]
      · obtain ⟨τ', x1, x2, x3⟩ := hr τ hSt u
        refine ⟨τ', ?_, x2, x3⟩
        rw [q_X12_wayBox, if_neg d2, if_neg d3, if_neg d4, tg_176 hSt, if_pos rfl, es, r_irY hSt j3 (by rw [u.i (by omega) (by omega) (by omega) (xc (by omega) (nX_im (by omega)))]; exact h9), zbI_e, if_neg (by decide), tg_176 hSt, if_pos rfl, x1, zbI_e]
/-- the ordered mean of a box -/
theorem mean_b (h : RR B σ c P S N M K np t n) (hz : ZF σ np zf) (hp : p < np) (hk : k < N) (hb : okv (zf p) b) (q0 : ¬ b = 0) : ∃ v σ1, zM 144 [.ref 6, .int (nI p), .int (nI k), .int (nI b), .int 1] σ = some (some (.int v), σ1) ∧ Sh σ1 ∧ Un Xs σ σ1 ∧ ∀ τ, Sh τ → Un Xs σ τ → ∃ x, zM 257 [.ref 176, .int (nI p), .int (nI k), .int (nI b)] τ = some (some (.int x), τ) ∧ zM 258 [.ref 176, .int (nI p), .int x] τ = some (some (.int v), τ) := by
  have hS := h.1
  have hP := h.2.1.1
  have hbb := HPb hP
  have p20 := (RR_pn h).1
  have n8 := (RR_hn h).1.2.1
  have h65 := h.2.1.2.2.2.1
  obtain ⟨b1, b2, b3, b4⟩ := okv_ne hb q0
  have hq' : BX np N zf (nI p) (nI k) (nI b) := ⟨p, k, b, hp, hk, b1, b2, b3, b4, rfl, rfl, rfl⟩
  have hp20 : p < 20 := by omega
  have hk8 : k < 8 := by omega
  obtain ⟨so, pl, f, g, w, s1, s4, f1, g1, hc, hr⟩ := RR_wd h hp hk
  obtain ⟨pr, fa, wi, ch, lv, c99, l100, hm, hm2, hc1, hc2, hl1, hl2⟩ := RR_md h hk s1
  obtain ⟨σ1, e1, e2, e3⟩ := c_plain hS hP h65 hp20 hk8 s4 hc hm hc1 b1 b2 b3
  have ux : Un Xs σ σ1 := e3.mono (fun r j _ _ q => by unfold Xs; omega)
  have h' := RR_xs h ux e2
  have e65 : gR σ1 6 5 = some P := h'.2.1.2.2.2.1
  have hc1' : gI σ1 P 10 = nI ch := by rw [e3.i (by omega) (by omega) (by omega) (by omega)]; exact hc1
  have hl1' : gI σ1 (P + 24 + 2 * so) 4 = nI lv := by rw [e3.i (by omega) (by omega) (by omega) (by omega)]; exact hl1
  have hcx := CW_xs hc hP hp20 hk8 s4 ux
  refine ⟨odv (nI lv) (nI ch) (mbv pl f g w pr fa wi ch b), σ1, ?_, e2, ux, fun τ hSt u => ⟨mbv pl f g w pr fa wi ch b, ?_, ?_⟩⟩
  · rw [q_X11_mean, tg_6 hS, if_pos rfl, (c_isBox h hz _ _ _).1 hq', zbI_e, if_neg (by decide), tg_6 hS, if_pos rfl, e1, zbI_e, if_neg (show ¬ (1 : Int32) = 0 by decide)]
    rw [q_X11_mean_16, tg_6 e2, if_pos rfl, gR_6_9 e2, zeR_e, if_pos (ai_nI (.inl (tg_104 e2)) (ln_104 e2) hp20 (by omega)), ixn (by omega), gR_people e2 hp20, zeR_e, if_pos rfl, e65, zeR_e, tg_P e2 hP, if_pos rfl, if_pos rfl, hc1', c_ord e2 hP e65 hp20 s4 hcx.2.1 hl1', zbI_e]
  · have hc2' : gI τ 223 5 = nI ch := by rw [u.i (by omega) (by omega) (by omega) (nX_223 (by omega))]; exact hc2
    exact r_meanOf hSt hp20 hk8 s4 (RW_xs hr hp20 hk8 s4 u) (RM_xs hm2 hk8 u) hc2' c99 f1 g1 b1 b2 b3
  · have hc2' : gI τ 223 5 = nI ch := by rw [u.i (by omega) (by omega) (by omega) (nX_223 (by omega))]; exact hc2
    have hl2' : gI τ 220 (4 + so) = nI lv := by rw [u.i (by omega) (by omega) (by omega) (nX_218 (by omega) (by omega))]; exact hl2
    exact r_ord hSt hp20 s4 (RW_xs hr hp20 hk8 s4 u).2.1 hl2' hc2' _
theorem r_isWayG (hS : Sh σ) (p70 : gI σ 176 70 = nI np) (p20 : np ≤ 20) (n3 : gI σ 214 3 = nI N) (n8 : N ≤ 8) (w a l : Int32) : zM 275 [.ref 176, .int w, .int a, .int l] σ = some (some (.int (if (0 ≤ w ∧ w ≤ 5) ∧ (0 ≤ a ∧ a < nI np) ∧ (0 ≤ l ∧ l < nI N) then 1 else 0)), σ) := by
  have r05 := isInL (a := w) (x := 0) (y := 5) (X := 0) (Y := 5) (s := σ) (by decide +kernel) (by decide +kernel)
  rw [q_X12_isWay, r05, zbI_e]
  by_cases q1 : 0 ≤ w ∧ w ≤ 5
  · rw [if_pos q1, if_neg (by decide), tg_176 hS, if_pos rfl, r_isPerson hS p70 (by omega), zbI_e]
    by_cases q2 : 0 ≤ a ∧ a < nI np
    · rw [if_pos q2, if_neg (by decide), tg_176 hS, if_pos rfl, r_isLast hS n3 (by omega), zbI_e]
      by_cases q3 : 0 ≤ l ∧ l < nI N
      · rw [if_pos q3, if_neg (by decide), if_pos ⟨q1, q2, q3⟩]
      · rw [if_neg q3, if_pos rfl, if_neg (fun y => q3 y.2.2)]
    · rw [if_neg q2, if_pos rfl, if_neg (fun y => q2 y.2.1)]
  · rw [if_neg q1, if_pos rfl, if_neg (fun y => q1 y.1)]
theorem r_wyG1 (hS : Sh σ) (p70 : gI σ 176 70 = nI np) (p20 : np ≤ 20) (n3 : gI σ 214 3 = nI N) (n8 : N ≤ 8) {w a l : Int32} (q : (0 ≤ w ∧ w ≤ 5) ∧ (0 ≤ a ∧ a < nI np) ∧ (0 ≤ l ∧ l < nI N)) : zM 275 [.ref 176, .int w, .int a, .int l] σ = some (some (.int 1), σ) := by rw [r_isWayG hS p70 p20 n3 n8, if_pos q]
theorem r_wyG0 (hS : Sh σ) (p70 : gI σ 176 70 = nI np) (p20 : np ≤ 20) (n3 : gI σ 214 3 = nI N) (n8 : N ≤ 8) {w a l : Int32} (q : ¬ ((0 ≤ w ∧ w ≤ 5) ∧ (0 ≤ a ∧ a < nI np) ∧ (0 ≤ l ∧ l < nI N))) : zM 275 [.ref 176, .int w, .int a, .int l] σ = some (some (.int 0), σ) := by rw [r_isWayG hS p70 p20 n3 n8, if_neg q]
theorem r_wy1 (h : RR B σ c P S N M K np t n) {w a l : Int32} (q : (0 ≤ w ∧ w ≤ 5) ∧ (0 ≤ a ∧ a < nI np) ∧ (0 ≤ l ∧ l < nI N)) : zM 275 [.ref 176, .int w, .int a, .int l] σ = some (some (.int 1), σ) := r_wyG1 h.1 (RR_pn h).2.2 (RR_pn h).1 (RR_hn h).1.2.2 (RR_hn h).1.2.1 q
theorem r_wy0 (h : RR B σ c P S N M K np t n) {w a l : Int32} (q : ¬ ((0 ≤ w ∧ w ≤ 5) ∧ (0 ≤ a ∧ a < nI np) ∧ (0 ≤ l ∧ l < nI N))) : zM 275 [.ref 176, .int w, .int a, .int l] σ = some (some (.int 0), σ) := r_wyG0 h.1 (RR_pn h).2.2 (RR_pn h).1 (RR_hn h).1.2.2 (RR_hn h).1.2.1 q
theorem op_way (h : RR B σ c P S N M K np t n) (hc : c ≤ 600) (w a l : Int32) : Al B σ c 154 [.ref 6, .int w, .int a, .int l] 276 [.ref 176, .int w, .int a, .int l] := by
  have hS := h.1
  have p20 := (RR_pn h).1
  have n8 := (RR_hn h).1.2.1
  obtain ⟨zf, hz⟩ := RR_zf h
  rcases rng_no a (N := np) (by omega) with q | ⟨p, hp, rfl⟩
  · refine Al_rd h (-1000000000) ?_ ?_
    · rw [q_X11_way, tg_6 hS, if_pos rfl, RR_cP h, zbI_e, if_neg q, if_pos rfl]
    · rw [q_X12_way, tg_176 hS, if_pos rfl, r_wy0 h (fun y => q y.2.1), zbI_e, if_pos rfl]
  have qp := rng_ok hp (show np < 2 ^ 31 by omega)
  rcases rng_no l (N := N) (by omega) with q | ⟨k, hk, rfl⟩
  · refine Al_rd h (-1000000000) ?_ ?_
    · rw [q_X11_way, tg_6 hS, if_pos rfl, RR_cP h, zbI_e, if_pos qp, if_neg (by decide), tg_6 hS, if_pos rfl, RR_cL h, zbI_e, if_neg q, if_pos rfl]
    · rw [q_X12_way, tg_176 hS, if_pos rfl, r_wy0 h (fun y => q y.2.2), zbI_e, if_pos rfl]
  have qk := rng_ok hk (show N < 2 ^ 31 by omega)
  have go : zM 154 [.ref 6, .int w, .int (nI p), .int (nI k)] σ = zbI (zM 155 [.ref 6, .int w, .int (nI p), .int (nI k)] σ) (fun x3 σ3 => if x3 ≤ 0 then (some (some (.int (-1000000000)), σ3)) else (zR 7 154 18 [some (.ref 6), some (.int w), some (.int (nI p)), some (.int (nI k)), some (.int x3)] [] σ3)) := by
    rw [q_X11_way, tg_6 hS, if_pos rfl, RR_cP h, zbI_e, if_pos qp, if_neg (by decide), tg_6 hS, if_pos rfl, RR_cL h, zbI_e, if_pos qk, if_neg (by decide), tg_6 hS, if_pos rfl]
  rcases ways h hc hz hp hk w with ⟨q, e⟩ | ⟨q, b, hb, ⟨x, σ1, e1, e2, e3, ex⟩, hr⟩
  · refine Al_rd h (-1000000000) ?_ ?_
    · rw [go, e, zbI_e, if_pos (by decide)]
    · rw [q_X12_way, tg_176 hS, if_pos rfl, r_wy0 h (fun y => q y.1), zbI_e, if_pos rfl]
  have h' := RR_xs h e3 e2
  by_cases q0 : b = 0
  · obtain ⟨σ2, d1, d2, d3⟩ := hr σ1 e2 (e3.mono (fun r j _ _ q => .inr q))
    have xn : x ≤ 0 := by
      rcases ex with ex | ⟨-, ex⟩
      · rw [ex, q0]
        decide
      · rw [ex]
        decide
    refine ⟨-1000000000, σ1, σ2, ?_, e2, ?_, P, S, N, M, K, np, t, n, RR_mono (RR_xs h' (XPi_xs d3) d2) (by omega)⟩
    · rw [go, e1, zbI_e, if_pos xn]
    · rw [q_X12_way, tg_176 e2, if_pos rfl, r_wy1 h' ⟨q, qp, qk⟩, zbI_e, if_neg (by decide), tg_176 e2, if_pos rfl, d1, zbI_e, q0, if_pos (show nI 0 = 0 by decide)]
  obtain ⟨b1, b2, b3, b4⟩ := okv_ne hb q0
  have ex' : x = nI b := by
    rcases ex with ex | ⟨y, -⟩
    · exact ex
    · exact absurd y q0
  have xp : ¬ x ≤ 0 := by
    rw [ex', Int32.le_iff_toInt_le, nI_toInt (by omega)]
    have e0 : (0 : Int32).toInt = 0 := rfl
    omega
  obtain ⟨v, σ2, m1, m2, m3, mr⟩ := mean_b h' (ZF_xs hz p20 e3) hp hk hb q0
  have h2 := RR_xs h' m3 m2
  obtain ⟨σ3, d1, d2, d3⟩ := hr σ2 m2 ((e3.trans m3).mono (fun r j _ _ q => .inr q))
  obtain ⟨y, y1, y2⟩ := mr σ3 d2 (m3.trans (XPi_xs d3))
  refine ⟨v, σ2, σ3, ?_, m2, ?_, P, S, N, M, K, np, t, n, RR_mono (RR_xs h2 (XPi_xs d3) d2) (by omega)⟩
  · rw [go, e1, zbI_e, if_neg xp, q_X11_way_18, tg_6 e2, if_pos rfl, ex', m1, zbI_e]
  · rw [q_X12_way, tg_176 m2, if_pos rfl, r_wy1 h2 ⟨q, qp, qk⟩, zbI_e, if_neg (by decide), tg_176 m2, if_pos rfl, d1, zbI_e, if_neg (nI_ne0 (by omega) (by omega)), q_X12_way_18, tg_176 d2, if_pos rfl, y1, zbI_e, tg_176 d2, if_pos rfl, y2, zbI_e]
end
