/-! worth, question: both answer alike -/
def RK (σ : zS) (np N : Nat) (zf : Nat → Nat) (p k so : Nat) (pl f g : Nat → Nat) (w pr fa wi ch : Nat) (s : Nat → Int32) : Prop := gI σ 176 70 = nI np ∧ gI σ 214 3 = nI N ∧ (∀ p, p < np → 30 ≤ zf p ∧ zf p ≤ 49 ∧ gI σ 233 p = nI (zf p)) ∧ RW σ p k so pl f g w ∧ RM σ k pr fa wi ∧ gI σ 223 5 = nI ch ∧ ∀ j, j < 20 → gI σ 224 (160 + (20 * k + j)) = s j
def CK (σ : zS) (P : Nat) (zf : Nat → Nat) (p k so : Nat) (pl f g : Nat → Nat) (w pr fa wi ch : Nat) (s : Nat → Int32) : Prop := gR σ 6 5 = some P ∧ CW σ P p k so pl f g w ∧ CM σ P k pr fa wi ∧ gI σ P 10 = nI ch ∧ gI σ (116 + 3 * p) 1 = nI (zf p) ∧ ∀ j, j < 20 → gI σ (P + 6) (20 * k + j) = s j
section
variable {σ σ' σ1 σ2 : zS} {s : Nat → Int32} {zf pl f f0 g v t : Nat → Nat} {B P S N M K np c n A q0 w b e o d r p k so z pr fa wi ch : Nat} {y : Int32}
theorem RK_un (h : RK σ np N zf p k so pl f g w pr fa wi ch s) (hS : Sh σ) (p20 : np ≤ 20) (hp : p < 20) (hk : k < 8) (hso : so < 4) (u : Un (fun r _ => r = 246 ∨ r = 251 ∨ r = 234) σ σ') (e : ∀ j, j < 100 → gI σ' 234 j = gI σ 234 j) : RK σ' np N zf p k so pl f g w pr fa wi ch s := by
  obtain ⟨h1, h2, h3, ⟨y1, y2, y3, y4, y5, y6⟩, ⟨m1, m2, m3, m4⟩, h6, h7⟩ := h
  refine ⟨?_, ?_, fun p' hp' => ⟨(h3 p' hp').1, (h3 p' hp').2.1, ?_⟩, ⟨fun d hd => ⟨(y1 d hd).1, ?_⟩, ?_, ?_, y4, fun d hd => ⟨(y5 d hd).1, ?_⟩, fun r hr => ⟨(y6 r hr).1, ?_⟩⟩, ⟨?_, ?_, ?_, m4⟩, ?_, fun j hj => ?_⟩
  · rw [u.i (by omega) (by omega) (by omega) (by omega)]; exact h1
  · rw [u.i (by omega) (by omega) (by omega) (by omega)]; exact h2
  · rw [u.i (by omega) (by omega) (by omega) (by omega)]; exact (h3 p' hp').2.2
  · rw [u.i (by omega) (by omega) (by omega) (by omega)]; exact (y1 d hd).2
  · rw [u.i (by omega) (by omega) (by omega) (by omega)]; exact y2
  · rw [u.i (by omega) (by omega) (by omega) (by omega)]; exact y3
  · rw [e _ (by omega)]; exact (y5 d hd).2
  · rw [u.i (by omega) (by omega) (by omega) (by omega)]; exact (y6 r hr).2
  · rw [u.i (by omega) (by omega) (by omega) (by omega)]; exact m1
  · rw [u.i (by omega) (by omega) (by omega) (by omega)]; exact m2
  · rw [u.i (by omega) (by omega) (by omega) (by omega)]; exact m3
  · rw [u.i (by omega) (by omega) (by omega) (by omega)]; exact h6
  · rw [u.iA (by omega) (by omega) (by rw [tg_224 hS]; omega) (by omega)]; exact h7 j hj
theorem CK_un (h : CK σ P zf p k so pl f g w pr fa wi ch s) (hS : Sh σ) (hP : HP P) (hp : p < 20) (hk : k < 8) (hso : so < 4) (u : Un (fun r j => (105 ≤ r ∧ r < 110) ∨ r = 112) σ σ') : CK σ' P zf p k so pl f g w pr fa wi ch s := by
  have hbb := HPb hP
  have ux : Un Xs σ σ' := u.mono (fun r j _ _ q => by unfold Xs; omega)
  obtain ⟨h1, h2, h3, h4, h5, h6⟩ := h
  refine ⟨?_, CW_xs h2 hP hp hk hso ux, CM_xs h3 hP hk ux, ?_, ?_, fun j hj => ?_⟩
  · rw [u.r (by omega) (by omega) (by omega) (by omega)]; exact h1
  · rw [u.i (by omega) (by omega) (by omega) (by omega)]; exact h4
  · rw [u.i (by omega) (by omega) (by omega) (by omega)]; exact h5
  · rw [u.iA (by omega) (by omega) (by rw [tg_P6 hS hP]; omega) (by omega)]; exact h6 j hj
theorem r_worthV (hS : Sh σ) (p20 : np ≤ 20) (n8 : N ≤ 8) (hp : p < np) (hk : k < N) (hq : q0 < 6) (hso : so < 4) (c99 : ch ≤ 99) (hf : f 0 + f 1 + f 2 + f 3 + f 4 = 10000) (hg : g 0 + g 1 + g 2 = 10000) (h : RK σ np N zf p k so pl f g w pr fa wi ch s) (hv : ∀ d, d < 5 → v d ≤ 100 ∧ gI σ 221 (30 + 5 * q0 + d) = nI (v d)) (u4 u5 u6 : Option Value) : ∃ σ', zR 9 296 14 [some (.ref 176), some (.int (nI q0)), some (.int (nI p)), some (.int (nI k)), u4, u5, u6] [] σ = some (some (.int (if cls (okb s (zf p)) (fun b => (mbv pl f g w pr fa wi ch b).toInt) 31 = 0 then -1000000000 else wth s (zf p) pl f g w pr fa wi ch v)), σ') ∧ Sh σ' ∧ Un (fun r _ => r = 246 ∨ r = 251 ∨ r = 234) σ σ' ∧ ∀ j, j < 100 → gI σ' 234 j = gI σ 234 j := by
  have hp20 : p < 20 := by omega
  have hk8 : k < 8 := by omega
  obtain ⟨h1, h2, h3, h4, h5, h6, h7⟩ := h
  have rb := r_best hS h1 p20 h2 n8 h3 hp hk hso h4 h5 h6 c99 hf hg h7
  rw [← okb_cr] at rb
  rcases cls_in (ok := okb s (zf p)) (v := fun b => (mbv pl f g w pr fa wi ch b).toInt) 31 with q | ⟨q1, q2, q3⟩
  · refine ⟨σ, ?_, hS, Un.refl _ _, fun _ _ => rfl⟩
    rw [q_X12_worth_14, tg_176 hS, if_pos rfl, rb, zbI_e, q, if_pos (by decide), if_pos rfl]
  · have nb : ¬ cls (okb s (zf p)) (fun b => (mbv pl f g w pr fa wi ch b).toInt) 31 = 0 := by omega
    obtain ⟨s1, a1, a2, a3, a4⟩ := r_behind (y := 1) hS h1 p20 h2 n8 h3 hp hk hq hso h4 h5 h6 c99 hf hg h7 hv nb
    obtain ⟨i1, i2, i3, i4, i5, i6, i7⟩ := RK_un ⟨h1, h2, h3, h4, h5, h6, h7⟩ hS p20 hp20 hk8 hso a3 a4
    obtain ⟨s2, b1, b2, b3, b4⟩ := r_behind (y := 0) a2 i1 p20 i2 n8 i3 hp hk hq hso i4 i5 i6 c99 hf hg i7 (fun d hd => ⟨(hv d hd).1, by rw [a3.i (by omega) (by omega) (by omega) (by omega)]; exact (hv d hd).2⟩) nb
    obtain ⟨j1, j2, j3, j4, j5, j6, j7⟩ := RK_un ⟨i1, i2, i3, i4, i5, i6, i7⟩ a2 p20 hp20 hk8 hso b3 b4
    obtain ⟨o1, o2, o3, o4⟩ := okb_pc q3
    have rm := r_meanOf b2 hp20 hk8 hso j4 j5 j6 c99 hf hg o1.1 o1.2 o2
    have eb : bmv s (zf p) pl f g w pr fa wi ch = mbv pl f g w pr fa wi ch (cls (okb s (zf p)) (fun b => (mbv pl f g w pr fa wi ch b).toInt) 31) := by unfold bmv; rw [if_neg nb]
    rw [← eb] at rm
    refine ⟨s2, ?_, b2, a3.trans b3, fun j hj => by rw [b4 j hj, a4 j hj]⟩
    rw [q_X12_worth_14, tg_176 hS, if_pos rfl, rb, zbI_e, if_neg (nI_ne0 (by omega) (by omega)), tg_176 hS, if_pos rfl, a1, zbL_e, tg_176 a2, if_pos rfl, b1, zbL_e, q_X12_worth_37, r_fo (by decide), zbL_e, tg_176 b2, if_pos rfl, rm, zbI_e, if_neg nb]
    unfold wth
    rfl
theorem RR_k (h : RR B σ c P S N M K np t n) (hz : ZF σ np zf) (hp : p < np) (hk : k < N) : ∃ so pl f g w pr fa wi ch s, so < 4 ∧ ch ≤ 99 ∧ pr ≤ 9999 ∧ fa ≤ 9999 ∧ wi ≤ 9999 ∧ (∀ d, d < 5 → pl d ≤ 100) ∧ f 0 + f 1 + f 2 + f 3 + f 4 = 10000 ∧ g 0 + g 1 + g 2 = 10000 ∧ CK σ P zf p k so pl f g w pr fa wi ch s ∧ RK σ np N zf p k so pl f g w pr fa wi ch s := by
  obtain ⟨so, pl, f, g, w, s1, s4, f1, g1, hc, hr⟩ := RR_wd h hp hk
  obtain ⟨pr, fa, wi, ch, lv, c99, l100, hm, hm2, hc1, hc2, hl1, hl2⟩ := RR_md h hk s1
  obtain ⟨s, t1, t2⟩ := RR_st h hk
  exact ⟨so, pl, f, g, w, pr, fa, wi, ch, s, s4, c99, hm.2.2.2.2.2, hm.2.2.2.1, hm.2.2.2.2.1, fun d hd => (hr.1 d hd).1, f1, g1, ⟨h.2.1.2.2.2.1, hc, hm, hc1, (hz p hp).2.2.1, t1⟩, ⟨(RR_pn h).2.2, (RR_hn h).1.2.2, ZF_r hz, hr, hm2, hc2, t2⟩⟩
theorem RK_xs (h : RK σ np N zf p k so pl f g w pr fa wi ch s) (hS : Sh σ) (p20 : np ≤ 20) (hp : p < 20) (hk : k < 8) (hso : so < 4) (u : Un Xs σ σ') : RK σ' np N zf p k so pl f g w pr fa wi ch s := by
  obtain ⟨h1, h2, h3, h4, h5, h6, h7⟩ := h
  refine ⟨?_, ?_, fun p' hp' => ⟨(h3 p' hp').1, (h3 p' hp').2.1, ?_⟩, RW_xs h4 hp hk hso u, RM_xs h5 hk u, ?_, fun j hj => ?_⟩
  · rw [u.i (by omega) (by omega) (by omega) (nX_rf (by omega))]; exact h1
  · rw [u.i (by omega) (by omega) (by omega) (nX_214 (by omega))]; exact h2
  · rw [u.i (by omega) (by omega) (by omega) (nX_hi (by omega) (by omega))]; exact (h3 p' hp').2.2
  · rw [u.i (by omega) (by omega) (by omega) (nX_223 (by omega))]; exact h6
  · rw [u.iA (by omega) (by omega) (by rw [tg_224 hS]; omega) (nX_224 (by omega))]; exact h7 j hj
/-- the reference's feet restored -/
theorem RR_rest (h : RR B σ c P S N M K np t n) (hS' : Sh σ') (u : Un (fun r _ => r = 246 ∨ r = 251 ∨ r = 234) σ σ') (e : ∀ j, j < 100 → gI σ' 234 j = gI σ 234 j) : RR B σ' c P S N M K np t n := by
  have p20 := (RR_pn h).1
  refine RR_feet h (u.mono (fun r j _ _ q => by omega)) hS' (fun p hp => ?_)
  obtain ⟨so, z, -, -, -, -, ⟨f, f1, f2⟩, -⟩ := h.2.2.2.2.2.2.2.2.1 p hp
  refine ⟨f, f1, fun d hd => ⟨?_, ?_⟩⟩
  · rw [u.i (by omega) (by omega) (by omega) (by omega)]; exact (f2 d hd).1
  · rw [e _ (by omega)]; exact (f2 d hd).2
theorem op_worth (h : RR B σ c P S N M K np t n) (x y l : Int32) : Al B σ c 166 [.ref 6, .int x, .int y, .int l] 296 [.ref 176, .int x, .int y, .int l] := by
  have hS := h.1
  have hP := h.2.1.1
  have hbb := HPb hP
  have p20 := (RR_pn h).1
  have n8 := (RR_hn h).1.2.1
  have k6 := (RR_hn h).2.2.2.1
  have h65 := h.2.1.2.2.2.1
  obtain ⟨zf, hz⟩ := RR_zf h
  have cQ := c_isQuestion (a := x) hS hP h65 (RR_hn h).2.2.1
  have rQ := r_isQ hS (RR_hn h).2.2.2.2 (by omega) x
  rcases rng_no x (N := K) (by omega) with q | ⟨q0, hq, rfl⟩
  · refine Al_rd h (-1000000000) ?_ ?_
    · rw [q_X11_worth, tg_6 hS, if_pos rfl, cQ, zbI_e, if_neg q, if_pos rfl]
    · rw [q_X12_worth, tg_176 hS, if_pos rfl, rQ, zbI_e, if_neg q, if_pos rfl]
  have qq := rng_ok hq (show K < 2 ^ 31 by omega)
  rcases rng_no y (N := np) (by omega) with q | ⟨p, hp, rfl⟩
  · refine Al_rd h (-1000000000) ?_ ?_
    · rw [q_X11_worth, tg_6 hS, if_pos rfl, cQ, zbI_e, if_pos qq, if_neg (by decide), tg_6 hS, if_pos rfl, RR_cP h, zbI_e, if_neg q, if_pos rfl]
    · rw [q_X12_worth, tg_176 hS, if_pos rfl, rQ, zbI_e, if_pos qq, if_neg (by decide), tg_176 hS, if_pos rfl, RR_rP h, zbI_e, if_neg q, if_pos rfl]
  have qp := rng_ok hp (show np < 2 ^ 31 by omega)
  rcases rng_no l (N := N) (by omega) with q | ⟨k, hk, rfl⟩
  · refine Al_rd h (-1000000000) ?_ ?_
    · rw [q_X11_worth, tg_6 hS, if_pos rfl, cQ, zbI_e, if_pos qq, if_neg (by decide), tg_6 hS, if_pos rfl, RR_cP h, zbI_e, if_pos qp, if_neg (by decide), tg_6 hS, if_pos rfl, RR_cL h, zbI_e, if_neg q, if_pos rfl]
    · rw [q_X12_worth, tg_176 hS, if_pos rfl, rQ, zbI_e, if_pos qq, if_neg (by decide), tg_176 hS, if_pos rfl, RR_rP h, zbI_e, if_pos qp, if_neg (by decide), tg_176 hS, if_pos rfl, RR_rL h, zbI_e, if_neg q, if_pos rfl]
  have qk := rng_ok hk (show N < 2 ^ 31 by omega)
  have hp20 : p < 20 := by omega
  have hk8 : k < 8 := by omega
  have hq6 : q0 < 6 := by omega
  obtain ⟨v, hv⟩ := RR_qd h hq
  obtain ⟨so, pl, f, g, w, pr, fa, wi, ch, s, s4, c99, x1, x2, x3, hpl, f1, g1, ck, rk⟩ := RR_k h hz hp hk
  obtain ⟨z1, z2, z3, z4⟩ := hz p hp
  have ap := ai_nI (σ := σ) (t := 69) (u := 69) (.inl (tg_104 hS)) (ln_104 hS) hp20 (by omega)
  obtain ⟨σ1, e1, e2, e3⟩ := c_bmean hS hP ck.1 hp20 hk8 s4 ck.2.1 (tg_pfeet hS hp20) (ln_pfeet hS hp20) (by omega) ck.2.1.2.2.2.2.1 ck.2.2.1 ck.2.2.2.1 ck.2.2.2.2.1 ⟨z1, z2⟩ ck.2.2.2.2.2
  have u1 : Un (fun r j => (105 ≤ r ∧ r < 110) ∨ r = 112) σ σ1 := e3.mono (fun r j _ _ q => by omega)
  have ck1 := CK_un ck hS hP hp20 hk8 s4 u1
  obtain ⟨σ2, b1, b2, b3⟩ := c_beside (s := s) (v := v) (q0 := q0) e2 hP ck1.1 hp20 hk8 hq6 s4 ck1.2.1 f1 ck1.2.2.1 ck1.2.2.2.1 ck1.2.2.2.2.1 ⟨z1, z2⟩ ck1.2.2.2.2.2 (fun d hd => ⟨(hv d hd).1, by rw [u1.i (by omega) (by omega) (by omega) (by omega)]; exact (hv d hd).2.1⟩)
  have en := bmv_no (s := s) (z := zf p) (w := w) hpl f1 g1 x1 x2 x3 c99
  have cg : zM 166 [.ref 6, .int (nI q0), .int (nI p), .int (nI k)] σ = if bmv s (zf p) pl f g w pr fa wi ch = -1000000000 then some (some (.int (-1000000000)), σ1) else some (some (.int (wth s (zf p) pl f g w pr fa wi ch v)), σ2) := by
    rw [q_X11_worth, tg_6 hS, if_pos rfl, cQ, zbI_e, if_pos qq, if_neg (by decide), tg_6 hS, if_pos rfl, RR_cP h, zbI_e, if_pos qp, if_neg (by decide), tg_6 hS, if_pos rfl, RR_cL h, zbI_e, if_pos qk, if_neg (by decide), q_X11_worth_14, tg_6 hS, if_pos rfl, gR_6_9 hS, zeR_e, if_pos ap, ixn (by omega), gR_people hS hp20, zeR_e, if_pos rfl, zeR_e, if_pos ap, gR_people hS hp20, zeR_e, tg_person hS hp20, if_pos rfl, gR_pfeet hS hp20, zeR_e, if_pos rfl, e1, zbI_e]
    by_cases q : bmv s (zf p) pl f g w pr fa wi ch = -1000000000
    · rw [if_pos q, if_pos q]
    · rw [if_neg q, if_neg q, tg_6 e2, if_pos rfl, b1, zbI_e]
  have rg : ∀ s', Sh s' → Un (fun r j => (105 ≤ r ∧ r < 110) ∨ r = 112) σ s' → ∃ σ3, zM 296 [.ref 176, .int (nI q0), .int (nI p), .int (nI k)] s' = some (some (.int (if cls (okb s (zf p)) (fun b => (mbv pl f g w pr fa wi ch b).toInt) 31 = 0 then -1000000000 else wth s (zf p) pl f g w pr fa wi ch v)), σ3) ∧ RX B σ3 (c + 1) := fun s' hSs us => by
    have ux : Un Xs σ s' := us.mono (fun r j _ _ q => by unfold Xs; omega)
    have h' := RR_xs h ux hSs
    obtain ⟨σ3, r1, r2, r3, r4⟩ := r_worthV (q0 := q0) (v := v) hSs p20 n8 hp hk hq6 s4 c99 f1 g1 (RK_xs rk hS p20 hp20 hk8 s4 ux) (fun d hd => ⟨(hv d hd).1, by rw [us.i (by omega) (by omega) (by omega) (by omega)]; exact (hv d hd).2.2⟩) none none none
    refine ⟨σ3, ?_, P, S, N, M, K, np, t, n, RR_mono (RR_rest h' r2 r3 r4) (by omega)⟩
    rw [q_X12_worth, tg_176 hSs, if_pos rfl, r_isQ hSs (RR_hn h').2.2.2.2 (by omega), zbI_e, if_pos qq, if_neg (by decide), tg_176 hSs, if_pos rfl, RR_rP h', zbI_e, if_pos qp, if_neg (by decide), tg_176 hSs, if_pos rfl, RR_rL h', zbI_e, if_pos qk, if_neg (by decide), r1]
  by_cases q : cls (okb s (zf p)) (fun b => (mbv pl f g w pr fa wi ch b).toInt) 31 = 0
  · obtain ⟨σ3, r1, r2⟩ := rg σ1 e2 u1
    rw [if_pos q] at r1
    exact ⟨-1000000000, σ1, σ3, by rw [cg, if_pos (by rw [en]; exact q)], e2, r1, r2⟩
  · obtain ⟨σ3, r1, r2⟩ := rg σ2 b2 (u1.trans b3)
    rw [if_neg q] at r1
    exact ⟨wth s (zf p) pl f g w pr fa wi ch v, σ2, σ3, by rw [cg, if_neg (by rw [en]; exact q)], b2, r1, r2⟩
end
