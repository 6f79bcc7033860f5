/-! on: both answer alike -/
section
variable {σ σ' τ : zS} {zf bl bb : Nat → Nat} {B P S N M K np c n p k : Nat} {t : Nat → Nat}
theorem HBx_s (h : HBx σ np N zf bl bb) (v : Int32) : HBx (sI σ 6 1 v) np N zf bl bb := fun p hp => by
  obtain ⟨y1, y2, y3, y4, y5, y6, y7⟩ := h p hp
  rw [gI_sI, if_neg (by omega), gI_sI, if_neg (by omega), gI_sI, if_neg (by omega), gI_sI, if_neg (by omega), gI_sI, if_neg (by omega), gI_sI, if_neg (by omega)]
  exact ⟨y1, y2, y3, y4, y5, y6, y7⟩
theorem op_on (h : RR B σ c P S N M K np t n) : Al B σ c 185 [.ref 6] 319 [.ref 176] := by
  have hR := h
  have hS := h.1
  have hP := h.2.1.1
  have hb := HPb hP
  obtain ⟨g1, g2, g3, g4, g5, ⟨h1, h2, h3, h4, h5, h6, h7, h8, h9, h10⟩, g7, g8, g9, g10, g11, g12, g13⟩ := h
  have n1 := h1.1.2.1
  have n2 := h1.2.1.2.1
  have n3 := h1.2.2.2.1
  have n4 := g8.1
  obtain ⟨t1, tb, t7, t177, tn6, tn176⟩ := g3
  have h65 := g2.2.2.2.1
  have hN3 : gI σ 214 3 = nI N := h1.1.2.2
  have hM4 : gI σ 214 4 = nI M := h1.2.1.2.2
  have hP5 : gI σ P 5 = nI N := h1.1.1
  have hP6 : gI σ P 6 = nI M := h1.2.1.1
  have S1 : Sh (sI σ 6 1 0) := hS.sI (by omega)
  have tk : zM 116 [.ref 6] σ = some (some (.int (nI n)), sI σ 6 1 0) := by
    rw [q_X11_takeTape, tg_6 hS, if_pos rfl, if_pos rfl, zlt_e, tn6]
  have q5 : gI (sI σ 6 1 0) P 5 = nI N := by rw [gI_sI, if_neg (by omega)]; exact hP5
  have q6 : gI (sI σ 6 1 0) P 6 = nI M := by rw [gI_sI, if_neg (by omega)]; exact hP6
  have q7 : ∀ j, gI (sI σ 6 1 0) 7 j = sb (t j) := fun j => by rw [gI_sI, if_neg (by omega)]; exact t7 j
  have q65 : gR (sI σ 6 1 0) 6 5 = some P := h65
  have c1 := c_isOne (n := n) S1 hP q5 n1 q6 n2 q7 tb t1
  rcases (Classical.em (IMG t n N M)).symm with qi | qi
  · have S2 : Sh (sI (sI σ 6 1 0) 176 1 0) := S1.sI (by omega)
    have w : Un (fun r j => (r = 6 ∧ j = 1) ∨ (r = 176 ∧ j = 1)) σ (sI (sI σ 6 1 0) 176 1 0) := (Un_sI (by omega)).trans (Un_sI (by omega))
    have r1 := r_told (n := n) S2 (by rw [gI_sI, if_neg (by omega), gI_sI, if_neg (by omega)]; exact hN3) n1 (by rw [gI_sI, if_neg (by omega), gI_sI, if_neg (by omega)]; exact hM4) n2 (t := t) (fun j hj => by rw [gI_sI, if_neg (by omega), gI_sI, if_neg (by omega)]; exact t177 j hj) tb t1
    refine ⟨0, sI σ 6 1 0, sI (sI σ 6 1 0) 176 1 0, ?_, S1, ?_, P, S, N, M, K, np, t, 0, RR_mono (c := c) ⟨S2, Hs_un g2 w ⟨by omega, by omega⟩, ⟨by omega, tb, fun j => ?_, fun j hj => ?_, ?_, ?_⟩, Ow_un g4 g1 w (fun r j a => by omega), Ft_un g5 w ⟨by omega, by omega, by omega, by omega⟩, ⟨HN_un h1 hP w (fun j _ _ => by omega) (fun j _ _ => by omega), HF_un h2 hP w ⟨by omega, by omega⟩ ⟨by omega, by omega⟩, HC_un h3 hP w (by omega) (by omega), HPl_un h4 hP w (fun j _ => by omega) (fun j _ _ => by omega), (fun k hk => HL_un (h5 k hk) (by omega) hP w (fun j _ => by omega) ⟨by omega, by omega⟩), (fun k hk => HO_un (h6 k hk) (by omega) hP w (fun j => ⟨by omega, by omega⟩) ⟨by omega, by omega, by omega, by omega, fun d _ => by omega⟩), (fun k hk => HQ_un (h7 k hk) (by omega) hP w (fun j => ⟨by omega, by omega⟩) ⟨by omega, fun d _ => by omega⟩), (fun k hk => HR_un (h8 k hk) (by omega) hP w (fun j => by omega) (fun r _ => by omega)), (fun k hk => HU_un (h9 k hk) (by omega) hP w (by omega) (by omega)), HS_un h10 n1 g1 hP w (fun j => by omega) (fun j _ => by omega)⟩, HD_un g7 g1 hP w ⟨by omega, by omega, fun j => by omega⟩ ⟨by omega, by omega, fun j => by omega, fun j => by omega⟩, PN_un g8 w ⟨by omega, by omega⟩, (fun p hp => by
          have hp20 : p < 20 := by omega
          obtain ⟨so, z, p1, p2, p3, p4, p5, p6, p7, p8⟩ := g9 p hp
          exact ⟨so, z, p1, p2, p3, PA_un p4 hp20 w ⟨by omega, by omega, by omega, by omega⟩, PF_un p5 hp20 g1 w ⟨fun d => by omega, fun d _ => by omega⟩, PB_un p6 hp20 w ⟨by omega, by omega, by omega, by omega⟩, PT_un p7 hp20 w ⟨by omega, by omega⟩, PK_un p8 hp20 p3 g1 w ⟨by omega, by omega, by omega, by omega, fun j => by omega, fun j _ _ => by omega⟩⟩), IM_un g10 g1 w ⟨by omega, by omega, fun j => by omega, fun j => by omega⟩, MS_un g11 w ⟨by omega, by omega, by omega, by omega⟩, (fun k hk => RUk_un (g12 k hk) hk g1 w ⟨by omega, by omega, by omega, fun r j a _ _ => by omega, fun j _ _ => by omega⟩), rm_un g13 w (fun j => by omega)⟩ (by omega)⟩
    · rw [q_X11_on, tg_6 hS, if_pos rfl, tk, zbI_e, tg_6 S1, if_pos rfl, gR_6_0 S1, zeR_e, if_pos rfl, q65, zeR_e, c1.2 qi, zbI_e, if_pos rfl]
    · rw [q_X12_on, tg_176 S1, if_pos rfl, if_pos rfl, zlt_e, tg_176 S2, if_pos rfl, gI_sI, if_neg (by omega), tn176, r1.2 qi, zbI_e, if_pos rfl]
    · rw [w.iA (by omega) (by omega) (by rw [tg_7 hS]; omega) (by omega)]; exact t7 j
    · rw [w.iA (by omega) (by omega) (by rw [tg_177 hS]; omega) (by omega)]; exact t177 j hj
    · rw [gI_sI, if_neg (by omega), gI_sI, if_pos ⟨rfl, rfl⟩]
      rfl
    · rw [gI_sI, if_pos ⟨rfl, rfl⟩]
      rfl
  have qi2 := qi
  obtain ⟨i1, i2, i3, i4, i5⟩ := qi2
  obtain ⟨zf, bl, bb, hB⟩ := RR_hb hR
  -- the class
  obtain ⟨s3, a1, a2, a3, a4⟩ := c_home S1 hP q65 (by rw [gI_sI, if_neg (by omega)]; exact g8.2.1) n4 n1 (HBx_s hB 0)
  have q7b : ∀ j, gI s3 7 j = sb (t j) := fun j => by rw [a3.iA (by omega) (by omega) (by rw [tg_7 S1]; omega) (by omega)]; exact q7 j
  obtain ⟨s4, b1, b2, b3, b4⟩ := c_tPeople a2 q7b tb i1
  have S5 : Sh (sI s4 6 10 (nI (t 0))) := b2.sI (by omega)
  have q7c : ∀ j, gI (sI s4 6 10 (nI (t 0))) 7 j = sb (t j) := fun j => by rw [gI_sI, if_neg (by omega), b3.iA (by omega) (by omega) (by rw [tg_7 a2]; omega) (by omega)]; exact q7b j
  have q65c : gR (sI s4 6 10 (nI (t 0))) 6 5 = some P := by
    show gR s4 6 5 = some P
    rw [b3.r (by omega) (by omega) (by omega) (by omega), a3.r (by omega) (by omega) (by omega) (by omega)]; exact q65
  have q65b : gR s3 6 5 = some P := by rw [a3.r (by omega) (by omega) (by omega) (by omega)]; exact q65
  have q5c : gI (sI s4 6 10 (nI (t 0))) P 5 = nI N := by rw [gI_sI, if_neg (by omega), b3.i (by omega) (by omega) (by omega) (by omega), a3.i (by omega) (by omega) (by omega) (by omega)]; exact q5
  obtain ⟨s6, d1, d2, d3, d4⟩ := c_tRuns (T := t 0) S5 hP q5c n1 q7c tb i1
  have d3' : Un (fun r j => P + 9 ≤ r ∧ r ≤ P + 23 ∧ r % 2 = 1) (sI s4 6 10 (nI (t 0))) s6 := d3.mono (fun r j _ _ ⟨k, y1, y2⟩ => by omega)
  have wA : Un (fun r j => (r = 6 ∧ (j = 1 ∨ j = 10)) ∨ r = P + 6 ∨ (116 ≤ r ∧ r < 176) ∨ (P + 9 ≤ r ∧ r ≤ P + 23 ∧ r % 2 = 1)) σ s6 := (Un_sI (by omega)).trans ((a3.mono (fun r j _ _ q => by omega)).trans ((b3.mono (fun r j _ _ q => by omega)).trans ((Un_sI (by omega)).trans (d3'.mono (fun r j _ _ q => by omega)))))
  have cl : zM 185 [.ref 6] σ = some (some (.int 1), s6) := by
    rw [q_X11_on, tg_6 hS, if_pos rfl, tk, zbI_e, tg_6 S1, if_pos rfl, gR_6_0 S1, zeR_e, if_pos rfl, q65, zeR_e, c1.1 qi, zbI_e, if_neg (by decide), tg_6 S1, if_pos rfl, a1, zbV_e]
    rw [q_X11_on_14, tg_6 a2, if_pos rfl, gR_6_0 a2, zeR_e, if_pos rfl, gR_6_9 a2, zeR_e, b1, zbI_e, tg_6 b2, if_pos rfl, zlt_e, tg_6 S5, if_pos rfl, gR_6_0 S5, zeR_e, if_pos rfl, if_pos rfl, q65c, zeR_e, gI_sI, if_pos ⟨rfl, rfl⟩, d1, zbV_e]
  -- the reference
  have S7 : Sh (sI s6 176 1 0) := d2.sI (by omega)
  have u7 : Un XO σ (sI s6 176 1 0) := (wA.mono (fun r j _ _ q => by unfold XO; omega)).trans (Un_sI (by unfold XO; omega))
  have r7 : ∀ r j, 177 ≤ r → r < 253 → 32 ≤ tg σ r → gI (sI s6 176 1 0) r j = gI σ r j := fun r j y1 y2 y3 => u7.iA (by omega) y2 y3 (by unfold XO; omega)
  have r7s : ∀ r j, 177 ≤ r → r < 253 → j < 100 → gI (sI s6 176 1 0) r j = gI σ r j := fun r j y1 y2 y3 => u7.i (by omega) y2 y3 (by unfold XO; omega)
  have rt := r_told (n := n) S7 (by rw [r7s _ _ (by omega) (by omega) (by omega)]; exact hN3) n1 (by rw [r7s _ _ (by omega) (by omega) (by omega)]; exact hM4) n2 (t := t) (fun j hj => by rw [r7 _ _ (by omega) (by omega) (by rw [tg_177 hS]; omega)]; exact t177 j hj) tb t1
  obtain ⟨s8, w8, e1, e2, e3, e4⟩ := r_home hS g8.2.2 n4 n1 hB S7 u7 (nI n) none
  have S9 : Sh (sI s8 176 70 (nI (t 0))) := e2.sI (by omega)
  have t9 : ∀ j, j < 1600 → gI (sI s8 176 70 (nI (t 0))) 177 j = nI (t j) := fun j hj => by
    rw [gI_sI, if_neg (by omega), e3.iA (by omega) (by omega) (by rw [tg_177 S7]; omega) (by omega), r7 _ _ (by omega) (by omega) (by rw [tg_177 hS]; omega)]; exact t177 j hj
  obtain ⟨s10, w10, f1, f2, f3, f4, f5⟩ := r_tPeople (T := t 0) S9 t9 (by rw [gI_sI, if_pos ⟨rfl, rfl⟩]) i1 n2 (fun p hp => (i3 p hp).1) (nI n) w8
  have t10 : ∀ j, j < 1600 → gI s10 177 j = nI (t j) := fun j hj => by
    rw [f3.iA (by omega) (by omega) (by rw [tg_177 S9]; omega) (by unfold XNr; omega)]; exact t9 j hj
  have n10 : gI s10 214 3 = nI N := by
    rw [f3.i (by omega) (by omega) (by omega) (by unfold XNr; omega), gI_sI, if_neg (by omega), e3.i (by omega) (by omega) (by omega) (by omega), r7s _ _ (by omega) (by omega) (by omega)]; exact hN3
  have p10 : gI s10 176 70 = nI (t 0) := by
    rw [f3.i (by omega) (by omega) (by omega) (by unfold XNr; omega), gI_sI, if_pos ⟨rfl, rfl⟩]
  obtain ⟨s11, k1, k2, k3, k4⟩ := r_tRuns (T := t 0) f2 t10 p10 i1 n10 n1 (nI n) w10
  have a0 : ai s8 32 48 177 0 = true := ai_nI (σ := s8) (t := 32) (u := 48) (.inl (tg_177 e2)) (ln_177 e2) (show 0 < 1600 by omega) (by omega)
  have g8t : gI s8 177 0 = nI (t 0) := by
    rw [e3.iA (by omega) (by omega) (by rw [tg_177 S7]; omega) (by omega), r7 _ _ (by omega) (by omega) (by rw [tg_177 hS]; omega)]; exact t177 0 (by omega)
  have g870 : gI s8 176 70 = nI np := by
    rw [e3.i (by omega) (by omega) (by omega) (by omega), u7.i (by omega) (by omega) (by omega) (by unfold XO; omega)]; exact g8.2.2
  have s6n : gI s6 176 1 = nI n := by rw [wA.i (by omega) (by omega) (by omega) (by omega)]; exact tn176
  have rf : zM 319 [.ref 176] s6 = some (some (.int 1), s11) := by
    rw [q_X12_on, tg_176 d2, if_pos rfl, if_pos rfl, zlt_e, tg_176 S7, if_pos rfl, s6n, rt.1 qi, zbI_e, if_neg (by decide), e1]
    rw [q_X12_on_14, tg_176 e2, if_pos rfl, g870, if_pos (nI_le (Nat.le_refl _) (by omega)), if_pos rfl, gR_176_0 e2, zeR_e, if_pos a0, if_pos rfl, show ix (0 : Int32) = 0 from rfl, g8t, zlt_e, f1, k1]
  -- all that stands
  have wB : Un (fun r j => (r = 176 ∧ (j = 1 ∨ j = 70)) ∨ (r = 224 ∧ 160 ≤ j) ∨ (232 ≤ r ∧ r ≤ 242 ∧ r ≠ 241)) s6 s11 := (Un_sI (by omega)).trans ((e3.mono (fun r j _ _ q => by omega)).trans ((Un_sI (by omega)).trans ((f3.mono (fun r j _ _ q => by unfold XNr at q; omega)).trans (k3.mono (fun r j _ _ q => by omega)))))
  have w : Un (fun r j => ((r = 6 ∧ (j = 1 ∨ j = 10)) ∨ r = P + 6 ∨ (116 ≤ r ∧ r < 176) ∨ (P + 9 ≤ r ∧ r ≤ P + 23 ∧ r % 2 = 1)) ∨ (r = 176 ∧ (j = 1 ∨ j = 70)) ∨ (r = 224 ∧ 160 ≤ j) ∨ (232 ≤ r ∧ r ≤ 242 ∧ r ≠ 241)) σ s11 := (wA.mono (fun r j _ _ q => .inl q)).trans (wB.mono (fun r j _ _ q => .inr q))
  have cf : ∀ r j, 6 ≤ r → r < 176 → j < 100 → gI s11 r j = gI s6 r j := fun r j y1 y2 y3 => wB.i y1 (by omega) y3 (by omega)
  have pc4 : ∀ r j, 116 ≤ r → r < 176 → j < 100 → gI s11 r j = gI s4 r j := fun r j y1 y2 y3 => by
    rw [cf r j (by omega) y2 y3, d3'.i (by omega) (by omega) y3 (by omega), gI_sI, if_neg (by omega)]
  have pr10 : ∀ r j, 232 ≤ r → r ≤ 242 → r ≠ 235 → r ≠ 241 → 32 ≤ tg s10 r → gI s11 r j = gI s10 r j := fun r j y1 y2 y3 y4 y5 => k3.iA (by omega) (by omega) y5 (by omega)
  have nPc : ∀ p, p < t 0 → NPc t s11 p := fun p hp => by
    have hp20 : p < 20 := by omega
    obtain ⟨y1, y2, y3, y4, y5, y6, y7, y8, y9⟩ := b4 p hp
    refine ⟨?_, ?_, fun d hd => ?_, ?_, ?_, ?_, ?_, ?_, fun j hj => ?_⟩
    · rw [pc4 _ _ (by omega) (by omega) (by omega)]; exact y1
    · rw [pc4 _ _ (by omega) (by omega) (by omega)]; exact y2
    · rw [pc4 _ _ (by omega) (by omega) (by omega)]; exact y3 d hd
    · rw [pc4 _ _ (by omega) (by omega) (by omega)]; exact y4
    · rw [pc4 _ _ (by omega) (by omega) (by omega)]; exact y5
    · rw [pc4 _ _ (by omega) (by omega) (by omega)]; exact y6
    · rw [pc4 _ _ (by omega) (by omega) (by omega)]; exact y7
    · rw [pc4 _ _ (by omega) (by omega) (by omega)]; exact y8
    · rw [pc4 _ _ (by omega) (by omega) (by omega)]; exact y9 j hj
  have nPr : ∀ p, p < t 0 → NPr t s11 p := fun p hp => by
    obtain ⟨y1, y2, y3, y4, y5, y6, y7, y8, y9⟩ := f4 p hp
    refine ⟨?_, ?_, fun d hd => ?_, ?_, ?_, ?_, ?_, ?_, fun j hj => ?_⟩
    · rw [pr10 _ _ (by omega) (by omega) (by omega) (by omega) (by rw [tg_232 f2]; omega)]; exact y1
    · rw [pr10 _ _ (by omega) (by omega) (by omega) (by omega) (by rw [tg_233 f2]; omega)]; exact y2
    · rw [pr10 _ _ (by omega) (by omega) (by omega) (by omega) (by rw [tg_234 f2]; omega)]; exact y3 d hd
    · rw [pr10 _ _ (by omega) (by omega) (by omega) (by omega) (by rw [tg_236 f2]; omega)]; exact y4
    · rw [pr10 _ _ (by omega) (by omega) (by omega) (by omega) (by rw [tg_237 f2]; omega)]; exact y5
    · rw [pr10 _ _ (by omega) (by omega) (by omega) (by omega) (by rw [tg_238 f2]; omega)]; exact y6
    · rw [pr10 _ _ (by omega) (by omega) (by omega) (by omega) (by rw [tg_239 f2]; omega)]; exact y7
    · rw [pr10 _ _ (by omega) (by omega) (by omega) (by omega) (by rw [tg_240 f2]; omega)]; exact y8
    · rw [pr10 _ _ (by omega) (by omega) (by omega) (by omega) (by rw [tg_242 f2]; omega)]; exact y9 j hj
  have hHS : HS s11 P N := fun j hj => by
    have x1 : gI s11 (P + 6) j = hmf zf bl bb (gI (sI σ 6 1 0) (P + 6)) np j := by
      rw [wB.iA (by omega) (by omega) (by rw [tg_P6 d2 hP]; omega) (by omega), d3'.iA (by omega) (by omega) (by rw [tg_P6 S5 hP]; omega) (by omega), gI_sI, if_neg (by omega), b3.iA (by omega) (by omega) (by rw [tg_P6 a2 hP]; omega) (by omega)]
      exact a4 j (by omega)
    have x2 : gI s11 224 (160 + j) = hmf zf bl bb (fun j => gI σ 224 (160 + j)) np j := by
      rw [k3.iA (by omega) (by omega) (by rw [tg_224 f2]; omega) (by omega), f3.iA (by omega) (by omega) (by rw [tg_224 S9]; omega) (by unfold XNr; omega), gI_sI, if_neg (by omega)]
      exact e4 j (by omega)
    rw [x1, x2]
    refine hmf_congr (np := np) (N := N) (fun p hp => ?_) (fun x hx => ?_) np (Nat.le_refl _) j hj
    · rcases (hB p hp).2.2.2.2.2.2 with y | y
      · exact .inl y.1
      · exact .inr y.2.1
    · rw [gI_sI, if_neg (by omega)]
      exact h10 x hx
  refine ⟨1, s6, s11, cl, d2, rf, P, S, N, M, K, t 0, t, 0, RR_mono (c := c) ⟨k2, Hs_un g2 w ⟨by omega, by omega⟩, ⟨by omega, tb, fun j => ?_, fun j hj => ?_, ?_, ?_⟩, Ow_un g4 g1 w (fun r j a => by omega), Ft_un g5 w ⟨by omega, by omega, by omega, by omega⟩, ⟨HN_un h1 hP w (fun j _ _ => by omega) (fun j _ _ => by omega), HF_un h2 hP w ⟨by omega, by omega⟩ ⟨by omega, by omega⟩, HC_un h3 hP w (by omega) (by omega), HPl_un h4 hP w (fun j _ => by omega) (fun j _ _ => by omega), (fun k hk => HL_un (h5 k hk) (by omega) hP w (fun j _ => by omega) ⟨by omega, by omega⟩), (fun k hk => HO_un (h6 k hk) (by omega) hP w (fun j => ⟨by omega, by omega⟩) ⟨by omega, by omega, by omega, by omega, fun d _ => by omega⟩), (fun k hk => HQ_un (h7 k hk) (by omega) hP w (fun j => ⟨by omega, by omega⟩) ⟨by omega, fun d _ => by omega⟩), fun k hk => ?_, (fun k hk => HU_un (h9 k hk) (by omega) hP w (by omega) (by omega)), hHS⟩, HD_un g7 g1 hP w ⟨by omega, by omega, fun j => by omega⟩ ⟨by omega, by omega, fun j => by omega, fun j => by omega⟩, ⟨i1, ?_, ?_⟩, fun p hp => ?_, IM_un g10 g1 w ⟨by omega, by omega, fun j => by omega, fun j => by omega⟩, MS_un g11 w ⟨by omega, by omega, by omega, by omega⟩, (fun k hk => RUk_un (g12 k hk) hk g1 w ⟨by omega, by omega, by omega, fun r j a _ _ => by omega, fun j _ _ => by omega⟩), ⟨by rw [w.1]; exact g13.1, by unfold zsl; rw [w.1]; exact g13.2.1, fun p hp => ?_⟩⟩ (by omega)⟩
  · rw [w.iA (by omega) (by omega) (by rw [tg_7 hS]; omega) (by omega)]; exact t7 j
  · rw [w.iA (by omega) (by omega) (by rw [tg_177 hS]; omega) (by omega)]; exact t177 j hj
  · rw [cf _ _ (by omega) (by omega) (by omega), d3'.i (by omega) (by omega) (by omega) (by omega), gI_sI, if_neg (by omega), b3.i (by omega) (by omega) (by omega) (by omega), a3.i (by omega) (by omega) (by omega) (by omega), gI_sI, if_pos ⟨rfl, rfl⟩]
    rfl
  · rw [k3.i (by omega) (by omega) (by omega) (by omega), f3.i (by omega) (by omega) (by omega) (by unfold XNr; omega), gI_sI, if_neg (by omega), e3.i (by omega) (by omega) (by omega) (by omega), gI_sI, if_pos ⟨rfl, rfl⟩]
    rfl
  · have hs : 0 + tw t (1 + 12 * t 0 + 6 * k + 2 * 0) + tw t (1 + 12 * t 0 + 6 * k + 2 * 1) + tw t (1 + 12 * t 0 + 6 * k + 2 * 2) = 10000 := i4 k hk
    refine ⟨fun r => tw t (1 + 12 * t 0 + 6 * k + 2 * r), ?_, fun r hr => ⟨?_, ?_⟩⟩
    · show tw t (1 + 12 * t 0 + 6 * k + 2 * 0) + tw t (1 + 12 * t 0 + 6 * k + 2 * 1) + tw t (1 + 12 * t 0 + 6 * k + 2 * 2) = 10000
      omega
    · rw [cf _ _ (by omega) (by omega) (by omega)]
      exact d4 k hk r hr
    · rw [k4 _ (by omega), show 1 + 12 * t 0 + 2 * (3 * k + r) = 1 + 12 * t 0 + 6 * k + 2 * r by omega]
  · rw [cf _ _ (by omega) (by omega) (by omega), d3'.i (by omega) (by omega) (by omega) (by omega), gI_sI, if_pos ⟨rfl, rfl⟩]
  · rw [k3.i (by omega) (by omega) (by omega) (by omega)]; exact p10
  · obtain ⟨so1, ⟨z1, z2⟩, hsum⟩ := i3 p hp
    obtain ⟨y1, y2, y3, y4, y5, y6, y7, y8, y9⟩ := nPc p hp
    obtain ⟨x1, x2, x3, x4, x5, x6, x7, x8, x9⟩ := nPr p hp
    have hs : 0 + tw t (1 + 12 * p + 2 + 2 * 0) + tw t (1 + 12 * p + 2 + 2 * 1) + tw t (1 + 12 * p + 2 + 2 * 2) + tw t (1 + 12 * p + 2 + 2 * 3) + tw t (1 + 12 * p + 2 + 2 * 4) = 10000 := hsum
    refine ⟨t (1 + 12 * p), t (1 + 12 * p + 1), so1, z1, z2, ⟨y1, x1, y2, x2⟩, ⟨fun d => tw t (1 + 12 * p + 2 + 2 * d), ?_, fun d hd => ⟨y3 d hd, x3 d hd⟩⟩, .inl ⟨y6, x6, y7, x7⟩, ⟨by rw [y8, x8], .inl x8⟩, by rw [y4, x4], by rw [y5, x5], fun l hl i hi => ?_, fun l hl s hs _ => ?_, ?_⟩
    · show tw t (1 + 12 * p + 2 + 2 * 0) + tw t (1 + 12 * p + 2 + 2 * 1) + tw t (1 + 12 * p + 2 + 2 * 2) + tw t (1 + 12 * p + 2 + 2 * 3) + tw t (1 + 12 * p + 2 + 2 * 4) = 10000
      omega
    · rw [y9 _ (by omega)]
      split
      · rw [Nat.add_assoc, x9 _ (by omega)]
      · rfl
    · rw [Nat.add_assoc, x9 _ (by omega)]
    · rw [x4, x5, s32_0 160 (fun k hk => x9 k hk)]
      rfl
  · by_cases hq : p < t 0
    · refine ⟨0, by omega, ?_⟩
      rw [(nPr p hq).2.2.2.1]
      rfl
    · obtain ⟨m, m1, m2⟩ := g13.2.2 p hp
      refine ⟨m, m1, ?_⟩
      rw [pr10 _ _ (by omega) (by omega) (by omega) (by omega) (by rw [tg_236 f2]; omega), f5 p (by omega) hp, gI_sI, if_neg (by omega), e3.i (by omega) (by omega) (by omega) (by omega), r7s _ _ (by omega) (by omega) (by omega)]
      exact m2
end
