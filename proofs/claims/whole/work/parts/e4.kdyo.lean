/-! days: both answer alike -/
section
variable {σ σ' σ1 σ2 : zS} {s : Nat → Int32} {a d t : Nat → Nat} {B P S N M K np c n b e y o r p k so z cm day w l i m D : Nat}
theorem r_dayL (hS : Sh σ) (x1 : Int32) (hcm : cm ≤ 2000) (hN : N ≤ 8) (hD : D < 2 ^ 30) (h82 : gI σ 176 82 = nI D) (h84 : gI σ 176 84 = nI cm) (ha : ∀ i, i < cm → a i < 20 * N ∧ d i < 2 ^ 31 ∧ gI σ 243 i = nI (160 + a i) ∧ gI σ 244 i = nI (d i)) (hs : ∀ l, l < 160 → gI σ 224 (160 + l) = s l) : ∃ σ', zR 2 287 18 [some (.ref 176), some (.int x1), some (.int 0), some (.int 0)] [] σ = some (some (.int (nI D)), σ') ∧ Sh σ' ∧ Un (fun r j => (r = 176 ∧ j = 84) ∨ r = 243 ∨ r = 244 ∨ (r = 224 ∧ 160 ≤ j)) σ σ' ∧ gI σ' 176 84 = nI (fC D d cm) ∧ (∀ j, j < fC D d cm → gI σ' 243 j = nI (160 + fA D d a cm j) ∧ gI σ' 244 j = nI (fD D d cm j)) ∧ ∀ l, l < 160 → gI σ' 224 (160 + l) = s l + nI (cnt (fun i => decide (d i ≤ D ∧ a i = l)) cm) := by
  obtain ⟨s1, e1, k1, k2, k3, k4, k5⟩ := lp_run (F := fun k (g : zS) => zR 2 287 18 [some (.ref 176), some (.int x1), some (.int (nI (fC D d k))), some (.int (nI k))] [] g) (fun k g => Sh g ∧ Un (fun r j => (r = 176 ∧ j = 84) ∨ r = 243 ∨ r = 244 ∨ (r = 224 ∧ 160 ≤ j)) σ g ∧ (∀ j, j < fC D d k → gI g 243 j = nI (160 + fA D d a k j) ∧ gI g 244 j = nI (fD D d k j)) ∧ (∀ i, k ≤ i → i < cm → gI g 243 i = nI (160 + a i) ∧ gI g 244 i = nI (d i)) ∧ gI g 176 84 = nI cm ∧ ∀ l, l < 160 → gI g 224 (160 + l) = s l + nI (cnt (fun i => decide (d i ≤ D ∧ a i = l)) k)) cm (by
    rintro k g hk ⟨k1, k2, k3, k4, k84, k5⟩
    have fl := fC_le (D := D) (d := d) k
    have g82 : gI g 176 82 = nI D := by rw [k2.i (by omega) (by omega) (by omega) (by omega)]; exact h82
    obtain ⟨o1, o2⟩ := k4 k (Nat.le_refl _) hk
    obtain ⟨b1, b2, -, -⟩ := ha k hk
    have a3 := ai_nI (σ := g) (t := 32) (u := 48) (.inl (tg_243 k1)) (ln_243 k1) (show k < 2000 by omega) (by omega)
    have a4 := ai_nI (σ := g) (t := 32) (u := 48) (.inl (tg_244 k1)) (ln_244 k1) (show k < 2000 by omega) (by omega)
    have cs : ∀ l, cnt (fun i => decide (d i ≤ D ∧ a i = l)) (k + 1) = cnt (fun i => decide (d i ≤ D ∧ a i = l)) k + if d k ≤ D ∧ a k = l then 1 else 0 := fun l => by
      show cnt (fun i => decide (d i ≤ D ∧ a i = l)) k + (if decide (d k ≤ D ∧ a k = l) = true then 1 else 0) = _
      simp only [decide_eq_true_eq]
    by_cases q : D < d k
    · have e1 : fA D d a (k + 1) = apn (fA D d a k) (fC D d k) (a k) := by show (if _ then _ else _) = _; rw [if_pos q]
      have e2 : fD D d (k + 1) = apn (fD D d k) (fC D d k) (d k) := by show (if _ then _ else _) = _; rw [if_pos q]
      have e3 : fC D d (k + 1) = fC D d k + 1 := by show (if _ then _ else _) = _; rw [if_pos q]
      have S2 : Sh (sI g 243 (fC D d k) (nI (160 + a k))) := k1.sI (by omega)
      have a4' := ai_nI (σ := sI g 243 (fC D d k) (nI (160 + a k))) (t := 32) (u := 48) (.inl (tg_244 S2)) (ln_244 S2) (show k < 2000 by omega) (by omega)
      have g44 : gI (sI g 243 (fC D d k) (nI (160 + a k))) 244 k = nI (d k) := by rw [gI_sI, if_neg (by omega)]; exact o2
      refine ⟨sI (sI g 243 (fC D d k) (nI (160 + a k))) 244 (fC D d k) (nI (d k)), ?_, S2.sI (by omega), k2.trans ((Un_sI (by omega)).trans (Un_sI (by omega))), fun j hj => ?_, fun i hi1 hi2 => ?_, ?_, fun l hl => ?_⟩
      · rw [q_X12_days_18, tg_176 k1, if_pos rfl, k84, if_neg (nI_ge hk (by omega)), if_pos rfl, gR_176_86 k1, zeR_e, if_pos a4, if_pos rfl, g82, ixn (show k < 2 ^ 31 by omega), o2, if_pos (nI_lt q b2), if_pos rfl, gR_176_85 k1, zeR_e, if_pos rfl, zeR_e, if_pos a3, if_pos (ai_nI (.inl (tg_243 k1)) (ln_243 k1) (show fC D d k < 2000 by omega) (by omega)), zlt_e, ixn (show fC D d k < 2 ^ 31 by omega), o1, tg_176 S2, if_pos rfl, gR_176_86 S2, zeR_e, if_pos rfl, zeR_e, if_pos a4', if_pos (ai_nI (.inl (tg_244 S2)) (ln_244 S2) (show fC D d k < 2000 by omega) (by omega)), zlt_e, g44, nI_1, nI_1, e3]
      · rw [e1, e2]
        rw [e3] at hj
        unfold apn
        by_cases q2 : j = fC D d k
        · rw [if_pos q2, if_pos q2]
          refine ⟨?_, ?_⟩
          · rw [gI_sI, if_neg (by omega), gI_sI, if_pos ⟨rfl, q2⟩]
          · rw [gI_sI, if_pos ⟨rfl, q2⟩]
        · rw [if_neg q2, if_neg q2]
          have old := k3 j (by omega)
          refine ⟨?_, ?_⟩
          · rw [gI_sI, if_neg (by omega), gI_sI, if_neg (fun x => q2 x.2)]; exact old.1
          · rw [gI_sI, if_neg (fun x => q2 x.2), gI_sI, if_neg (by omega)]; exact old.2
      · have old := k4 i (by omega) hi2
        refine ⟨?_, ?_⟩
        · rw [gI_sI, if_neg (by omega), gI_sI, if_neg (by omega)]; exact old.1
        · rw [gI_sI, if_neg (by omega), gI_sI, if_neg (by omega)]; exact old.2
      · rw [gI_sI, if_neg (by omega), gI_sI, if_neg (by omega)]; exact k84
      · rw [gI_sI, if_neg (by omega), gI_sI, if_neg (by omega), cs, if_neg (by omega), Nat.add_zero]; exact k5 l hl
    · have e1 : fA D d a (k + 1) = fA D d a k := by show (if _ then _ else _) = _; rw [if_neg q]
      have e2 : fD D d (k + 1) = fD D d k := by show (if _ then _ else _) = _; rw [if_neg q]
      have e3 : fC D d (k + 1) = fC D d k := by show (if _ then _ else _) = _; rw [if_neg q]
      have lt : 160 + a k < 320 := by omega
      refine ⟨sI g 224 (160 + a k) (gI g 224 (160 + a k) + 1), ?_, k1.sI (by omega), k2.trans (Un_sI (by omega)), fun j hj => ?_, fun i hi1 hi2 => ?_, ?_, fun l hl => ?_⟩
      · rw [q_X12_days_18, tg_176 k1, if_pos rfl, k84, if_neg (nI_ge hk (by omega)), if_pos rfl, gR_176_86 k1, zeR_e, if_pos a4, if_pos rfl, g82, ixn (show k < 2 ^ 31 by omega), o2, if_neg (nI_nlt (by omega) (by omega)), if_pos rfl, gR_176_57 k1, zeR_e, if_pos rfl, gR_176_85 k1, zeR_e, if_pos a3, o1, if_pos (ai_nI (.inl (tg_224 k1)) (ln_224 k1) lt (by omega)), if_pos (ai_nI (.inl (tg_224 k1)) (ln_224 k1) lt (by omega)), zlt_e, ixn (by omega), nI_1, e3]
      · rw [e1, e2]
        rw [e3] at hj
        rw [gI_sI, if_neg (by omega), gI_sI, if_neg (by omega)]
        exact k3 j hj
      · rw [gI_sI, if_neg (by omega), gI_sI, if_neg (by omega)]
        exact k4 i (by omega) hi2
      · rw [gI_sI, if_neg (by omega)]; exact k84
      · rw [gI_sI, cs]
        by_cases q2 : a k = l
        · rw [if_pos ⟨rfl, by rw [q2]⟩, if_pos ⟨by omega, q2⟩, q2, k5 l hl, Int32.add_assoc, nI_1]
        · rw [if_neg (by omega), if_neg (fun x => q2 x.2), Nat.add_zero]; exact k5 l hl) σ ⟨hS, Un.refl _ _, fun j hj => by
      have : j < 0 := hj
      omega, fun i _ hi => (ha i hi).2.2, h84, fun l hl => by rw [hs l hl]; exact (Int32.add_zero _).symm⟩
  have g82 : gI s1 176 82 = nI D := by rw [k2.i (by omega) (by omega) (by omega) (by omega)]; exact h82
  have S2 : Sh (sI s1 176 84 (nI (fC D d cm))) := k1.sI (by omega)
  refine ⟨sI s1 176 84 (nI (fC D d cm)), ?_, S2, k2.trans (Un_sI (.inl ⟨rfl, rfl⟩)), ?_, fun j hj => ?_, fun l hl => ?_⟩
  · refine Eq.trans e1 ?_
    rw [q_X12_days_18, tg_176 k1, if_pos rfl, k5.1, if_pos (nI_le (Nat.le_refl _) (by omega)), if_pos rfl, zlt_e, tg_176 S2, if_pos rfl, gI_sI, if_neg (by omega), g82]
  · rw [gI_sI, if_pos ⟨rfl, rfl⟩]
  · rw [gI_sI, if_neg (by omega), gI_sI, if_neg (by omega)]; exact k3 j hj
  · rw [gI_sI, if_neg (by omega)]; exact k5.2 l hl
theorem op_days (h : RR B σ c P S N M K np t n) (hc600 : c ≤ 600) (x : Int32) : Al B σ c 162 [.ref 6, .int x] 287 [.ref 176, .int x] := by
  have hR := h
  have hr := fun s => isInL (a := x) (x := 1) (y := 100) (X := 1) (Y := 100) (s := s) (by decide +kernel) (by decide +kernel)
  have e1 : (1 : Int32).toInt = 1 := by decide
  have e100 : (100 : Int32).toInt = 100 := by decide
  by_cases q : 1 ≤ x ∧ x ≤ 100
  · have hm : ∃ m, 1 ≤ m ∧ m ≤ 100 ∧ x = nI m := by
      have q1 := Int32.le_iff_toInt_le.mp q.1
      have q2 := Int32.le_iff_toInt_le.mp q.2
      rcases pk_ix x (n := 101) (by omega) with z | z | ⟨m, hm, rfl⟩
      · rw [Int32.lt_iff_toInt_lt] at z
        have e0 : (0 : Int32).toInt = 0 := rfl
        omega
      · rw [Int32.le_iff_toInt_le, nI_toInt (by omega)] at z
        omega
      · rw [nI_toInt (by omega)] at q1
        exact ⟨m, by omega, by omega, rfl⟩
    obtain ⟨m, m1, m2, rfl⟩ := hm
    obtain ⟨day, cm, a, d, d1, d2, d3, d4, d5⟩ := RR_hd h
    have hS := h.1
    have hP := h.2.1.1
    have hb := HPb hP
    obtain ⟨g1, g2, g3, g4, g5, ⟨h1, h2, h3, h4, h5, h6, h7, h8, h9, h10⟩, g7, g8, g9, g10, g11, g12, g13⟩ := h
    have n1 := h1.1.2.1
    have n2 := h1.2.1.2.1
    have n3 := h1.2.2.2.1
    have n4 := g8.1
    have h65 : gR σ 6 5 = some P := g2.2.2.2.1
    have dc : DC σ P day cm (fun l => gI σ (P + 6) l) a d := ⟨d3.1, by
      rw [d3.2.1]
      congr 1
      have : cnt (fun _ => true) cm = cm := by
        clear d1 d2 d3 d4 d5
        induction cm with
        | zero => rfl
        | succ cm ih => show cnt (fun _ => true) cm + 1 = _; rw [ih]
      exact (this.symm.trans (cnt_congr cm (fun i hi => (decide_eq_true (d5 i hi).2.1).symm))), fun w hw l hl => by
      rw [d3.2.2 w hw l hl]
      congr 1
      refine cnt_congr cm (fun i hi => ?_)
      have := (d5 i hi).2.1
      by_cases x1 : a i = l
      · by_cases x2 : d i % 7 = w
        · rw [decide_eq_true x1, decide_eq_true x2, decide_eq_true ⟨this, x1, x2⟩]; rfl
        · rw [decide_eq_false x2, decide_eq_false (show ¬ (day < d i ∧ a i = l ∧ d i % 7 = w) from fun y => x2 y.2.2), Bool.and_false]
      · rw [decide_eq_false x1, decide_eq_false (show ¬ (day < d i ∧ a i = l ∧ d i % 7 = w) from fun y => x1 y.2.1), Bool.false_and], fun l hl => by
      rw [cnt_none (p := fun i => d i ≤ day ∧ a i = l) cm (fun i hi y => by have := (d5 i hi).2.1; omega)]
      exact (Int32.add_zero _).symm⟩
    obtain ⟨σ1, c1, c2, c3, c4⟩ := c_pass (m := m) hS hP (by omega) (by omega) m2 (fun i hi => ⟨by have := (d5 i hi).1; omega, (d5 i hi).2.2⟩) dc
    have f82 : gI σ1 176 82 = nI day := by rw [c3.i (by omega) (by omega) (by omega) (by omega)]; exact d4.1
    have S2 : Sh (sI σ1 176 82 (nI (day + m))) := c2.sI (by omega)
    obtain ⟨σ2, r1, r2, r3, r4, r5, r6⟩ := r_dayL (N := N) (D := day + m) (cm := cm) (a := a) (d := d) (s := fun l => gI σ 224 (160 + l)) S2 (nI m) (by omega) n1 (by omega) (by rw [gI_sI, if_pos ⟨rfl, rfl⟩]) (by rw [gI_sI, if_neg (by omega), c3.i (by omega) (by omega) (by omega) (by omega)]; exact d4.2.1) (fun i hi => ⟨(d5 i hi).1, by have := (d5 i hi).2.2; omega, by rw [gI_sI, if_neg (by omega), c3.iA (by omega) (by omega) (by rw [tg_243 hS]; omega) (by omega)]; exact (d4.2.2 i hi).1, by rw [gI_sI, if_neg (by omega), c3.iA (by omega) (by omega) (by rw [tg_244 hS]; omega) (by omega)]; exact (d4.2.2 i hi).2⟩) (fun l hl => by rw [gI_sI, if_neg (by omega), c3.iA (by omega) (by omega) (by rw [tg_224 hS]; omega) (by omega)])
    have w : Un (fun r j => (r = P + 5 ∧ (j = 2 ∨ j = 3)) ∨ (r = P + 6 ∧ j < 160) ∨ r = P + 7 ∨ (r = 176 ∧ (j = 82 ∨ j = 84)) ∨ r = 243 ∨ r = 244 ∨ (r = 224 ∧ 160 ≤ j)) σ σ2 := (c3.mono (fun r j _ _ q => by omega)).trans ((Un_sI (by omega)).trans (r3.mono (fun r j _ _ q => by omega)))
    have cf : ∀ r j, 6 ≤ r → r < 176 → (j < 100 ∨ 32 ≤ tg σ1 r) → gI σ2 r j = gI σ1 r j := fun r j x y v => by
      rw [((r3.2.1 r j (by omega) (by omega) (by rcases v with v | v; exact .inl v; exact .inr v) (by omega)).1), gI_sI, if_neg (by omega)]
    have fl := fC_le (D := day + m) (d := d) cm
    refine ⟨nI (day + m), σ1, σ2, ?_, c2, ?_, P, S, N, M, K, np, t, n, ⟨r2, Hs_un g2 w ⟨by omega, by omega⟩, Tp_un g3 g1 w ⟨fun j => by omega, fun j => by omega, by omega, by omega⟩, Ow_un g4 g1 w (fun r j a => by omega), Ft_un g5 w ⟨by omega, by omega, by omega, by omega⟩, ⟨HN_un h1 hP w (fun j _ _ => by omega) (fun j _ _ => by omega), HF_un h2 hP w ⟨by omega, by omega⟩ ⟨by omega, by omega⟩, HC_un h3 hP w (by omega) (by omega), HPl_un h4 hP w (fun j _ => by omega) (fun j _ _ => by omega), (fun k hk => HL_un (h5 k hk) (by omega) hP w (fun j _ => by omega) ⟨by omega, by omega⟩), (fun k hk => HO_un (h6 k hk) (by omega) hP w (fun j => ⟨by omega, by omega⟩) ⟨by omega, by omega, by omega, by omega, fun d _ => by omega⟩), (fun k hk => HQ_un (h7 k hk) (by omega) hP w (fun j => ⟨by omega, by omega⟩) ⟨by omega, fun d _ => by omega⟩), (fun k hk => HR_un (h8 k hk) (by omega) hP w (fun j => by omega) (fun r _ => by omega)), (fun k hk => HU_un (h9 k hk) (by omega) hP w (by omega) (by omega)), fun j hj => ?_⟩, ⟨day + m, fC (day + m) d cm, by omega, by omega, ?_, ?_, ?_, r4, fA (day + m) d a cm, fD (day + m) d cm, fun k hk => ?_, fun w' hw l hl => ?_⟩, PN_un g8 w ⟨by omega, by omega⟩, (fun p hp => by
          have hp20 : p < 20 := by omega
          obtain ⟨so, z, p1, p2, p3, p4, p5, p6, p7, p8⟩ := g9 p hp
          exact ⟨so, z, p1, p2, p3, PA_un p4 hp20 w ⟨by omega, by omega, by omega, by omega⟩, PF_un p5 hp20 g1 w ⟨fun d => by omega, fun d _ => by omega⟩, PB_un p6 hp20 w ⟨by omega, by omega, by omega, by omega⟩, PT_un p7 hp20 w ⟨by omega, by omega⟩, PK_un p8 hp20 p3 g1 w ⟨by omega, by omega, by omega, by omega, fun j => by omega, fun j _ _ => by omega⟩⟩), IM_un g10 g1 w ⟨by omega, by omega, fun j => by omega, fun j => by omega⟩, MS_un g11 w ⟨by omega, by omega, by omega, by omega⟩, (fun k hk => RUk_un (g12 k hk) hk g1 w ⟨by omega, by omega, by omega, fun r j a _ _ => by omega, fun j _ _ => by omega⟩), rm_mono (rm_un g13 w (fun j => by omega)) (by omega)⟩⟩
    · have n0 : ¬ nI m < 1 := nI_nlt (b := 1) m1 (by omega)
      have e65 : gR σ1 6 5 = some P := by rw [c3.r (by omega) (by omega) (by omega) (by omega)]; exact h65
      rw [q_X11_days, if_neg n0, if_pos q.2, tg_6 hS, if_pos rfl, h65, zeR_e, tg_P hS hP, if_pos rfl, gR_P_4 hS hP, zeR_e, tg_P5 hS hP, if_pos rfl, c1, zbV_e, tg_6 c2, if_pos rfl, e65, zeR_e, tg_P c2 hP, if_pos rfl, gR_P_4 c2 hP, zeR_e, tg_P5 c2 hP, if_pos rfl, q_X9_day, tg_P5 c2 hP, if_pos rfl, c4.1, zbI_e]
    · rw [q_X12_days, hr, if_pos q, zbI_e, if_neg (by decide), tg_176 c2, if_pos rfl, if_pos rfl, f82, nI_add, zlt_e, r1]
    · rw [cf _ _ (by omega) (by omega) (.inr (by rw [tg_P6 c2 hP]; omega)), c4.2.2.2 j (by omega), r6 j (by omega)]
      show gI σ (P + 6) j + _ = _
      rw [h10 j hj]
    · rw [cf _ _ (by omega) (by omega) (.inl (by omega))]; exact c4.1
    · rw [r3.i (by omega) (by omega) (by omega) (by omega), gI_sI, if_pos ⟨rfl, rfl⟩]
    · rw [cf _ _ (by omega) (by omega) (.inl (by omega)), c4.2.1, fC_cnt]
    · have bd := f_bd (N := 20 * N) (L := cm) (D := day + m) (a := a) (d := d) (fun i hi => ⟨(d5 i hi).1, by have := (d5 i hi).2.2; omega⟩) cm (Nat.le_refl _) k hk
      exact ⟨bd.1, bd.2.1, bd.2.2, (r5 k hk).1, (r5 k hk).2⟩
    · rw [cf _ _ (by omega) (by omega) (.inr (by rw [tg_P7 c2 hP]; omega)), c4.2.2.1 w' hw l hl, f_cnt]
  · refine Al_rd h (-1) ?_ ?_
    · rw [q_X11_days]
      by_cases q1 : x < 1
      · rw [if_pos q1]
      · rw [if_neg q1, if_neg (fun z => q ⟨Int32.not_lt.mp q1, z⟩)]
    · rw [q_X12_days, hr, if_neg q, zbI_e, if_pos rfl]
end
