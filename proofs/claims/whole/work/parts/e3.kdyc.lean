/-! days: the class -/
/-- what the class has at day t, of what was on its way -/
def DC (σ : zS) (P t cm : Nat) (s : Nat → Int32) (a d : Nat → Nat) : Prop := gI σ (P + 5) 3 = nI t ∧ gI σ (P + 5) 2 = nI (cnt (fun i => decide (t < d i)) cm) ∧ (∀ w, w < 7 → ∀ l, l < 160 → gI σ (P + 7) (160 * w + l) = nI (cnt (fun i => decide (t < d i ∧ a i = l ∧ d i % 7 = w)) cm)) ∧ ∀ l, l < 160 → gI σ (P + 6) l = s l + nI (cnt (fun i => decide (d i ≤ t ∧ a i = l)) cm)
section
variable {σ σ' σ1 σ2 : zS} {s : Nat → Int32} {a d : Nat → Nat} {P N b e y o r p k so z cm day c w l n t i m : Nat}
theorem c_receive (hS : Sh σ) (hP : HP P) (hw : w < 7) (X : Nat → Nat) (C : Nat) (hX : smN X 160 ≤ C) (hC : C < 2 ^ 31) (h2 : gI σ (P + 5) 2 = nI C) (h7 : ∀ l, l < 160 → gI σ (P + 7) (160 * w + l) = nI (X l)) : ∃ σ', zM 90 [.ref (P + 5), .int (nI (160 * w))] σ = some (none, σ') ∧ Sh σ' ∧ Un (fun r j => (r = P + 5 ∧ j = 2) ∨ (r = P + 6 ∧ j < 160) ∨ (r = P + 7 ∧ 160 * w ≤ j ∧ j < 160 * w + 160)) σ σ' ∧ gI σ' (P + 5) 2 = nI (C - smN X 160) ∧ (∀ l, l < 160 → gI σ' (P + 7) (160 * w + l) = 0) ∧ ∀ l, l < 160 → gI σ' (P + 6) l = gI σ (P + 6) l + nI (X l) := by
  have hbb := HPb hP
  obtain ⟨s1, e1, k1, k2, k3, k4, k5, k6⟩ := lp_run (F := fun i (g : zS) => zR 1 90 2 [some (.ref (P + 5)), some (.int (nI (160 * w))), some (.int (nI i))] [] g) (fun i g => Sh g ∧ Un (fun r j => (r = P + 5 ∧ j = 2) ∨ (r = P + 6 ∧ j < 160) ∨ (r = P + 7 ∧ 160 * w ≤ j ∧ j < 160 * w + 160)) σ g ∧ gI g (P + 5) 2 = nI (C - smN X i) ∧ (∀ l, l < i → gI g (P + 7) (160 * w + l) = 0) ∧ (∀ l, i ≤ l → l < 160 → gI g (P + 7) (160 * w + l) = nI (X l)) ∧ ∀ l, l < 160 → gI g (P + 6) l = if l < i then gI σ (P + 6) l + nI (X l) else gI σ (P + 6) l) 160 (by
    rintro i g hi ⟨k1, k2, k3, k4, k5, k6⟩
    have sl := smN_le X 160 (i + 1) (by omega)
    have ss : smN X (i + 1) = smN X i + X i := rfl
    have c6 := k6 i hi
    rw [if_neg (by omega)] at c6
    have c7 := k5 i (Nat.le_refl _) hi
    have a6 := ai_nI (σ := g) (t := 32) (u := 48) (.inl (tg_P6 k1 hP)) (ln_P6 k1 hP) hi (by omega)
    have a6' := ai_nI (σ := g) (t := 32) (u := 32) (.inl (tg_P6 k1 hP)) (ln_P6 k1 hP) hi (by omega)
    have a7 := ai_nI (σ := g) (t := 32) (u := 48) (.inl (tg_P7 k1 hP)) (ln_P7 k1 hP) (show 160 * w + i < 1120 by omega) (by omega)
    have S2 : Sh (sI g (P + 6) i (gI σ (P + 6) i + nI (X i))) := k1.sI (by omega)
    have S3 : Sh (sI (sI g (P + 6) i (gI σ (P + 6) i + nI (X i))) (P + 5) 2 (nI (C - smN X (i + 1)))) := S2.sI (by omega)
    have g7 : gI (sI g (P + 6) i (gI σ (P + 6) i + nI (X i))) (P + 7) (160 * w + i) = nI (X i) := by rw [gI_sI, if_neg (by omega)]; exact c7
    have g2 : gI (sI g (P + 6) i (gI σ (P + 6) i + nI (X i))) (P + 5) 2 = nI (C - smN X i) := by rw [gI_sI, if_neg (by omega)]; exact k3
    refine ⟨sI (sI (sI g (P + 6) i (gI σ (P + 6) i + nI (X i))) (P + 5) 2 (nI (C - smN X (i + 1)))) (P + 7) (160 * w + i) 0, ?_, S3.sI (by omega), k2.trans ((Un_sI (by omega)).trans ((Un_sI (by omega)).trans (Un_sI (by omega)))), ?_, fun l hl => ?_, fun l hl1 hl2 => ?_, fun l hl => ?_⟩
    · rw [q_X9_receive_2, if_neg (show ¬ (160 : Int32) ≤ nI i from nI_ge (b := 160) hi (by omega)), tg_P5 k1 hP, if_pos rfl, gR_P5_0 k1 hP, zeR_e, if_pos a6, if_pos rfl, gR_P5_1 k1 hP, zeR_e, nI_add, if_pos a7, if_pos a6', zlt_e, ixn (show i < 2 ^ 31 by omega), ixn (show 160 * w + i < 2 ^ 31 by omega), c6, c7, tg_P5 S2 hP, if_pos rfl, if_pos rfl, gR_P5_1 S2 hP, zeR_e, if_pos (ai_nI (.inl (tg_P7 S2 hP)) (ln_P7 S2 hP) (show 160 * w + i < 1120 by omega) (by omega)), if_pos rfl, zlt_e, g7, g2, pk_sub (by omega), show C - smN X i - X i = C - smN X (i + 1) by omega, tg_P5 S3 hP, if_pos rfl, gR_P5_1 S3 hP, zeR_e, if_pos (ai_nI (.inl (tg_P7 S3 hP)) (ln_P7 S3 hP) (show 160 * w + i < 1120 by omega) (by omega)), zlt_e, nI_1]
    · rw [gI_sI, if_neg (by omega), gI_sI, if_pos ⟨rfl, rfl⟩]
    · rw [gI_sI]
      by_cases q : l = i
      · rw [if_pos ⟨rfl, by rw [q]⟩]
      · rw [if_neg (by omega), gI_sI, if_neg (by omega), gI_sI, if_neg (by omega)]; exact k4 l (by omega)
    · rw [gI_sI, if_neg (by omega), gI_sI, if_neg (by omega), gI_sI, if_neg (by omega)]; exact k5 l (by omega) hl2
    · rw [gI_sI, if_neg (by omega), gI_sI, if_neg (by omega), gI_sI]
      by_cases q : l = i
      · subst q
        rw [if_pos ⟨rfl, rfl⟩, if_pos (by omega)]
      · rw [if_neg (fun x => q x.2), k6 l hl]
        by_cases q2 : l < i
        · rw [if_pos q2, if_pos (by omega)]
        · rw [if_neg q2, if_neg (by omega)]) σ ⟨hS, Un.refl _ _, h2, fun l hl => by omega, fun l _ hl => h7 l hl, fun l hl => by rw [if_neg (by omega)]⟩
  refine ⟨s1, ?_, k1, k2, k3, k4, fun l hl => by have := k6 l hl; rw [if_pos hl] at this; exact this⟩
  rw [q_X9_receive]
  refine Eq.trans e1 ?_
  rw [q_X9_receive_2, if_pos (show (160 : Int32) ≤ nI 160 by decide)]
theorem c_pass (hS : Sh σ) (hP : HP P) (hcm : cm < 2 ^ 30) (hday : day < 2 ^ 29) (hm : m ≤ 100) (hb : ∀ i, i < cm → a i < 160 ∧ d i ≤ day + 7) (h : DC σ P day cm s a d) : ∃ σ', zM 89 [.ref (P + 5), .int (nI m)] σ = some (none, σ') ∧ Sh σ' ∧ Un (fun r j => (r = P + 5 ∧ (j = 2 ∨ j = 3)) ∨ (r = P + 6 ∧ j < 160) ∨ r = P + 7) σ σ' ∧ DC σ' P (day + m) cm s a d := by
  have hbb := HPb hP
  obtain ⟨s1, e1, k1, k2, k3⟩ := lp_run (F := fun i (g : zS) => zR 2 89 2 [some (.ref (P + 5)), some (.int (nI m)), some (.int (nI i))] [] g) (fun i g => Sh g ∧ Un (fun r j => (r = P + 5 ∧ (j = 2 ∨ j = 3)) ∨ (r = P + 6 ∧ j < 160) ∨ r = P + 7) σ g ∧ DC g P (day + i) cm s a d) m (by
    rintro i g hi ⟨k1, k2, k3, k4, k5, k6⟩
    have S2 : Sh (sI g (P + 5) 3 (nI (day + (i + 1)))) := k1.sI (by omega)
    have u2 : Un (fun r j => (r = P + 5 ∧ (j = 2 ∨ j = 3)) ∨ (r = P + 6 ∧ j < 160) ∨ r = P + 7) g (sI g (P + 5) 3 (nI (day + (i + 1)))) := Un_sI (by omega)
    have g2 : gI (sI g (P + 5) 3 (nI (day + (i + 1)))) (P + 5) 2 = nI (cnt (fun j => decide (day + i < d j)) cm) := by rw [gI_sI, if_neg (by omega)]; exact k4
    have g3 : gI (sI g (P + 5) 3 (nI (day + (i + 1)))) (P + 5) 3 = nI (day + (i + 1)) := by rw [gI_sI, if_pos ⟨rfl, rfl⟩]
    have cl := cnt_le (p := fun j => decide (day + i < d j)) cm
    have st : zR 2 89 2 [some (.ref (P + 5)), some (.int (nI m)), some (.int (nI i))] [] g = if nI (cnt (fun j => decide (day + i < d j)) cm) ≤ 0 then (zR 2 89 2 [some (.ref (P + 5)), some (.int (nI m)), some (.int (nI (i + 1)))] [] (sI g (P + 5) 3 (nI (day + (i + 1))))) else zbV (zM 90 [.ref (P + 5), .int (nI (160 * ((day + (i + 1)) % 7)))] (sI g (P + 5) 3 (nI (day + (i + 1))))) (fun σ3 => zR 2 89 2 [some (.ref (P + 5)), some (.int (nI m)), some (.int (nI (i + 1)))] [] σ3) := by
      have e7 : nI ((day + (i + 1)) % 7) * 160 = nI (160 * ((day + (i + 1)) % 7)) := by rw [nI_mulR 160, Nat.mul_comm]
      rw [q_X9_pass_2, if_neg (nI_ge hi (by omega)), tg_P5 k1 hP, if_pos rfl, if_pos rfl, zlt_e, k3, nI_1, Nat.add_assoc, tg_P5 S2 hP, if_pos rfl, g2]
      by_cases q : nI (cnt (fun j => decide (day + i < d j)) cm) ≤ 0
      · rw [if_pos q, if_pos q, nI_1]
      · rw [if_neg q, if_neg q, if_pos rfl, g3, j_fm (by omega), zbI_e, tg_P5 S2 hP, if_pos rfl, e7, nI_1]
    by_cases q : cnt (fun j => decide (day + i < d j)) cm = 0
    · have none := cnt_zero (p := fun j => day + i < d j) cm q
      refine ⟨sI g (P + 5) 3 (nI (day + (i + 1))), ?_, S2, k2.trans u2, g3, ?_, fun w hw l hl => ?_, fun l hl => ?_⟩
      · rw [st, if_pos (by rw [q]; decide)]
      · rw [g2, q, cnt_none (p := fun j => day + (i + 1) < d j) cm (fun j hj x => none j hj (by omega))]
      · rw [gI_sI, if_neg (by omega), k5 w hw l hl]
        congr 1
        exact cnt_iff (p := fun j => day + i < d j ∧ a j = l ∧ d j % 7 = w) (q := fun j => day + (i + 1) < d j ∧ a j = l ∧ d j % 7 = w) cm (fun j hj => ⟨fun x => absurd x.1 (none j hj), fun x => absurd (show day + i < d j by omega) (none j hj)⟩)
      · rw [gI_sI, if_neg (by omega), k6 l hl]
        congr 2
        exact cnt_iff (p := fun j => d j ≤ day + i ∧ a j = l) (q := fun j => d j ≤ day + (i + 1) ∧ a j = l) cm (fun j hj => by
          have := none j hj
          omega)
    · have hw7 := Nat.mod_lt (day + (i + 1)) (show 0 < 7 by omega)
      have wd : ∀ j, j < cm → day + i < d j → d j ≤ day + i + 7 := fun j hj _ => by have := (hb j hj).2; omega
      have sx := cnt_pl (a := a) (p := fun j => day + i < d j ∧ d j % 7 = (day + (i + 1)) % 7) cm 160
      have sx2 : cnt (fun j => decide ((day + i < d j ∧ d j % 7 = (day + (i + 1)) % 7) ∧ a j < 160)) cm = cnt (fun j => decide (d j = day + (i + 1))) cm := cnt_iff (p := fun j => (day + i < d j ∧ d j % 7 = (day + (i + 1)) % 7) ∧ a j < 160) (q := fun j => d j = day + (i + 1)) cm (fun j hj => by
        have := hb j hj
        omega)
      have sp : cnt (fun j => decide (day + i < d j)) cm = cnt (fun j => decide (d j = day + (i + 1))) cm + cnt (fun j => decide (day + (i + 1) < d j)) cm := cnt_add (p := fun j => d j = day + (i + 1)) (q := fun j => day + (i + 1) < d j) (r := fun j => day + i < d j) cm (fun j _ => by omega)
      obtain ⟨g', r1, r2, r3, r4, r5, r6⟩ := c_receive (w := (day + (i + 1)) % 7) S2 hP hw7 (fun l => cnt (fun j => decide ((day + i < d j ∧ d j % 7 = (day + (i + 1)) % 7) ∧ a j = l)) cm) (cnt (fun j => decide (day + i < d j)) cm) (by rw [sx, sx2]; omega) (by omega) g2 (fun l hl => by
        rw [gI_sI, if_neg (by omega), k5 _ hw7 l hl]
        congr 1
        exact cnt_iff (p := fun j => day + i < d j ∧ a j = l ∧ d j % 7 = (day + (i + 1)) % 7) (q := fun j => (day + i < d j ∧ d j % 7 = (day + (i + 1)) % 7) ∧ a j = l) cm (fun j _ => ⟨fun x => ⟨⟨x.1, x.2.2⟩, x.2.1⟩, fun x => ⟨x.1.1, x.2, x.1.2⟩⟩))
      refine ⟨g', ?_, r2, (k2.trans u2).trans (r3.mono (fun r j _ _ x => by omega)), ?_, ?_, fun w hw l hl => ?_, fun l hl => ?_⟩
      · rw [st, if_neg (nI_nle (by omega) (by omega)), r1, zbV_e]
      · rw [r3.i (by omega) (by omega) (by omega) (by omega)]; exact g3
      · rw [r4, sx, sx2]
        congr 1
        omega
      · by_cases qw : w = (day + (i + 1)) % 7
        · rw [qw, r5 l hl, cnt_none (p := fun j => day + (i + 1) < d j ∧ a j = l ∧ d j % 7 = (day + (i + 1)) % 7) cm (fun j hj x => by have := (hb j hj).2; omega)]
          rfl
        · rw [r3.iA (by omega) (by omega) (by rw [tg_P7 S2 hP]; omega) (by omega), gI_sI, if_neg (by omega), k5 w hw l hl]
          congr 1
          exact cnt_iff (p := fun j => day + i < d j ∧ a j = l ∧ d j % 7 = w) (q := fun j => day + (i + 1) < d j ∧ a j = l ∧ d j % 7 = w) cm (fun j hj => by
            constructor
            · rintro ⟨x1, x2, x3⟩
              refine ⟨?_, x2, x3⟩
              rcases Nat.lt_or_ge (day + (i + 1)) (d j) with y | y
              · exact y
              · have : d j = day + (i + 1) := by omega
                rw [this] at x3
                exact absurd x3.symm qw
            · rintro ⟨x1, x2, x3⟩
              exact ⟨by omega, x2, x3⟩)
      · rw [r6 l hl, gI_sI, if_neg (by omega), k6 l hl, Int32.add_assoc, nI_add]
        congr 2
        refine (cnt_add (p := fun j => d j ≤ day + i ∧ a j = l) (q := fun j => (day + i < d j ∧ d j % 7 = (day + (i + 1)) % 7) ∧ a j = l) (r := fun j => d j ≤ day + (i + 1) ∧ a j = l) cm (fun j hj => ?_)).symm
        have := (hb j hj).2
        constructor
        · constructor
          · rintro ⟨x1, x2⟩
            rcases Nat.lt_or_ge (day + i) (d j) with y | y
            · refine .inr ⟨⟨y, ?_⟩, x2⟩
              rw [show d j = day + (i + 1) by omega]
            · exact .inl ⟨y, x2⟩
          · rintro (⟨x1, x2⟩ | ⟨⟨x1, x2⟩, x3⟩)
            · exact ⟨by omega, x2⟩
            · exact ⟨by omega, x3⟩
        · rintro ⟨⟨x1, _⟩, ⟨x2, _⟩, _⟩
          omega) σ ⟨hS, Un.refl _ _, h⟩
  refine ⟨s1, ?_, k1, k2, k3⟩
  rw [q_X9_pass]
  refine Eq.trans e1 ?_
  rw [q_X9_pass_2, if_pos (nI_le (Nat.le_refl _) (by omega))]
end
