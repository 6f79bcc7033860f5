/-! back: what both learn -/
def lnF (pl f g : Nat → Nat) (w b o d : Nat) : Nat := if 0 < wall pl f g w b o then crt (fun i => 10000 * wrow pl f g w b o i / wall pl f g w b o) 5 d else f d
def lnG (pl f g : Nat → Nat) (w b o r : Nat) : Nat := if 0 < wall pl f g w b o then crt (fun i => 10000 * wcol pl f g w b o i / wall pl f g w b o) 3 r else g r
section
variable {σ σ' σ1 σ2 : zS} {pl f g : Nat → Nat} {P w b e y o d r p k so z : Nat}
theorem lnF_sum (hf : f 0 + f 1 + f 2 + f 3 + f 4 = 10000) : lnF pl f g w b o 0 + lnF pl f g w b o 1 + lnF pl f g w b o 2 + lnF pl f g w b o 3 + lnF pl f g w b o 4 = 10000 := by
  unfold lnF
  by_cases q : 0 < wall pl f g w b o
  · simp only [if_pos q]
    have sr : smN (fun i => 10000 * wrow pl f g w b o i / wall pl f g w b o) 5 ≤ 10000 := smN_cert (wrow pl f g w b o) (n := 5) q
    have := smN_crt (n := 5) (by omega) sr
    simp only [smN] at this
    omega
  · simp only [if_neg q]
    exact hf
theorem lnG_sum (hg : g 0 + g 1 + g 2 = 10000) : lnG pl f g w b o 0 + lnG pl f g w b o 1 + lnG pl f g w b o 2 = 10000 := by
  unfold lnG
  by_cases q : 0 < wall pl f g w b o
  · simp only [if_pos q]
    have sc : smN (fun i => 10000 * wcol pl f g w b o i / wall pl f g w b o) 3 ≤ 10000 := by
      have := smN_cert (wcol pl f g w b o) (n := 3) (by rw [wcol_all]; exact q)
      rw [wcol_all] at this
      exact this
    have := smN_crt (n := 3) (by omega) sc
    simp only [smN] at this
    omega
  · simp only [if_neg q]
    exact hg
theorem c_lfb (hS : Sh σ) (hP : HP P) (h65 : gR σ 6 5 = some P) (hp : p < 20) (hk : k < 8) (hso : so < 4) (hc : CW σ P p k so pl f g w) (hf : f 0 + f 1 + f 2 + f 3 + f 4 = 10000) (hg : g 0 + g 1 + g 2 = 10000) (h5 : gI σ (116 + 3 * p) 5 = nI k) (h6 : gI σ (116 + 3 * p) 6 = nI b) (h1 : 1 ≤ b) (hb : b < 32) (ho : o ≤ 5) : ∃ σ', zM 160 [.ref 6, .int (nI p), .int (nI o)] σ = some (some (.int (bI (decide (0 < wall pl f g w b o)))), σ') ∧ Sh σ' ∧ Un (fun r _ => (105 ≤ r ∧ r < 110) ∨ r = 117 + 3 * p ∨ r = P + 9 + 2 * k) σ σ' ∧ (∀ d, d < 5 → gI σ' (117 + 3 * p) d = nI (lnF pl f g w b o d)) ∧ (∀ r, r < 3 → gI σ' (P + 9 + 2 * k) r = nI (lnG pl f g w b o r)) ∧ (¬ 0 < wall pl f g w b o → Un (fun r _ => 105 ≤ r ∧ r < 110) σ σ') := by
  have hbb := HPb hP
  have wl : wall pl f g w b o ≤ 1000000000000 := wall_le (fun d hd => (hc.1 d hd).1) hf hg
  obtain ⟨s1, a1, a2, a3, a4, a5⟩ := c_xw hS hP h65 hp hk hso hc h1 hb ho
  have ap := ai_nI (σ := σ) (t := 69) (u := 69) (.inl (tg_104 hS)) (ln_104 hS) hp (by omega)
  have u1 : Un (fun r _ => (105 ≤ r ∧ r < 110)) σ s1 := by
    have hke : Un (fun r _ => r = 105 ∨ r = 106 ∨ r = 107) σ s1 := by
      obtain ⟨s2, b1, b2, b3, -⟩ := c_weigh (A := 117 + 3 * p) (R := P + 9 + 2 * k) (pon_sh (P := P) (w := w) hS) hP (pon_sc hP hc.1) h1 hb ho (tg_pfeet (pon_sh hS) hp) (ln_pfeet (pon_sh hS) hp) (tg_Pruns (pon_sh hS) hP hk) (ln_Pruns (pon_sh hS) hP hk) (CW_xs hc hP hp hk hso (pon_un (σ := σ) (P := P) (w := w))).2.2.2.2.1 (CW_xs hc hP hp hk hso (pon_un (σ := σ) (P := P) (w := w))).2.2.2.2.2
      have e65 : gR (pon σ P w) 6 5 = some P := by
        rw [(pon_un (σ := σ) (P := P) (w := w)).r (by omega) (by omega) (by omega) (nX_st (by omega))]; exact h65
      have hS1 : Sh (pon σ P w) := pon_sh hS
      have a1' : zM 141 [.ref 6, .int (nI p), .int (nI k), .int (nI b), .int (nI o)] σ = some (some (.long (lN (wall pl f g w b o))), s2) := by
        rw [q_X11_weigh, tg_6 hS, if_pos rfl, gR_6_9 hS, zeR_e, if_pos ap, ixn (by omega), gR_people hS hp, zeR_e, if_pos rfl, gR_6_13 hS, zeR_e, if_pos rfl, h65, zeR_e, tg_P hS hP, if_pos rfl, gR_P_3 hS hP, zeR_e, if_pos rfl, c_sortOf hS hP h65 hp hso hc.2.1, zbR_e, tg_Psort hS hP hso, if_pos rfl, tg_105 hS, if_pos rfl, hc.2.2.1, c_putOn hS hc.2.2.2.1, zbV_e, q_X11_weigh_15, tg_6 hS1, if_pos rfl, gR_6_13 hS1, zeR_e, tg_person hS1 hp, if_pos rfl, gR_pfeet hS1 hp, zeR_e, if_pos rfl, e65, zeR_e, tg_P hS1 hP, if_pos rfl, gR_P_0 hS1 hP, zeR_e, if_pos (ai_nI (.inl (tg_P1 hS1 hP)) (ln_P1 hS1 hP) hk (by omega)), ixn (by omega), gR_Plast hS1 hP hk, zeR_e, tg_Plast hS1 hP hk, if_pos rfl, gR_Pruns hS1 hP hk, zeR_e, tg_105 hS1, if_pos rfl, b1, zbL_e]
      rw [a1'] at a1
      have es : s2 = s1 := by injection a1 with a1; injection a1
      subst es
      exact ((Un_sR (.inl rfl)).trans (Un_sI (.inl rfl))).trans (b2.un.mono (fun r j _ _ q => .inr q))
    exact hke.mono (fun r j _ _ q => by omega)
  have h5' : gI s1 (116 + 3 * p) 5 = nI k := by rw [u1.i (by omega) (by omega) (by omega) (by omega)]; exact h5
  have f1 : ∀ d, d < 5 → gI s1 (117 + 3 * p) d = nI (f d) := fun d hd => by rw [u1.i (by omega) (by omega) (by omega) (by omega)]; exact (hc.2.2.2.2.1 d hd).2
  have g1 : ∀ r, r < 3 → gI s1 (P + 9 + 2 * k) r = nI (g r) := fun r hr => by rw [u1.i (by omega) (by omega) (by omega) (by omega)]; exact (hc.2.2.2.2.2 r hr).2
  have e65 : gR s1 6 5 = some P := by rw [u1.r (by omega) (by omega) (by omega) (by omega)]; exact h65
  have go : zM 160 [.ref 6, .int (nI p), .int (nI o)] σ = if 0 < lg_cmp (lN (wall pl f g w b o)) 0 then (if tg s1 6 = 12 then zeR none (gR s1 6 13) (fun q4 => if tg s1 q4 = 8 then zeR none (gR s1 q4 0) (fun q5 => if tg s1 (116 + 3 * p) = 5 then zeR none (gR s1 (116 + 3 * p) 2) (fun q6 => zbV (zM 76 [.ref q5, .ref q6] s1) (fun σ7 => zR 6 160 24 [some (.ref 6), some (.int (nI p)), some (.int (nI o)), some (.ref (116 + 3 * p))] [] σ7)) else none) else none) else none) else (some (some (.int 0), s1)) := by
    rw [q_X11_learnFromBox, tg_6 hS, if_pos rfl, gR_6_9 hS, zeR_e, if_pos ap, ixn (by omega), gR_people hS hp, zeR_e, tg_person hS hp, if_pos rfl, if_pos rfl, if_pos rfl, h5, h6, a1, zbL_e]
  by_cases q0 : 0 < wall pl f g w b o
  · obtain ⟨s2, b1, b2, b3, b4, b5⟩ := c_learn (W := 106) (A := 117 + 3 * p) (n := 5) (v := wrow pl f g w b o) a2 (by omega) (tg_106 a2) (ln_106 a2) (tg_pfeet a2 hp) (ln_pfeet a2 hp) (by omega) a4 q0 wl
    have h5'' : gI s2 (116 + 3 * p) 5 = nI k := by rw [b3.i (by omega) (by omega) (by omega) (by omega)]; exact h5'
    have e65' : gR s2 6 5 = some P := by rw [b3.r (by omega) (by omega) (by omega) (by omega)]; exact e65
    obtain ⟨s3, c1, c2, c3, c4, c5⟩ := c_learn (W := 107) (A := P + 9 + 2 * k) (n := 3) (v := wcol pl f g w b o) b2 (by omega) (tg_107 b2) (ln_107 b2) (tg_Pruns b2 hP hk) (ln_Pruns b2 hP hk) (by omega) (fun r hr => by rw [b4]; exact a5 r hr) (by rw [wcol_all]; exact q0) (by rw [wcol_all]; exact wl)
    rw [wcol_all] at c5
    refine ⟨s3, ?_, c2, (u1.mono (fun r j _ _ q => .inl q)).trans ((b3.mono (fun r j _ _ q => .inr (.inl q.1))).trans (c3.mono (fun r j _ _ q => .inr (.inr q.1)))), fun d hd => ?_, fun r hr => ?_, fun q => absurd q0 q⟩
    · rw [go, if_pos (by rw [l_pos (by omega)]; exact q0), tg_6 a2, if_pos rfl, gR_6_13 a2, zeR_e, tg_105 a2, if_pos rfl, gR_105_0 a2, zeR_e, tg_person a2 hp, if_pos rfl, gR_pfeet a2 hp, zeR_e, b1, zbV_e, q_X11_learnFromBox_24, tg_6 b2, if_pos rfl, gR_6_13 b2, zeR_e, tg_105 b2, if_pos rfl, gR_105_1 b2, zeR_e, if_pos rfl, e65', zeR_e, tg_P b2 hP, if_pos rfl, gR_P_0 b2 hP, zeR_e, tg_person b2 hp, if_pos rfl, h5'', if_pos (ai_nI (.inl (tg_P1 b2 hP)) (ln_P1 b2 hP) hk (by omega)), ixn (by omega), gR_Plast b2 hP hk, zeR_e, tg_Plast b2 hP hk, if_pos rfl, gR_Pruns b2 hP hk, zeR_e, c1, zbV_e, decide_eq_true q0]
      rfl
    · rw [c3.i (by omega) (by omega) (by omega) (by omega), b5 d hd]
      unfold lnF
      rw [if_pos q0]
      rfl
    · rw [c5 r hr]
      unfold lnG
      rw [if_pos q0]
  · refine ⟨s1, ?_, a2, u1.mono (fun r j _ _ q => .inl q), fun d hd => ?_, fun r hr => ?_, fun _ => u1⟩
    · rw [go, if_neg (by rw [l_pos (by omega)]; exact q0), decide_eq_false q0]
      rfl
    · rw [f1 d hd]
      unfold lnF
      rw [if_neg q0]
    · rw [g1 r hr]
      unfold lnG
      rw [if_neg q0]
theorem r_learns (hS : Sh σ) (hp : p < 20) (hk : k < 8) (hso : so < 4) (h : RW σ p k so pl f g w) (hf : f 0 + f 1 + f 2 + f 3 + f 4 = 10000) (hg : g 0 + g 1 + g 2 = 10000) (h1 : 1 ≤ b) (hb : b < 32) (ho : o ≤ 5) (h0 : 0 < wall pl f g w b o) : ∃ σ', zM 281 [.ref 176, .int (nI p), .int (nI k), .int (nI b), .int (nI o)] σ = some (none, σ') ∧ Sh σ' ∧ Un (fun r j => (246 ≤ r ∧ r ≤ 250) ∨ (r = 234 ∧ 5 * p ≤ j ∧ j < 5 * p + 5) ∨ (r = 235 ∧ 3 * k ≤ j ∧ j < 3 * k + 3)) σ σ' ∧ (∀ d, d < 5 → gI σ' 234 (5 * p + d) = nI (lnF pl f g w b o d)) ∧ ∀ r, r < 3 → gI σ' 235 (3 * k + r) = nI (lnG pl f g w b o r) := by
  obtain ⟨s1, a1, a2, a3, a4, a5⟩ := r_would hS hp hk hso h hf hg h1 hb ho h0
  obtain ⟨s2, e2, b1, b2, b3⟩ := lp_run (F := fun i (s : zS) => zR 7 281 8 [some (.ref 176), some (.int (nI p)), some (.int (nI k)), some (.int (nI b)), some (.int (nI o)), some (.int (nI i))] [] s) (fun i s => Sh s ∧ Un (fun r j => r = 234 ∧ 5 * p ≤ j ∧ j < 5 * p + 5) s1 s ∧ ∀ d, d < i → gI s 234 (5 * p + d) = nI (lnF pl f g w b o d)) 5 (by
    rintro i s hi ⟨k1, k2, k3⟩
    have gi : gI s 249 i = nI (lnF pl f g w b o i) := by
      rw [k2.i (by omega) (by omega) (by omega) (by omega), a4 i hi]
      unfold lnF
      rw [if_pos h0]
    refine ⟨sI s 234 (5 * p + i) (nI (lnF pl f g w b o i)), ?_, k1.sI (by omega), k2.trans (Un_sI (by omega)), fun d hd => ?_⟩
    · rw [q_X12_learns_8, if_neg (show ¬ (5 : Int32) ≤ nI i from nI_ge (b := 5) hi (by omega)), tg_176 k1, if_pos rfl, gR_176_73 k1, zeR_e, if_pos rfl, gR_176_92 k1, zeR_e, if_pos (ai_nI (.inl (tg_249 k1)) (ln_249 k1) hi (by omega)), nI_mulL 5 p, nI_add, if_pos (ai_nI (.inl (tg_234 k1)) (ln_234 k1) (show 5 * p + i < 100 by omega) (by omega)), zlt_e, ixn (by omega), ixn (by omega), gi, nI_1]
    · rw [gI_sI]
      by_cases q : d = i
      · subst q; rw [if_pos ⟨rfl, rfl⟩]
      · rw [if_neg (by omega)]; exact k3 d (by omega)) s1 ⟨a2, Un.refl _ _, fun d hd => by omega⟩
  obtain ⟨s3, e3, c1, c2, c3⟩ := lp_run (F := fun i (s : zS) => zR 7 281 27 [some (.ref 176), some (.int (nI p)), some (.int (nI k)), some (.int (nI b)), some (.int (nI o)), some (.int (nI i))] [] s) (fun i s => Sh s ∧ Un (fun r j => r = 235 ∧ 3 * k ≤ j ∧ j < 3 * k + 3) s2 s ∧ ∀ d, d < i → gI s 235 (3 * k + d) = nI (lnG pl f g w b o d)) 3 (by
    rintro i s hi ⟨k1, k2, k3⟩
    have gi : gI s 250 i = nI (lnG pl f g w b o i) := by
      rw [k2.i (by omega) (by omega) (by omega) (by omega), b2.i (by omega) (by omega) (by omega) (by omega), a5 i hi]
      unfold lnG
      rw [if_pos h0]
    refine ⟨sI s 235 (3 * k + i) (nI (lnG pl f g w b o i)), ?_, k1.sI (by omega), k2.trans (Un_sI (by omega)), fun d hd => ?_⟩
    · rw [q_X12_learns_27, if_neg (show ¬ (3 : Int32) ≤ nI i from nI_ge (b := 3) hi (by omega)), tg_176 k1, if_pos rfl, gR_176_74 k1, zeR_e, if_pos rfl, gR_176_93 k1, zeR_e, if_pos (ai_nI (.inl (tg_250 k1)) (ln_250 k1) hi (by omega)), nI_mulL 3 k, nI_add, if_pos (ai_nI (.inl (tg_235 k1)) (ln_235 k1) (show 3 * k + i < 24 by omega) (by omega)), zlt_e, ixn (by omega), ixn (by omega), gi, nI_1]
    · rw [gI_sI]
      by_cases q : d = i
      · subst q; rw [if_pos ⟨rfl, rfl⟩]
      · rw [if_neg (by omega)]; exact k3 d (by omega)) s2 ⟨b1, Un.refl _ _, fun d hd => by omega⟩
  refine ⟨s3, ?_, c1, (a3.mono (fun r j _ _ q => .inl q)).trans ((b2.mono (fun r j _ _ q => .inr (.inl q))).trans (c2.mono (fun r j _ _ q => .inr (.inr q)))), fun d hd => ?_, c3⟩
  · rw [q_X12_learns, tg_176 hS, if_pos rfl, a1, zbV_e]
    refine Eq.trans e2 ?_
    rw [q_X12_learns_8, if_pos (show (5 : Int32) ≤ nI 5 by decide)]
    refine Eq.trans e3 ?_
    rw [q_X12_learns_27, if_pos (show (3 : Int32) ≤ nI 3 by decide)]
  · rw [c2.i (by omega) (by omega) (by omega) (by omega)]; exact b3 d hd
end
