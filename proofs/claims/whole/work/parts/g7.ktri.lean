/-! a trial: what the class does -/
/-- what a trial brings: the best pair, or none -/
def trO (pl : Nat → Nat) (w b sd y : Nat) : Nat := if drv (drs sd) < kpg pl w b y then bpr pl b y 5 else 5
def XTc (P p k : Nat) (r j : Nat) : Prop := (105 ≤ r ∧ r < 110) ∨ r = P + 6 ∨ r = 117 + 3 * p ∨ r = P + 9 + 2 * k ∨ (r = 6 ∧ (j = 11 ∨ j = 12)) ∨ (r = P + 5 ∧ j = 2) ∨ r = P + 7 ∨ (r = 116 + 3 * p ∧ 3 ≤ j ∧ j ≤ 6) ∨ r = 118 + 3 * p
section
variable {σ σ' τ : zS} {s : Nat → Int32} {zf pl f g a d : Nat → Nat} {B P S N M K np c n p k so z b w x y sd day cm pr fa wi ch o : Nat} {t : Nat → Nat}
theorem trO_ok (b1 : 1 ≤ b) (b2 : b < 32) : trO pl w b sd y ≤ 5 ∧ (trO pl w b sd y = 5 ∨ b / 2 ^ trO pl w b sd y % 2 = 1) := by
  have h5 := bpr_in (pl := pl) (y := y) b1 b2
  unfold trO
  by_cases q : drv (drs sd) < kpg pl w b y
  · rw [if_pos q]
    exact ⟨by omega, .inr (bpr_bit 5 (by omega) (by omega))⟩
  · rw [if_neg q]
    exact ⟨by omega, .inl rfl⟩
theorem c_dout (hS : Sh σ) (hP : HP P) (h65 : gR σ 6 5 = some P) (hp : p < 20) (hk : k < 8) (hso : so < 4) (hc : CW σ P p k so pl f g w) (b1 : 1 ≤ b) (b2 : b < 32) (hF : gI σ (116 + 3 * p) 7 = nI x) (hx : x < 5) (hR : gI σ (P + 8 + 2 * k) 3 = nI y) (hy : y < 3) (hsd : sd < 2147483648) (hsl : gL σ 6 12 = lN sd) : ∃ σ', zM 182 [.ref 6, .ref (116 + 3 * p), .int (nI k), .int (nI b)] σ = some (some (.int (nI (trO pl w b sd (x + 2 - y)))), σ') ∧ Sh σ' ∧ Un (fun r j => r = 105 ∨ (r = 6 ∧ j = 12)) σ σ' ∧ gL σ' 6 12 = lN (drs sd) := by
  have hbb := HPb hP
  have hS1 : Sh (pon σ P w) := pon_sh hS
  have u1 : Un (fun r _ => r = 105) σ (pon σ P w) := Un.trans (σ1 := sR σ 105 3 (some (P + 4))) (Un_sR (by omega)) (Un_sI (r := 105) (j := 4) (v := nI (100 - w)) (by omega))
  have hsc := pon_sc (σ := σ) (w := w) hP hc.1
  have e65 : gR (pon σ P w) 6 5 = some P := by rw [u1.r (by omega) (by omega) (by omega) (by omega)]; exact h65
  have eF : gI (pon σ P w) (116 + 3 * p) 7 = nI x := by rw [u1.i (by omega) (by omega) (by omega) (by omega)]; exact hF
  have eR : gI (pon σ P w) (P + 8 + 2 * k) 3 = nI y := by rw [u1.i (by omega) (by omega) (by omega) (by omega)]; exact hR
  have eL : gL (pon σ P w) 6 12 = lN sd := by rw [u1.l (by omega) (by omega) (by omega) (by omega)]; exact hsl
  have hS2 : Sh (sL (pon σ P w) 6 12 (lN (drs sd))) := hS1.sL
  have hsc2 : SC (sL (pon σ P w) 6 12 (lN (drs sd))) P pl w := hsc
  have h5 := bpr_in (pl := pl) (y := x + 2 - y) b1 b2
  have kl : kpg pl w b (x + 2 - y) ≤ 10000 := kpg_le (fun d hd => (hc.1 d hd).1)
  have dl : drv (drs sd) < 10000 := Nat.mod_lt _ (by omega)
  have al := ai_nI (σ := pon σ P w) (t := 68) (u := 68) (.inl (tg_P1 hS1 hP)) (ln_P1 hS1 hP) hk (by omega)
  refine ⟨sL (pon σ P w) 6 12 (lN (drs sd)), ?_, hS2, (u1.mono (fun r j _ _ q => .inl q)).trans (Un_sL (.inr ⟨rfl, rfl⟩)), by rw [gL_sL, if_pos ⟨rfl, rfl⟩]⟩
  rw [q_X11_drawOutcome, tg_6 hS, if_pos rfl, gR_6_13 hS, zeR_e, if_pos rfl, h65, zeR_e, tg_P hS hP, if_pos rfl, gR_P_3 hS hP, zeR_e, if_pos rfl, c_sortOf hS hP h65 hp hso hc.2.1, zbR_e, tg_Psort hS hP hso, if_pos rfl, tg_105 hS, if_pos rfl, hc.2.2.1, c_putOn hS hc.2.2.2.1, zbV_e]
  rw [q_X11_drawOutcome_10, tg_person hS1 hp, if_pos rfl, tg_6 hS1, if_pos rfl, e65, zeR_e, tg_P hS1 hP, if_pos rfl, gR_P_0 hS1 hP, zeR_e, if_pos al, ixn (by omega), gR_Plast hS1 hP hk, zeR_e, tg_Plast hS1 hP hk, if_pos rfl, eF, eR, q_X7_gapOf, zbI_e, gp_nI hx hy, tg_6 hS1, if_pos rfl, gR_6_13 hS1, zeR_e, tg_105 hS1, if_pos rfl, c_bpr hS1 hP hsc b2 (by omega), zbI_e]
  rw [q_X11_drawOutcome_26, tg_6 hS1, if_pos rfl, c_dc hS1 hsd eL, zbI_e, tg_6 hS2, if_pos rfl, gR_6_13 hS2, zeR_e, tg_105 hS2, if_pos rfl, c_chance hS2 hP hsc2 h5 (by omega), zbI_e]
  show (if nI (kpg pl w b (x + 2 - y)) ≤ nI (drv (drs sd)) then _ else _) = _
  unfold trO
  by_cases q : drv (drs sd) < kpg pl w b (x + 2 - y)
  · rw [if_neg (nI_ge q (by omega)), if_pos q]
  · rw [if_pos (nI_le (by omega) (by omega)), if_neg q]
    rfl
theorem tr_c (hS : Sh σ) (hP : HP P) (h65 : gR σ 6 5 = some P) (hp : p < 20) (hk : k < 8) (hso : so < 4) (hc : CW σ P p k so pl f g w) (hf : f 0 + f 1 + f 2 + f 3 + f 4 = 10000) (hg : g 0 + g 1 + g 2 = 10000) (hm : CM σ P k pr fa wi) (hch : gI σ P 10 = nI ch) (h1 : gI σ (116 + 3 * p) 1 = nI z) (hz : 30 ≤ z ∧ z ≤ 49) (b1 : 1 ≤ b) (b2 : b < 32) (b3 : pc b ≤ 3) (bi : inz z b) (hs : ∀ j, j < 20 → gI σ (P + 6) (20 * k + j) = s j) (hd : day < 2 ^ 30) (dc : HDc σ P day cm a d) (hF : gI σ (116 + 3 * p) 7 = nI x) (hx : x < 5) (hR : gI σ (P + 8 + 2 * k) 3 = nI y) (hy : y < 3) (hsd : sd < 2147483648) (hsl : gL σ 6 12 = lN sd) (ho : o = trO pl w b sd (x + 2 - y)) (v : Int32) (u5 : Option Value) : ∃ σ', zbV (zM 158 [.ref 6, .ref (116 + 3 * p), .int (nI k), .int (nI b)] σ) (fun σ7 => zR 7 180 42 [some (.ref 6), some (.int (nI p)), some (.int (nI k)), some (.int v), some (.int (nI b)), u5] [] σ7) = some (some (.int (nI o)), σ') ∧ Sh σ' ∧ Un (XTc P p k) σ σ' ∧ (∀ j, j < 20 → gI σ' (P + 6) (20 * k + j) = chs z b (-1) s 5 j) ∧ (∀ j, ¬ (20 * k ≤ j ∧ j < 20 * k + 20) → gI σ' (P + 6) j = gI σ (P + 6) j) ∧ (∀ i, i < 5 → gI σ' (117 + 3 * p) i = nI (lnF pl f g w b o i)) ∧ (∀ r, r < 3 → gI σ' (P + 9 + 2 * k) r = nI (lnG pl f g w b o r)) ∧ gI σ' 6 11 = gI σ 6 11 + mon pr fa wi ch b o ∧ gL σ' 6 12 = lN (drs sd) ∧ HDc σ' P day (exC (bts b o) cm 5) (exA k z (bts b o) cm a 5) (exD day (bts b o) cm d 5) ∧ gI σ' (116 + 3 * p) 3 = gI σ (116 + 3 * p) 3 + 1 ∧ gI σ' (116 + 3 * p) 4 = (if o = 5 then gI σ (116 + 3 * p) 4 + 1 else gI σ (116 + 3 * p) 4) ∧ gI σ' (116 + 3 * p) 5 = -1 ∧ gI σ' (116 + 3 * p) 6 = 0 ∧ ∀ j, j < 40 → gI σ' (118 + 3 * p) j = if ¬ o = 5 ∧ j = 5 * k + o then gI σ (118 + 3 * p) j + 1 else gI σ (118 + 3 * p) j := by
  have hbb := HPb hP
  obtain ⟨ho5, hob⟩ := trO_ok (pl := pl) (w := w) (sd := sd) (y := x + 2 - y) b1 b2
  rw [← ho] at ho5 hob
  obtain ⟨s2, e1, e2, e3, e4, e5, e6⟩ := c_sendNow hS hP h65 hp hk h1 hz b2 bi hs
  have k2 : ∀ r j, (r = 6 ∨ r = P ∨ r = P + 5 ∨ (r = 116 + 3 * p ∧ ¬ j = 5 ∧ ¬ j = 6) ∨ r = P + 24 + 2 * so ∨ r = P + 8 + 2 * k) → j < 100 → gI s2 r j = gI σ r j := fun r j q hj => by
    rw [e3.i (by omega) (by omega) hj (by omega)]
  have k2A : ∀ r j, (r = P + 4 ∨ r = P + 7 ∨ r = 117 + 3 * p ∨ r = 118 + 3 * p ∨ r = P + 9 + 2 * k) → 32 ≤ tg σ r → gI s2 r j = gI σ r j := fun r j q ht => by
    rw [e3.iA (by omega) (by omega) ht (by omega)]
  have h65a : gR s2 6 5 = some P := by rw [e3.r (by omega) (by omega) (by omega) (by omega)]; exact h65
  have c2 : CW s2 P p k so pl f g w := by
    obtain ⟨y1, y2, y3, y4, y5, y6⟩ := hc
    refine ⟨fun i hi => ⟨(y1 i hi).1, ?_⟩, ?_, ?_, y4, fun i hi => ⟨(y5 i hi).1, ?_⟩, fun i hi => ⟨(y6 i hi).1, ?_⟩⟩
    · rw [k2A _ _ (by omega) (by rw [tg_P4 hS hP]; omega)]; exact (y1 i hi).2
    · rw [k2 _ _ (by omega) (by omega)]; exact y2
    · rw [k2 _ _ (by omega) (by omega)]; exact y3
    · rw [k2A _ _ (by omega) (by rw [tg_pfeet hS hp]; omega)]; exact (y5 i hi).2
    · rw [k2A _ _ (by omega) (by rw [tg_Pruns hS hP hk]; omega)]; exact (y6 i hi).2
  obtain ⟨s3, f1, f2, f3, f4⟩ := c_dout e2 hP h65a hp hk hso c2 b1 b2 (x := x) (y := y) (sd := sd) (by rw [k2 _ _ (by omega) (by omega)]; exact hF) hx (by rw [k2 _ _ (by omega) (by omega)]; exact hR) hy hsd (by rw [e3.l (by omega) (by omega) (by omega) (by omega)]; exact hsl)
  rw [← ho] at f1
  have h65b : gR s3 6 5 = some P := by rw [f3.r (by omega) (by omega) (by omega) (by omega)]; exact h65a
  have c3 : CW s3 P p k so pl f g w := by
    obtain ⟨y1, y2, y3, y4, y5, y6⟩ := c2
    refine ⟨fun i hi => ⟨(y1 i hi).1, ?_⟩, ?_, ?_, y4, fun i hi => ⟨(y5 i hi).1, ?_⟩, fun i hi => ⟨(y6 i hi).1, ?_⟩⟩
    · rw [f3.iA (by omega) (by omega) (by rw [tg_P4 e2 hP]; omega) (by omega)]; exact (y1 i hi).2
    · rw [f3.i (by omega) (by omega) (by omega) (by omega)]; exact y2
    · rw [f3.i (by omega) (by omega) (by omega) (by omega)]; exact y3
    · rw [f3.iA (by omega) (by omega) (by rw [tg_pfeet e2 hp]; omega) (by omega)]; exact (y5 i hi).2
    · rw [f3.iA (by omega) (by omega) (by rw [tg_Pruns e2 hP hk]; omega) (by omega)]; exact (y6 i hi).2
  obtain ⟨s4, g1, g2, g3, g4, g5, -⟩ := c_lfb (o := o) f2 hP h65b hp hk hso c3 hf hg (by rw [f3.i (by omega) (by omega) (by omega) (by omega)]; exact e5) (by rw [f3.i (by omega) (by omega) (by omega) (by omega)]; exact e6) b1 b2 ho5
  have h65c : gR s4 6 5 = some P := by rw [g3.r (by omega) (by omega) (by omega) (by omega)]; exact h65b
  have k4 : ∀ r j, (r = P ∨ r = P + 5 ∨ r = 116 + 3 * p ∨ r = P + 8 + 2 * k) → j < 100 → gI s4 r j = gI s2 r j := fun r j q hj => by
    rw [g3.i (by omega) (by omega) hj (by omega), f3.i (by omega) (by omega) hj (by omega)]
  have hm4 : CM s4 P k pr fa wi := by
    obtain ⟨m1, m2, m3, m4⟩ := hm
    refine ⟨?_, ?_, ?_, m4⟩
    · rw [k4 _ _ (by omega) (by omega), k2 _ _ (by omega) (by omega)]; exact m1
    · rw [k4 _ _ (by omega) (by omega), k2 _ _ (by omega) (by omega)]; exact m2
    · rw [k4 _ _ (by omega) (by omega), k2 _ _ (by omega) (by omega)]; exact m3
  have dc4 : HDc s4 P day cm a d := by
    obtain ⟨m1, m2, m3⟩ := dc
    refine ⟨?_, ?_, fun i hi l hl => ?_⟩
    · rw [k4 _ _ (by omega) (by omega), k2 _ _ (by omega) (by omega)]; exact m1
    · rw [k4 _ _ (by omega) (by omega), k2 _ _ (by omega) (by omega)]; exact m2
    · rw [g3.iA (by omega) (by omega) (by rw [tg_P7 f2 hP]; omega) (by omega), f3.iA (by omega) (by omega) (by rw [tg_P7 e2 hP]; omega) (by omega), k2A _ _ (by omega) (by rw [tg_P7 hS hP]; omega)]; exact m3 i hi l hl
  obtain ⟨s5, a1, a2, a3, a4, a5, a6, a7, a8, a9, a10⟩ := c_takeBack (o := o) g2 hP h65c hp hk hm4 (by rw [k4 _ _ (by omega) (by omega), k2 _ _ (by omega) (by omega)]; exact hch) (z := z) (by rw [k4 _ _ (by omega) (by omega), k2 _ _ (by omega) (by omega)]; exact h1) (by rw [k4 _ _ (by omega) (by omega)]; exact e5) (by rw [k4 _ _ (by omega) (by omega)]; exact e6) hz b2 b3 bi ho5 hob hd dc4
  have ap : ∀ τ : zS, Sh τ → ai τ 69 69 104 (nI p) = true := fun τ hS => ai_nI (.inl (tg_104 hS)) (ln_104 hS) hp (by omega)
  refine ⟨s5, ?_, a2, ?_, fun j hj => ?_, fun j hj => ?_, fun i hi => ?_, fun i hi => ?_, ?_, ?_, a5, ?_, ?_, a8, a9, fun j hj => ?_⟩
  · rw [e1, zbV_e, q_X11_trial_42, tg_6 e2, if_pos rfl, gR_6_9 e2, zeR_e, if_pos (ap _ e2), ixn (by omega), gR_people e2 hp, zeR_e, if_pos rfl, f1, zbI_e, tg_6 f2, if_pos rfl, g1, zbI_e, tg_6 g2, if_pos rfl, gR_6_9 g2, zeR_e, if_pos (ap _ g2), gR_people g2 hp, zeR_e, if_pos rfl, a1, zbV_e]
  · exact (e3.mono (fun r j _ _ q => by unfold XTc; omega)).trans ((f3.mono (fun r j _ _ q => by unfold XTc; omega)).trans ((g3.mono (fun r j _ _ q => by unfold XTc; omega)).trans (a3.mono (fun r j _ _ q => by unfold XTc; omega))))
  · rw [a3.iA (by omega) (by omega) (by rw [tg_P6 g2 hP]; omega) (by omega), g3.iA (by omega) (by omega) (by rw [tg_P6 f2 hP]; omega) (by omega), f3.iA (by omega) (by omega) (by rw [tg_P6 e2 hP]; omega) (by omega)]; exact e4 j hj
  · rw [a3.iA (by omega) (by omega) (by rw [tg_P6 g2 hP]; omega) (by omega), g3.iA (by omega) (by omega) (by rw [tg_P6 f2 hP]; omega) (by omega), f3.iA (by omega) (by omega) (by rw [tg_P6 e2 hP]; omega) (by omega), e3.iA (by omega) (by omega) (by rw [tg_P6 hS hP]; omega) (by omega)]
  · rw [a3.i (by omega) (by omega) (by omega) (by omega)]; exact g4 i hi
  · rw [a3.i (by omega) (by omega) (by omega) (by omega)]; exact g5 i hi
  · rw [a4, g3.i (by omega) (by omega) (by omega) (by omega), f3.i (by omega) (by omega) (by omega) (by omega), k2 _ _ (by omega) (by omega)]
  · rw [a3.l (by omega) (by omega) (by omega) (by omega), g3.l (by omega) (by omega) (by omega) (by omega)]; exact f4
  · rw [a6, k4 _ _ (by omega) (by omega), k2 _ _ (by omega) (by omega)]
  · rw [a7, k4 _ _ (by omega) (by omega), k2 _ _ (by omega) (by omega)]
  · rw [a10 j hj, g3.i (by omega) (by omega) (by omega) (by omega), f3.i (by omega) (by omega) (by omega) (by omega), k2A _ _ (by omega) (by rw [tg_pkept hS hp]; omega)]
end
