/-! means: both find the same -/
def CM (σ : zS) (P k pr fa wi : Nat) : Prop := gI σ P 8 = nI fa ∧ gI σ P 9 = nI wi ∧ gI σ (P + 8 + 2 * k) 1 = nI pr ∧ fa ≤ 9999 ∧ wi ≤ 9999 ∧ pr ≤ 9999
def RM (σ : zS) (k pr fa wi : Nat) : Prop := gI σ 223 3 = nI fa ∧ gI σ 223 4 = nI wi ∧ gI σ 215 (8 + k) = nI pr ∧ fa ≤ 9999 ∧ wi ≤ 9999 ∧ pr ≤ 9999
/-- the plain mean of a box -/
def mbv (pl f g : Nat → Nat) (w pr fa wi ch b : Nat) : Int32 := mvl (kal pl f g w b) (mK pr fa wi (pc b)) (mN ch fa wi (pc b))
section
variable {σ σ' σ1 σ2 : zS} {pl f f0 g : Nat → Nat} {P A R N w b e y o d r p k so n pr fa wi ch lv : Nat}
theorem CM_xs (h : CM σ P k pr fa wi) (hP : HP P) (hk : k < 8) (u : Un Xs σ σ') : CM σ' P k pr fa wi := by
  have hb := HPb hP
  obtain ⟨h1, h2, h3, h4⟩ := h
  refine ⟨?_, ?_, ?_, h4⟩
  · rw [u.i (by omega) (by omega) (by omega) (nX_lo (by omega) (by omega))]; exact h1
  · rw [u.i (by omega) (by omega) (by omega) (nX_lo (by omega) (by omega))]; exact h2
  · rw [u.i (by omega) (by omega) (by omega) (nX_lo (by omega) (by omega))]; exact h3
theorem RM_xs (h : RM σ k pr fa wi) (hk : k < 8) (u : Un Xs σ σ') : RM σ' k pr fa wi := by
  obtain ⟨h1, h2, h3, h4⟩ := h
  refine ⟨?_, ?_, ?_, h4⟩
  · rw [u.i (by omega) (by omega) (by omega) (nX_223 (by omega))]; exact h1
  · rw [u.i (by omega) (by omega) (by omega) (nX_223 (by omega))]; exact h2
  · rw [u.i (by omega) (by omega) (by omega) (nX_215 (by omega))]; exact h3
theorem c_mk (hS : Sh σ) (hP : HP P) (hk : k < 8) (h : CM σ P k pr fa wi) (hn : n ≤ 3) : zM 4 [.ref P, .int (nI k), .int (nI n)] σ = some (some (.int (mK pr fa wi n)), σ) := by
  obtain ⟨h1, h2, h3, -⟩ := h
  have al := ai_nI (σ := σ) (t := 68) (u := 68) (.inl (tg_P1 hS hP)) (ln_P1 hS hP) hk (by omega)
  have one : (1 : Int32).toInt = 1 := by decide
  have e0 : (0 : Int32).toInt = 0 := rfl
  have ti : (nI n - 1 : Int32).toInt = (n : Int) - 1 := by
    rw [Int32.toInt_sub, nI_toInt (by omega), one, Int.bmod_eq_of_le (by omega) (by omega)]
  rw [q_X0_moneyOfOneKept]
  unfold mK
  by_cases q : n ≤ 1
  · rw [if_pos (by rw [Int32.le_iff_toInt_le, ti]; omega), tg_P hS hP, if_pos rfl, gR_P_0 hS hP, zeR_e, if_pos al, ixn (by omega), gR_Plast hS hP hk, zeR_e, tg_Plast hS hP hk, if_pos rfl, if_pos rfl, h1, h3, if_pos q]
  · rw [if_neg (by rw [Int32.le_iff_toInt_le, ti]; omega), tg_P hS hP, if_pos rfl, if_pos rfl, if_pos rfl, gR_P_0 hS hP, zeR_e, if_pos al, ixn (by omega), gR_Plast hS hP hk, zeR_e, tg_Plast hS hP hk, if_pos rfl, if_pos rfl, h1, h2, h3, if_neg q]
theorem c_mn (hS : Sh σ) (hP : HP P) (h : CM σ P k pr fa wi) : zM 5 [.ref P, .int (nI n), .int (nI ch)] σ = some (some (.int (mN ch fa wi n)), σ) := by
  rw [q_X0_moneyOfNone, tg_P hS hP, if_pos rfl, if_pos rfl, h.1, h.2.1]
  rfl
theorem c_mean1 (hS : Sh σ) (hP : HP P) (h65 : gR σ 6 5 = some P) (hk : k < 8) (hc : SC σ P pl w) (hm : CM σ P k pr fa wi) (h1 : 1 ≤ b) (hb : b < 32) (h3 : pc b ≤ 3) (hg : ∀ y, y < 7 → gL σ 108 y = lN (bgp f g y)) : zM 147 [.ref 6, .int (nI k), .int (nI b), .int (nI ch)] σ = some (some (.int (mbv pl f g w pr fa wi ch b)), σ) := by
  rw [q_X11_meanOf, tg_6 hS, if_pos rfl, gR_6_13 hS, zeR_e, tg_105 hS, if_pos rfl, c_kept2 hS hP hc h1 hb hg, zbL_e, c_bitc hb, zbI_e, q_X11_meanOf_8, tg_6 hS, if_pos rfl, h65, zeR_e, tg_P hS hP, if_pos rfl, c_mk hS hP hk hm h3, zbI_e, tg_6 hS, if_pos rfl, h65, zeR_e, tg_P hS hP, if_pos rfl, c_mn hS hP hm, zbI_e, zll_e, j_fd (by decide +kernel), zbL_e]
  rfl
theorem c_lo (hS : Sh σ) (hP : HP P) (h65 : gR σ 6 5 = some P) (hp : p < 20) (hk : k < 8) (hso : so < 4) (hc : CW σ P p k so pl f0 g w) (tA : tg σ A = 32) (lA : ln σ A = 5) (nA : A ≠ 105) (fA : ∀ d, d < 5 → f d ≤ 10000 ∧ gI σ A d = nI (f d)) : ∃ σ', zM 146 [.ref 6, .ref (116 + 3 * p), .ref A, .int (nI k)] σ = some (none, σ') ∧ Sh σ' ∧ Un (fun r _ => r = 105 ∨ r = 108) σ σ' ∧ SC σ' P pl w ∧ ∀ y, y < 7 → gL σ' 108 y = lN (bgp f g y) := by
  have hbb := HPb hP
  have hS1 : Sh (pon σ P w) := pon_sh hS
  have hc1 := CW_xs hc hP hp hk hso (pon_un (σ := σ) (P := P) (w := w))
  have e65 : gR (pon σ P w) 6 5 = some P := by
    rw [(pon_un (σ := σ) (P := P) (w := w)).r (by omega) (by omega) (by omega) (nX_st (by omega))]; exact h65
  have pu : Un (fun r _ => r = 105 ∨ r = 108) σ (pon σ P w) := (Un_sR (.inl rfl)).trans (Un_sI (.inl rfl))
  obtain ⟨s2, a1, a2, a3⟩ := c_lay (A := A) (R := P + 9 + 2 * k) (f := f) (g := g) hS1 (by rw [tg_of1 pu.1]; exact tA) (by rw [ln_of1 pu.1]; exact lA) (tg_Pruns hS1 hP hk) (ln_Pruns hS1 hP hk) (fun d hd => ⟨(fA d hd).1, by
    unfold pon
    rw [gI_sI, if_neg (fun z => nA z.1), gI_sR]
    exact (fA d hd).2⟩) hc1.2.2.2.2.2
  refine ⟨s2, ?_, a2.sh hS1, pu.trans (a2.un.mono (fun r j _ _ q => .inr q)), a2.sc (pon_sc hP hc.1), a3⟩
  rw [q_X11_layOut, tg_6 hS, if_pos rfl, gR_6_13 hS, zeR_e, if_pos rfl, h65, zeR_e, tg_P hS hP, if_pos rfl, gR_P_3 hS hP, zeR_e, if_pos rfl, c_sortOf hS hP h65 hp hso hc.2.1, zbR_e, tg_Psort hS hP hso, if_pos rfl, tg_105 hS, if_pos rfl, hc.2.2.1, c_putOn hS hc.2.2.2.1, zbV_e, tg_6 hS1, if_pos rfl, gR_6_13 hS1, zeR_e, if_pos rfl, e65, zeR_e, tg_P hS1 hP, if_pos rfl, gR_P_0 hS1 hP, zeR_e, if_pos (ai_nI (.inl (tg_P1 hS1 hP)) (ln_P1 hS1 hP) hk (by omega)), ixn (by omega), gR_Plast hS1 hP hk, zeR_e, tg_Plast hS1 hP hk, if_pos rfl, gR_Pruns hS1 hP hk, zeR_e, tg_105 hS1, if_pos rfl, a1, zbV_e, q_X11_layOut_20]
theorem c_plain (hS : Sh σ) (hP : HP P) (h65 : gR σ 6 5 = some P) (hp : p < 20) (hk : k < 8) (hso : so < 4) (hc : CW σ P p k so pl f g w) (hm : CM σ P k pr fa wi) (hch : gI σ P 10 = nI ch) (h1 : 1 ≤ b) (hb : b < 32) (h3 : pc b ≤ 3) : ∃ σ', zM 145 [.ref 6, .int (nI p), .int (nI k), .int (nI b)] σ = some (some (.int (mbv pl f g w pr fa wi ch b)), σ') ∧ Sh σ' ∧ Un (fun r _ => r = 105 ∨ r = 108) σ σ' := by
  have hbb := HPb hP
  have ap := ai_nI (σ := σ) (t := 69) (u := 69) (.inl (tg_104 hS)) (ln_104 hS) hp (by omega)
  obtain ⟨s1, a1, a2, a3, a4, a5⟩ := c_lo (A := 117 + 3 * p) hS hP h65 hp hk hso hc (tg_pfeet hS hp) (ln_pfeet hS hp) (by omega) hc.2.2.2.2.1
  have ux : Un Xs σ s1 := a3.mono (fun r j _ _ q => by unfold Xs; omega)
  have e65 : gR s1 6 5 = some P := by rw [a3.r (by omega) (by omega) (by omega) (by omega)]; exact h65
  have ech : gI s1 P 10 = nI ch := by rw [a3.i (by omega) (by omega) (by omega) (by omega)]; exact hch
  refine ⟨s1, ?_, a2, a3⟩
  rw [q_X11_plainMean, tg_6 hS, if_pos rfl, gR_6_9 hS, zeR_e, if_pos ap, ixn (by omega), gR_people hS hp, zeR_e, if_pos rfl, zeR_e, if_pos ap, gR_people hS hp, zeR_e, tg_person hS hp, if_pos rfl, gR_pfeet hS hp, zeR_e, if_pos rfl, a1, zbV_e, tg_6 a2, if_pos rfl, e65, zeR_e, tg_P a2 hP, if_pos rfl, if_pos rfl, ech, c_mean1 a2 hP e65 hk a4 (CM_xs hm hP hk ux) h1 hb h3 a5, zbI_e]
theorem r_money (hS : Sh σ) (hk : k < 8) (h : RM σ k pr fa wi) (hch : gI σ 223 5 = nI ch) (hb : b < 32) : zM 255 [.ref 176, .int (nI k), .int (nI b), .int 1] σ = some (some (.int (mK pr fa wi (pc b))), σ) ∧ zM 255 [.ref 176, .int (nI k), .int (nI b), .int 0] σ = some (some (.int (mN ch fa wi (pc b))), σ) := by
  obtain ⟨h1, h2, h3, -⟩ := h
  have a3 := ai_nI (σ := σ) (t := 32) (u := 48) (k := 3) (.inl (tg_223 hS)) (ln_223 hS) (by omega) (by omega)
  have a4 := ai_nI (σ := σ) (t := 32) (u := 48) (k := 4) (.inl (tg_223 hS)) (ln_223 hS) (by omega) (by omega)
  have a5 := ai_nI (σ := σ) (t := 32) (u := 48) (k := 5) (.inl (tg_223 hS)) (ln_223 hS) (by omega) (by omega)
  have ap := ai_nI (σ := σ) (t := 32) (u := 48) (.inl (tg_215 hS)) (ln_215 hS) (show 8 + k < 16 by omega) (by omega)
  have pb : pc b ≤ 5 := by unfold pc; omega
  constructor
  · rw [q_X12_money, r_pairs hb, zbI_e, if_neg (by decide), tg_176 hS, if_pos rfl, gR_176_48 hS, zeR_e, nI_addL 8 k, if_pos ap, if_pos rfl, gR_176_56 hS, zeR_e, if_pos (show ai σ 32 48 223 3 = true from a3), ixn (by omega), h3, show ix (3 : Int32) = 3 from rfl, h1]
    unfold mK
    by_cases q : pc b ≤ 1
    · rw [if_pos (show nI (pc b) ≤ 1 from nI_le (b := 1) q (by omega)), if_pos q]
    · rw [if_neg (show ¬ nI (pc b) ≤ 1 from nI_ge (a := 1) (by omega) (by omega)), if_pos rfl, zeR_e, if_pos (show ai σ 32 48 223 3 = true from a3), if_pos rfl, zeR_e, if_pos (show ai σ 32 48 223 4 = true from a4), show ix (4 : Int32) = 4 from rfl, h2, h1, if_neg q]
  · rw [q_X12_money, r_pairs hb, zbI_e, if_pos rfl, tg_176 hS, if_pos rfl, gR_176_56 hS, zeR_e, if_pos (show ai σ 32 48 223 5 = true from a5), if_pos rfl, zeR_e, if_pos (show ai σ 32 48 223 3 = true from a3), if_pos rfl, zeR_e, if_pos (show ai σ 32 48 223 4 = true from a4), show ix (3 : Int32) = 3 from rfl, show ix (4 : Int32) = 4 from rfl, show ix (5 : Int32) = 5 from rfl, h1, h2, hch]
    rfl
theorem r_meanOf (hS : Sh σ) (hp : p < 20) (hk : k < 8) (hso : so < 4) (hr : RW σ p k so pl f g w) (hm : RM σ k pr fa wi) (hch : gI σ 223 5 = nI ch) (c99 : ch ≤ 99) (hf : f 0 + f 1 + f 2 + f 3 + f 4 = 10000) (hg : g 0 + g 1 + g 2 = 10000) (h1 : 1 ≤ b) (hb : b < 32) (h3 : pc b ≤ 3) : zM 257 [.ref 176, .int (nI p), .int (nI k), .int (nI b)] σ = some (some (.int (mbv pl f g w pr fa wi ch b)), σ) := by
  have hpl : ∀ d, d < 5 → pl d ≤ 100 := fun d hd => (hr.1 d hd).1
  have kn := kal_none (w := w) (b := b) hpl hf hg
  have e := lp_seq (G := fun e => zR 6 257 13 [some (.ref 176), some (.int (nI p)), some (.int (nI k)), some (.int (nI b)), some (.long (lN (wall pl f g w b 5))), none, some (.long (lN (smN (fun e => if b / 2 ^ e % 2 = 1 then wall pl f g w b e else 0) e))), none, some (.int (nI e))] [] σ) 5 (fun e he => by
    have es : smN (fun e => if b / 2 ^ e % 2 = 1 then wall pl f g w b e else 0) (e + 1) = smN (fun e => if b / 2 ^ e % 2 = 1 then wall pl f g w b e else 0) e + (if b / 2 ^ e % 2 = 1 then wall pl f g w b e else 0) := rfl
    rw [q_X12_meanOf_13, if_neg (show ¬ (5 : Int32) ≤ nI e from nI_ge (b := 5) he (by omega)), bit_sh b hb e (by omega), nI_1, es]
    rcases (show b / 2 ^ e % 2 = 0 ∨ b / 2 ^ e % 2 = 1 by omega) with q | q
    · rw [q, if_neg (by decide), if_neg (show ¬ 0 = 1 by omega)]
      rfl
    · rw [q, if_pos (by decide), tg_176 hS, if_pos rfl, r_weights hS hp hk hso hr h1 hb (by omega), zbL_e, wsel_all, lN_add, if_pos rfl])
  have mo := r_money (b := b) hS hk hm hch hb
  rw [q_X12_meanOf, tg_176 hS, if_pos rfl, show (5 : Int32) = nI 5 from rfl, r_weights hS hp hk hso hr h1 hb (Nat.le_refl 5), zbL_e, wsel_all]
  refine Eq.trans e ?_
  rw [q_X12_meanOf_13, if_pos (show (5 : Int32) ≤ nI 5 by decide), tg_176 hS, if_pos rfl, mo.1, zbI_e, tg_176 hS, if_pos rfl, mo.2, zbI_e, r_fo (by decide +kernel), zbL_e, kal_sum h1 hb, show wall pl f g w b 5 = 1000000000000 - kal pl f g w b by omega, mvl_ref (by omega) (mK_ti hm.2.2.2.2.2 hm.2.2.2.1 hm.2.2.2.2.1 h3) (mN_ti c99 hm.2.2.2.1 hm.2.2.2.2.1 h3)]
  rfl
theorem c_ord (hS : Sh σ) (hP : HP P) (h65 : gR σ 6 5 = some P) (hp : p < 20) (hso : so < 4) (h0 : gI σ (116 + 3 * p) 0 = nI so) (hl : gI σ (P + 24 + 2 * so) 4 = nI lv) (m : Int32) : zM 148 [.ref 6, .int m, .ref (116 + 3 * p), .int (nI ch)] σ = some (some (.int (odv (nI lv) (nI ch) m)), σ) := by
  rw [q_X11_orderedMean, tg_6 hS, if_pos rfl, c_sortOf hS hP h65 hp hso h0, zbR_e, tg_Psort hS hP hso, if_pos rfl, hl, q_J9_max_7cf53]
  unfold odv
  by_cases q : 0 < 100 - nI lv * nI ch
  · rw [if_pos q, zbI_e, j_fd (by decide), zbL_e, if_pos q]
  · rw [if_neg q, zbI_e, j_fd (by decide), zbL_e, if_neg q, t64_0, Int64.mul_zero, fdv_0 (by decide)]
    rfl
theorem r_ord (hS : Sh σ) (hp : p < 20) (hso : so < 4) (h0 : gI σ 232 p = nI so) (hl : gI σ 220 (4 + so) = nI lv) (hch : gI σ 223 5 = nI ch) (m : Int32) : zM 258 [.ref 176, .int (nI p), .int m] σ = some (some (.int (odv (nI lv) (nI ch) m)), σ) := by
  have a5 := ai_nI (σ := σ) (t := 32) (u := 48) (k := 5) (.inl (tg_223 hS)) (ln_223 hS) (by omega) (by omega)
  rw [q_X12_ordered, tg_176 hS, if_pos rfl, gR_176_53 hS, zeR_e, if_pos rfl, gR_176_71 hS, zeR_e, if_pos (ai_nI (.inl (tg_232 hS)) (ln_232 hS) hp (by omega)), ixn (by omega), h0, nI_addL 4 so, if_pos (ai_nI (.inl (tg_220 hS)) (ln_220 hS) (show 4 + so < 8 by omega) (by omega)), if_pos rfl, gR_176_56 hS, zeR_e, if_pos (show ai σ 32 48 223 5 = true from a5), ixn (by omega), hl, show ix (5 : Int32) = 5 from rfl, hch, zli_e]
  unfold odv
  by_cases q : 0 < 100 - nI lv * nI ch
  · rw [if_pos q, r_fo (by decide), zbL_e, if_pos q]
  · rw [if_neg q, if_neg q]
end
