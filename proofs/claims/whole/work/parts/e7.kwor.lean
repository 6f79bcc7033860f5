/-! worth: both find the same -/
def wtA (s : Nat → Int32) (z : Nat) (pl f g : Nat → Nat) (w pr fa wi ch : Nat) (v : Nat → Nat) (y : Int32) : Int64 := if aal f v y = 0 then 0 else lN (aal f v y) * (bmv s z pl (anF f v y) g w pr fa wi ch).toInt64
def wth (s : Nat → Int32) (z : Nat) (pl f g : Nat → Nat) (w pr fa wi ch : Nat) (v : Nat → Nat) : Int32 := (fdv (wtA s z pl f g w pr fa wi ch v 1 + wtA s z pl f g w pr fa wi ch v 0) 1000000).toInt32 - bmv s z pl f g w pr fa wi ch
section
variable {σ σ' σ1 σ2 : zS} {s : Nat → Int32} {zf pl f f0 g v t : Nat → Nat} {B P S N M K np c n A q0 w b e o d r p k so z pr fa wi ch : Nat} {y : Int32}
theorem cls_any {ok : Nat → Bool} {v v' : Nat → Int} (h : ¬ cls ok v 31 = 0) : ¬ cls ok v' 31 = 0 := by
  intro h'
  rcases cls_opt (ok := ok) (v := v) 31 with ⟨h1, _⟩ | ⟨h1, h2, _⟩
  · exact h h1
  · rcases cls_opt (ok := ok) (v := v') 31 with ⟨g1, g2⟩ | ⟨_, _, g3, _⟩
    · exact g2 _ h1 h2
    · exact g3 h'
theorem bmv_bd (hpl : ∀ d, d < 5 → pl d ≤ 100) (hf : f 0 + f 1 + f 2 + f 3 + f 4 = 10000) (hg : g 0 + g 1 + g 2 = 10000) (h1 : pr ≤ 9999) (h2 : fa ≤ 9999) (h3 : wi ≤ 9999) (h4 : ch ≤ 99) (hq : ¬ cls (okb s z) (fun b => (mbv pl f g w pr fa wi ch b).toInt) 31 = 0) : -5000000 ≤ (bmv s z pl f g w pr fa wi ch).toInt ∧ (bmv s z pl f g w pr fa wi ch).toInt ≤ 5000000 := by
  unfold bmv
  rw [if_neg hq]
  rcases cls_in (ok := okb s z) (v := fun b => (mbv pl f g w pr fa wi ch b).toInt) 31 with q | ⟨q1, q2, q3⟩
  · exact absurd q hq
  · exact mbv_bd hpl hf hg h1 h2 h3 h4 (okb_pc q3).2.1
theorem bmv_no (hpl : ∀ d, d < 5 → pl d ≤ 100) (hf : f 0 + f 1 + f 2 + f 3 + f 4 = 10000) (hg : g 0 + g 1 + g 2 = 10000) (h1 : pr ≤ 9999) (h2 : fa ≤ 9999) (h3 : wi ≤ 9999) (h4 : ch ≤ 99) : (bmv s z pl f g w pr fa wi ch = -1000000000) = (cls (okb s z) (fun b => (mbv pl f g w pr fa wi ch b).toInt) 31 = 0) := by
  apply propext
  constructor
  · intro e
    by_cases q : cls (okb s z) (fun b => (mbv pl f g w pr fa wi ch b).toInt) 31 = 0
    · exact q
    · exfalso
      have := (bmv_bd hpl hf hg h1 h2 h3 h4 q).1
      rw [e] at this
      exact absurd this (by decide)
  · intro e
    unfold bmv
    rw [if_pos e]
/-- one side of the class's worthBeside -/
theorem c_side (hS : Sh σ) (hP : HP P) (h65 : gR σ 6 5 = some P) (hp : p < 20) (hk : k < 8) (hq : q0 < 6) (hso : so < 4) (hc : CW σ P p k so pl f g w) (hf : f 0 + f 1 + f 2 + f 3 + f 4 = 10000) (hm : CM σ P k pr fa wi) (hch : gI σ P 10 = nI ch) (h1 : gI σ (116 + 3 * p) 1 = nI z) (hz : 30 ≤ z ∧ z ≤ 49) (hs : ∀ j, j < 20 → gI σ (P + 6) (20 * k + j) = s j) (hv : ∀ d, d < 5 → v d ≤ 100 ∧ gI σ (P + 33 + 2 * q0) d = nI (v d)) (now : Int32) (T : Int64) {i : Nat} (hi : i < 2) (u9 u10 : Option Value) : ∃ σ' x9 x10, zR 6 167 9 [some (.ref 6), some (.int now), some (.int (nI q0)), some (.int (nI p)), some (.int (nI k)), some (.ref (116 + 3 * p)), some (.long T), none, some (.int (nI i)), u9, u10] [] σ = zR 6 167 9 [some (.ref 6), some (.int now), some (.int (nI q0)), some (.int (nI p)), some (.int (nI k)), some (.ref (116 + 3 * p)), some (.long (T + wtA s z pl f g w pr fa wi ch v (if i = 0 then 1 else 0))), none, some (.int (nI (i + 1))), x9, x10] [] σ' ∧ Sh σ' ∧ Un (fun r j => (105 ≤ r ∧ r < 110) ∨ r = 112) σ σ' := by
  have hbb := HPb hP
  have fb := hc.2.2.2.2.1
  obtain ⟨s1, a1, a2, a3⟩ := c_wans (f := f) (v := v) (y := if i = 0 then 1 else 0) (A := 117 + 3 * p) (Y := P + 33 + 2 * q0) hS (tg_pfeet hS hp) (ln_pfeet hS hp) (tg_Pyes hS hP hq) (ln_Pyes hS hP hq) fb hv
  have S1 := a2.sh hS
  have al := aal_le (y := if i = 0 then 1 else 0) hf (fun d hd => (hv d hd).1)
  generalize hy : (if i = 0 then (1 : Int32) else 0) = y at a1 a3 al ⊢
  have go : zR 6 167 9 [some (.ref 6), some (.int now), some (.int (nI q0)), some (.int (nI p)), some (.int (nI k)), some (.ref (116 + 3 * p)), some (.long T), none, some (.int (nI i)), u9, u10] [] σ = if (lg_cmp (lN (aal f v y)) 0) ≤ 0 then (zR 6 167 9 [some (.ref 6), some (.int now), some (.int (nI q0)), some (.int (nI p)), some (.int (nI k)), some (.ref (116 + 3 * p)), some (.long T), none, some (.int (nI (i + 1))), some (.long (lN (aal f v y))), none] [] s1) else (if tg s1 6 = 12 then zeR none (gR s1 6 13) (fun q9 => if tg s1 q9 = 8 then zeR none (gR s1 q9 0) (fun q10 => if tg s1 6 = 12 then zeR none (gR s1 6 15) (fun q11 => zbV (zM 76 [.ref q10, .ref q11] s1) (fun σ12 => zR 6 167 39 [some (.ref 6), some (.int now), some (.int (nI q0)), some (.int (nI p)), some (.int (nI k)), some (.ref (116 + 3 * p)), some (.long T), none, some (.int (nI i)), some (.long (lN (aal f v y))), none] [] σ12)) else none) else none) else none) := by
    rw [q_X11_worthBeside_9, if_neg (show ¬ (2 : Int32) ≤ nI i from nI_ge (b := 2) hi (by omega)), tg_6 hS, if_pos rfl, gR_6_13 hS, zeR_e, tg_person hS hp, if_pos rfl, gR_pfeet hS hp, zeR_e, if_pos rfl, h65, zeR_e, tg_P hS hP, if_pos rfl, gR_P_2 hS hP, zeR_e, if_pos (ai_nI (.inl (tg_P3 hS hP)) (ln_P3 hS hP) hq (by omega)), ixn (by omega), gR_Pquest hS hP hq, zeR_e, tg_Pquest hS hP hq, if_pos rfl, gR_Pyes hS hP hq, zeR_e, nI_1]
    by_cases q : i = 0
    · rw [if_pos q] at hy
      rw [if_pos (show nI i = 0 by rw [q]; rfl), tg_105 hS, if_pos rfl, hy, a1, zbL_e]
    · rw [if_neg q] at hy
      rw [if_neg (nI_ne0 (by omega) (by omega)), tg_105 hS, if_pos rfl, hy, a1, zbL_e]
  by_cases h0 : aal f v y = 0
  · refine ⟨s1, some (.long (lN (aal f v y))), none, ?_, S1, a2.un.mono (fun r j _ _ q => by omega)⟩
    rw [go, if_pos (by rw [l_npos (by omega)]; exact h0)]
    unfold wtA
    rw [if_pos h0, Int64.add_zero]
  · obtain ⟨s2, b1, b2, b3, b4, b5⟩ := c_learn (W := 106) (A := 112) (n := 5) (v := awt f v y) S1 (by omega) (tg_106 S1) (ln_106 S1) (tg_112 S1) (ln_112 S1) (by omega) a3 (Nat.pos_of_ne_zero h0) (Nat.le_trans al (by omega))
    have u2 : Un (fun r j => (105 ≤ r ∧ r < 110) ∨ r = 112) σ s2 := (a2.un.mono (fun r j _ _ q => by omega)).trans (b3.mono (fun r j _ _ q => by omega))
    have ux : Un Xs σ s2 := u2.mono (fun r j _ _ q => by unfold Xs; omega)
    have e65 : gR s2 6 5 = some P := by rw [u2.r (by omega) (by omega) (by omega) (by omega)]; exact h65
    have sa := anF_sum (f := f) (v := v) (y := y) (Nat.pos_of_ne_zero h0)
    obtain ⟨s3, c1, c2, c3⟩ := c_bmean (A := 112) (f := anF f v y) (s := s) (z := z) (pr := pr) (fa := fa) (wi := wi) (ch := ch) b2 hP e65 hp hk hso (CW_xs hc hP hp hk hso ux) (tg_112 b2) (ln_112 b2) (by omega) (fun d hd => ⟨by have := sm5 (anF f v y) d hd; omega, b5 d hd⟩) (CM_xs hm hP hk ux) (by rw [u2.i (by omega) (by omega) (by omega) (by omega)]; exact hch) (by rw [u2.i (by omega) (by omega) (by omega) (by omega)]; exact h1) hz (fun j hj => by rw [u2.iA (by omega) (by omega) (by rw [tg_P6 hS hP]; omega) (by omega)]; exact hs j hj)
    refine ⟨s3, some (.long (lN (aal f v y))), none, ?_, c2, u2.trans (c3.mono (fun r j _ _ q => by omega))⟩
    rw [go, if_neg (by rw [l_npos (by omega)]; exact h0), tg_6 S1, if_pos rfl, gR_6_13 S1, zeR_e, tg_105 S1, if_pos rfl, gR_105_0 S1, zeR_e, if_pos rfl, gR_6_15 S1, zeR_e, b1, zbV_e, q_X11_worthBeside_39, tg_6 b2, if_pos rfl, gR_6_15 b2, zeR_e, if_pos rfl, c1, zbI_e, nI_1]
    unfold wtA
    rw [if_neg h0]
theorem c_beside (hS : Sh σ) (hP : HP P) (h65 : gR σ 6 5 = some P) (hp : p < 20) (hk : k < 8) (hq : q0 < 6) (hso : so < 4) (hc : CW σ P p k so pl f g w) (hf : f 0 + f 1 + f 2 + f 3 + f 4 = 10000) (hm : CM σ P k pr fa wi) (hch : gI σ P 10 = nI ch) (h1 : gI σ (116 + 3 * p) 1 = nI z) (hz : 30 ≤ z ∧ z ≤ 49) (hs : ∀ j, j < 20 → gI σ (P + 6) (20 * k + j) = s j) (hv : ∀ d, d < 5 → v d ≤ 100 ∧ gI σ (P + 33 + 2 * q0) d = nI (v d)) : ∃ σ', zM 167 [.ref 6, .int (bmv s z pl f g w pr fa wi ch), .int (nI q0), .int (nI p), .int (nI k)] σ = some (some (.int (wth s z pl f g w pr fa wi ch v)), σ') ∧ Sh σ' ∧ Un (fun r j => (105 ≤ r ∧ r < 110) ∨ r = 112) σ σ' := by
  have hbb := HPb hP
  obtain ⟨s1, x9, x10, a1, a2, a3⟩ := c_side (s := s) (i := 0) hS hP h65 hp hk hq hso hc hf hm hch h1 hz hs hv (bmv s z pl f g w pr fa wi ch) 0 (by omega) none none
  have ux : Un Xs σ s1 := a3.mono (fun r j _ _ q => by unfold Xs; omega)
  have e65 : gR s1 6 5 = some P := by rw [a3.r (by omega) (by omega) (by omega) (by omega)]; exact h65
  obtain ⟨s2, y9, y10, b1, b2, b3⟩ := c_side (s := s) (i := 1) a2 hP e65 hp hk hq hso (CW_xs hc hP hp hk hso ux) hf (CM_xs hm hP hk ux) (by rw [a3.i (by omega) (by omega) (by omega) (by omega)]; exact hch) (by rw [a3.i (by omega) (by omega) (by omega) (by omega)]; exact h1) hz (fun j hj => by rw [a3.iA (by omega) (by omega) (by rw [tg_P6 hS hP]; omega) (by omega)]; exact hs j hj) (fun d hd => ⟨(hv d hd).1, by rw [a3.i (by omega) (by omega) (by omega) (by omega)]; exact (hv d hd).2⟩) (bmv s z pl f g w pr fa wi ch) (0 + wtA s z pl f g w pr fa wi ch v (if 0 = 0 then 1 else 0)) (by omega) x9 x10
  refine ⟨s2, ?_, b2, a3.trans b3⟩
  rw [q_X11_worthBeside, tg_6 hS, if_pos rfl, gR_6_9 hS, zeR_e, if_pos (ai_nI (.inl (tg_104 hS)) (ln_104 hS) hp (by omega)), ixn (by omega), gR_people hS hp, zeR_e]
  refine Eq.trans a1 ?_
  refine Eq.trans b1 ?_
  unfold wth
  rw [q_X11_worthBeside_9, if_pos (show (2 : Int32) ≤ nI (1 + 1) by decide), j_fd (by decide), zbL_e, if_pos rfl, if_neg (show ¬ 1 = 0 by omega), Int64.zero_add, Int64.toInt32_sub, Int32.toInt32_toInt64]
/-- behind: the reference -/
theorem r_behind (hS : Sh σ) (p70 : gI σ 176 70 = nI np) (p20 : np ≤ 20) (n3 : gI σ 214 3 = nI N) (n8 : N ≤ 8) (hz' : ∀ p, p < np → 30 ≤ zf p ∧ zf p ≤ 49 ∧ gI σ 233 p = nI (zf p)) (hp : p < np) (hk : k < N) (hq : q0 < 6) (hso : so < 4) (hr : RW σ p k so pl f g w) (hm : RM σ k pr fa wi) (hch : gI σ 223 5 = nI ch) (c99 : ch ≤ 99) (hf : f 0 + f 1 + f 2 + f 3 + f 4 = 10000) (hg : g 0 + g 1 + g 2 = 10000) (hs : ∀ j, j < 20 → gI σ 224 (160 + (20 * k + j)) = s j) (hv : ∀ d, d < 5 → v d ≤ 100 ∧ gI σ 221 (30 + 5 * q0 + d) = nI (v d)) (hb : ¬ cls (okb s (zf p)) (fun b => (mbv pl f g w pr fa wi ch b).toInt) 31 = 0) : ∃ σ', zM 295 [.ref 176, .int (nI q0), .int (nI p), .int (nI k), .int y] σ = some (some (.long (wtA s (zf p) pl f g w pr fa wi ch v y)), σ') ∧ Sh σ' ∧ Un (fun r _ => r = 246 ∨ r = 251 ∨ r = 234) σ σ' ∧ ∀ j, j < 100 → gI σ' 234 j = gI σ 234 j := by
  have hp20 : p < 20 := by omega
  have hk8 : k < 8 := by omega
  have fr := hr.2.2.2.2.1
  have al := aal_le (y := y) hf (fun d hd => (hv d hd).1)
  by_cases h0 : aal f v y = 0
  · refine ⟨σ, ?_, hS, Un.refl _ _, fun j hj => rfl⟩
    rw [q_X12_behind, tg_176 hS, if_pos rfl, r_allOf hS hp20 hq fr hv, zbI_e, if_pos (by rw [h0]; rfl)]
    unfold wtA
    rw [if_pos h0]
  · have h0' : 0 < aal f v y := Nat.pos_of_ne_zero h0
    have S1' := hS
    obtain ⟨s1, e1, k1, k2, k3⟩ := lp_run (F := fun i (s : zS) => zR 8 295 12 [some (.ref 176), some (.int (nI q0)), some (.int (nI p)), some (.int (nI k)), some (.int y), some (.int (nI (aal f v y))), some (.int (nI i)), none, none] [] s) (fun i s => Sh s ∧ Un (fun r _ => r = 251) σ s ∧ ∀ d, d < i → gI s 251 d = nI (f d)) 5 (by
      rintro i s hi ⟨k1, k2, k3⟩
      have gf : gI s 234 (5 * p + i) = nI (f i) := by rw [k2.i (by omega) (by omega) (by omega) (by omega)]; exact (fr i hi).2
      refine ⟨sI s 251 i (nI (f i)), ?_, k1.sI (by omega), k2.trans (Un_sI rfl), fun d hd => ?_⟩
      · rw [q_X12_behind_12, if_neg (show ¬ (5 : Int32) ≤ nI i from nI_ge (b := 5) hi (by omega)), tg_176 k1, if_pos rfl, gR_176_94 k1, zeR_e, if_pos rfl, gR_176_73 k1, zeR_e, nI_mulL 5 p, nI_add, if_pos (ai_nI (.inl (tg_234 k1)) (ln_234 k1) (show 5 * p + i < 100 by omega) (by omega)), if_pos (ai_nI (.inl (tg_251 k1)) (ln_251 k1) hi (by omega)), zlt_e, ixn (by omega), ixn (by omega), gf, nI_1]
      · rw [gI_sI]
        by_cases q : d = i
        · subst q; rw [if_pos ⟨rfl, rfl⟩]
        · rw [if_neg (by omega)]; exact k3 d (by omega)) σ ⟨hS, Un.refl _ _, fun d hd => by omega⟩
    obtain ⟨s2, a1, a2, a3, a4, a5⟩ := r_answered (y := y) (f := f) (v := v) k1 hp20 hq hf (fun d hd => ⟨(fr d hd).1, by rw [k2.i (by omega) (by omega) (by omega) (by omega)]; exact (fr d hd).2⟩) (fun d hd => ⟨(hv d hd).1, by rw [k2.i (by omega) (by omega) (by omega) (by omega)]; exact (hv d hd).2⟩) h0'
    have u2 : Un (fun r j => r = 251 ∨ r = 246 ∨ (r = 234 ∧ 5 * p ≤ j ∧ j < 5 * p + 5)) σ s2 := (k2.mono (fun r j _ _ q => .inl q)).trans (a3.mono (fun r j _ _ q => .inr q))
    have sa := anF_sum (f := f) (v := v) (y := y) h0'
    have hr2 : RW s2 p k so pl (anF f v y) g w := by
      obtain ⟨y1, y2, y3, y4, y5, y6⟩ := hr
      refine ⟨fun d hd => ⟨(y1 d hd).1, ?_⟩, ?_, ?_, y4, fun d hd => ⟨by have := sm5 (anF f v y) d hd; omega, a5 d hd⟩, fun r hr => ⟨(y6 r hr).1, ?_⟩⟩
      · rw [u2.i (by omega) (by omega) (by omega) (by omega)]; exact (y1 d hd).2
      · rw [u2.i (by omega) (by omega) (by omega) (by omega)]; exact y2
      · rw [u2.i (by omega) (by omega) (by omega) (by omega)]; exact y3
      · rw [u2.i (by omega) (by omega) (by omega) (by omega)]; exact (y6 r hr).2
    have hm2 : RM s2 k pr fa wi := ⟨by rw [u2.i (by omega) (by omega) (by omega) (by omega)]; exact hm.1, by rw [u2.i (by omega) (by omega) (by omega) (by omega)]; exact hm.2.1, by rw [u2.i (by omega) (by omega) (by omega) (by omega)]; exact hm.2.2.1, hm.2.2.2⟩
    have hch2 : gI s2 223 5 = nI ch := by rw [u2.i (by omega) (by omega) (by omega) (by omega)]; exact hch
    have rb := r_best (s := s) a2 (by rw [u2.i (by omega) (by omega) (by omega) (by omega)]; exact p70) p20 (by rw [u2.i (by omega) (by omega) (by omega) (by omega)]; exact n3) n8 (fun p' hp' => ⟨(hz' p' hp').1, (hz' p' hp').2.1, by rw [u2.i (by omega) (by omega) (by omega) (by omega)]; exact (hz' p' hp').2.2⟩) hp hk hso hr2 hm2 hch2 c99 sa hg (fun j hj => by rw [u2.iA (by omega) (by omega) (by rw [tg_224 hS]; omega) (by omega)]; exact hs j hj)
    rw [← okb_cr] at rb
    have nb : ¬ cls (okb s (zf p)) (fun b => (mbv pl (anF f v y) g w pr fa wi ch b).toInt) 31 = 0 := cls_any hb
    have eb : bmv s (zf p) pl (anF f v y) g w pr fa wi ch = mbv pl (anF f v y) g w pr fa wi ch (cls (okb s (zf p)) (fun b => (mbv pl (anF f v y) g w pr fa wi ch b).toInt) 31) := by unfold bmv; rw [if_neg nb]
    rcases cls_in (ok := okb s (zf p)) (v := fun b => (mbv pl (anF f v y) g w pr fa wi ch b).toInt) 31 with q | ⟨q1, q2, q3⟩
    · exact absurd q nb
    obtain ⟨o1, o2, o3, o4⟩ := okb_pc q3
    have rm := r_meanOf a2 hp20 hk8 hso hr2 hm2 hch2 c99 sa hg o1.1 o1.2 o2
    rw [← eb] at rm
    have g251 : ∀ d, d < 5 → gI s2 251 d = nI (f d) := fun d hd => by rw [a3.i (by omega) (by omega) (by omega) (by omega)]; exact k3 d hd
    obtain ⟨s3, e3, m1, m2, m3⟩ := lp_run (F := fun i (x : zS) => zR 8 295 46 [some (.ref 176), some (.int (nI q0)), some (.int (nI p)), some (.int (nI k)), some (.int y), some (.int (nI (aal f v y))), some (.long (bmv s (zf p) pl (anF f v y) g w pr fa wi ch).toInt64), none, some (.int (nI i))] [] x) (fun i x => Sh x ∧ Un (fun r j => r = 234 ∧ 5 * p ≤ j ∧ j < 5 * p + 5) s2 x ∧ ∀ d, d < i → gI x 234 (5 * p + d) = nI (f d)) 5 (by
      rintro i x hi ⟨k1, k2, k3⟩
      have gf : gI x 251 i = nI (f i) := by rw [k2.i (by omega) (by omega) (by omega) (by omega)]; exact g251 i hi
      refine ⟨sI x 234 (5 * p + i) (nI (f i)), ?_, k1.sI (by omega), k2.trans (Un_sI (by omega)), fun d hd => ?_⟩
      · rw [q_X12_behind_46, if_neg (show ¬ (5 : Int32) ≤ nI i from nI_ge (b := 5) hi (by omega)), tg_176 k1, if_pos rfl, gR_176_73 k1, zeR_e, if_pos rfl, gR_176_94 k1, zeR_e, if_pos (ai_nI (.inl (tg_251 k1)) (ln_251 k1) hi (by omega)), nI_mulL 5 p, nI_add, if_pos (ai_nI (.inl (tg_234 k1)) (ln_234 k1) (show 5 * p + i < 100 by omega) (by omega)), zlt_e, ixn (by omega), ixn (by omega), gf, nI_1]
      · rw [gI_sI]
        by_cases q : d = i
        · subst q; rw [if_pos ⟨rfl, rfl⟩]
        · rw [if_neg (by omega)]; exact k3 d (by omega)) s2 ⟨a2, Un.refl _ _, fun d hd => by omega⟩
    refine ⟨s3, ?_, m1, (u2.mono (fun r j _ _ q => by omega)).trans (m2.mono (fun r j _ _ q => by omega)), fun j hj => ?_⟩
    · rw [q_X12_behind, tg_176 hS, if_pos rfl, r_allOf hS hp20 hq fr hv, zbI_e, if_neg (nI_ne0 h0' (by omega))]
      refine Eq.trans e1 ?_
      rw [q_X12_behind_12, if_pos (show (5 : Int32) ≤ nI 5 by decide), tg_176 k1, if_pos rfl, a1, zbV_e, tg_176 a2, if_pos rfl, rb, zbI_e, tg_176 a2, if_pos rfl, rm, zbI_e]
      refine Eq.trans e3 ?_
      rw [q_X12_behind_46, if_pos (show (5 : Int32) ≤ nI 5 by decide), nI_l (by omega), Int64.mul_comm]
      unfold wtA
      rw [if_neg h0]
    · by_cases q : 5 * p ≤ j ∧ j < 5 * p + 5
      · have ej : 5 * p + (j - 5 * p) = j := by omega
        have x1 := m3 (j - 5 * p) (by omega)
        have x2 := (fr (j - 5 * p) (by omega)).2
        rw [ej] at x1 x2
        rw [x1, x2]
      · rw [m2.i (by omega) (by omega) (by omega) (by omega), u2.i (by omega) (by omega) (by omega) (by omega)]
end
