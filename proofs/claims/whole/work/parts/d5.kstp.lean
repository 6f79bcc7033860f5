/-! step: both answer alike -/
def stx (v : Nat → Int) : Nat → Nat
  | 0 => 0
  | i + 1 => if i = 0 then 0 else if v (stx v i) < v i then i else stx v i
section
variable {σ σ' σ1 σ2 : zS} {s : Nat → Int32} {zf pl f f0 g : Nat → Nat} {B P S N M K np c n w b e y o d r p k so z pr fa wi ch lv A i : Nat} {t : Nat → Nat} {a b' : Int32} {kp : Nat}
theorem stx_le (v : Nat → Int) : ∀ i, stx v i ≤ i ∧ (1 ≤ i → stx v i < i)
  | 0 => ⟨Nat.le_refl _, fun h => by omega⟩
  | i + 1 => by
    have := stx_le v i
    show (if _ then _ else _) ≤ _ ∧ (_ → (if _ then _ else _) < _)
    by_cases q : i = 0
    · rw [if_pos q]; omega
    · rw [if_neg q]
      split <;> omega
theorem mvl_bd (hk : kp ≤ 1000000000000) (ha : -50000 ≤ a.toInt ∧ a.toInt ≤ 50000) (hb : -50000 ≤ b'.toInt ∧ b'.toInt ≤ 50000) : -5000000 ≤ (mvl kp a b').toInt ∧ (mvl kp a b').toInt ≤ 5000000 := by
  have e10 : (10000000000 : Int64).toInt = 10000000000 := by decide +kernel
  have es : (1000000000000 : Int64) - lN kp = lN (1000000000000 - kp) := by
    rw [show (1000000000000 : Int64) = lN 1000000000000 from rfl, lN_sub hk]
  have p1 : (kp : Int) * a.toInt ≤ (kp : Int) * 50000 := Int.mul_le_mul_of_nonneg_left ha.2 (by omega)
  have p2 : (kp : Int) * (-50000) ≤ (kp : Int) * a.toInt := Int.mul_le_mul_of_nonneg_left ha.1 (by omega)
  have p3 : ((1000000000000 - kp : Nat) : Int) * b'.toInt ≤ ((1000000000000 - kp : Nat) : Int) * 50000 := Int.mul_le_mul_of_nonneg_left hb.2 (by omega)
  have p4 : ((1000000000000 - kp : Nat) : Int) * (-50000) ≤ ((1000000000000 - kp : Nat) : Int) * b'.toInt := Int.mul_le_mul_of_nonneg_left hb.1 (by omega)
  have eX : (lN kp * a.toInt64 + lN (1000000000000 - kp) * b'.toInt64).toInt = (kp : Int) * a.toInt + ((1000000000000 - kp : Nat) : Int) * b'.toInt := by
    rw [Int64.toInt_add, Int64.toInt_mul, Int64.toInt_mul, pk_lT (by omega), pk_lT (by omega), Int32.toInt_toInt64, Int32.toInt_toInt64, Int.bmod_eq_of_le (n := ((kp : Int) * a.toInt)) (by omega) (by omega), Int.bmod_eq_of_le (n := (((1000000000000 - kp : Nat) : Int) * b'.toInt)) (by omega) (by omega), Int.bmod_eq_of_le (by omega) (by omega)]
  unfold mvl
  rw [es, Int64.toInt_toInt32, fdv_ti (by rw [e10]; omega), e10, eX]
  generalize (kp : Int) * a.toInt = u at *
  generalize ((1000000000000 - kp : Nat) : Int) * b'.toInt = v at *
  rw [Int.bmod_eq_of_le (by omega) (by omega)]
  omega
theorem mbv_bd (hpl : ∀ d, d < 5 → pl d ≤ 100) (hf : f 0 + f 1 + f 2 + f 3 + f 4 = 10000) (hg : g 0 + g 1 + g 2 = 10000) (h1 : pr ≤ 9999) (h2 : fa ≤ 9999) (h3 : wi ≤ 9999) (h4 : ch ≤ 99) (hb : pc b ≤ 3) : -5000000 ≤ (mbv pl f g w pr fa wi ch b).toInt ∧ (mbv pl f g w pr fa wi ch b).toInt ≤ 5000000 := by
  have kn := kal_none (w := w) (b := b) hpl hf hg
  exact mvl_bd (by omega) (mK_ti h1 h2 h3 hb) (mN_ti h4 h2 h3 hb)
theorem odv_0 (m lv : Int32) : odv lv (nI 0) m = m := by
  have e0 : (100 : Int32) - lv * nI 0 = 100 := by rw [nI_0, Int32.mul_zero, Int32.sub_zero]
  have e1 : (100 : Int32).toInt64 = 100 := by decide
  have e2 : (100 : Int64).toInt = 100 := by decide
  unfold odv
  rw [e0, if_pos (by decide), e1]
  have m1 := Int32.toInt_lt m
  have m2 := Int32.le_toInt m
  apply Int32.toInt_inj.mp
  rw [Int64.toInt_toInt32, fdv_ti (by rw [e2]; omega), e2, Int64.toInt_mul, Int32.toInt_toInt64, e2, Int.bmod_eq_of_le (n := m.toInt * 100) (by omega) (by omega), Int.bmod_eq_of_le (by omega) (by omega)]
  omega
/-- one cell written and restored, and scratch -/
theorem Un_back (u : Un (fun r j => r = 223 ∧ j = 5) σ σ1) (h : gI σ1 223 5 = gI σ 223 5) (hL : ∀ r j, gL σ1 r j = gL σ r j) (hR : ∀ r j, gR σ1 r j = gR σ r j) : Un Xs σ σ1 := ⟨u.1, fun r j a b c d => by
  refine ⟨?_, hL r j, hR r j⟩
  by_cases q : r = 223 ∧ j = 5
  · rw [q.1, q.2]; exact h
  · exact (u.2.1 r j a b c q).1, u.2.2⟩
theorem stx_1 (v : Nat → Int) : stx v (0 + 1) = 0 := rfl
theorem stx_s (v : Nat → Int) {i : Nat} (hi : ¬ i = 0) : stx v (i + 1) = if v (stx v i) < v i then i else stx v i := by
  show (if _ then _ else _) = _
  rw [if_neg hi]
theorem c_stepL (hS : Sh σ) (sv : Nat → Int32) (h0 : -1000000000 < (sv 0).toInt) (hm : ∀ i, i < 100 → ∃ m, zM 147 [.ref 6, .int (nI k), .int (nI b), .int (nI i)] σ = some (some (.int m), σ) ∧ zM 148 [.ref 6, .int m, .ref (116 + 3 * p), .int (nI i)] σ = some (some (.int (sv i)), σ)) : zR 5 170 25 [some (.ref 6), some (.int (nI p)), some (.int (nI k)), some (.int (nI b)), some (.ref (116 + 3 * p)), some (.int 0), some (.int (-1000000000)), some (.int 0), none] [] σ = some (some (.int (nI (stx (fun i => (sv i).toInt) 100))), σ) := by
  obtain ⟨u8, k1, -⟩ := lp_run (F := fun i (u : Option Value) => zR 5 170 25 [some (.ref 6), some (.int (nI p)), some (.int (nI k)), some (.int (nI b)), some (.ref (116 + 3 * p)), some (.int (nI (stx (fun i => (sv i).toInt) i))), some (.int (if i = 0 then -1000000000 else sv (stx (fun i => (sv i).toInt) i))), some (.int (nI i)), u] [] σ) (fun _ _ => True) 100 (by
    rintro i u hi -
    obtain ⟨m, m1, m2⟩ := hm i hi
    refine ⟨some (.int (sv i)), ?_, trivial⟩
    rw [q_X11_step_25, if_neg (show ¬ (99 : Int32) < nI i from nI_nlt (a := 99) (by omega) (by omega)), tg_6 hS, if_pos rfl, m1, zbI_e, tg_6 hS, if_pos rfl, m2, zbI_e, nI_1]
    by_cases q0 : i = 0
    · subst q0
      have ng : ¬ sv 0 ≤ -1000000000 := by
        rw [Int32.le_iff_toInt_le]
        have : (-1000000000 : Int32).toInt = -1000000000 := by decide
        omega
      rw [if_pos rfl, if_neg ng, stx_1, if_neg (show ¬ 0 + 1 = 0 by omega)]
    · rw [if_neg q0, stx_s _ q0, if_neg (show ¬ i + 1 = 0 by omega)]
      generalize stx (fun i => (sv i).toInt) i = x
      by_cases q1 : (sv x).toInt < (sv i).toInt
      · rw [if_neg (show ¬ sv i ≤ sv x by rw [Int32.le_iff_toInt_le]; omega), if_pos q1]
      · rw [if_pos (show sv i ≤ sv x by rw [Int32.le_iff_toInt_le]; omega), if_neg q1]) none trivial
  refine Eq.trans k1 ?_
  rw [q_X11_step_25, if_pos (show (99 : Int32) < nI 100 by decide)]
theorem r_stepL (hS : Sh σ) (sv : Nat → Int32) (hm : ∀ i, i < 100 → ∀ s, Sh s → Un (fun r j => r = 223 ∧ j = 5) σ s → gI s 223 5 = nI i → ∃ m, zM 257 [.ref 176, .int (nI p), .int (nI k), .int (nI b)] s = some (some (.int m), s) ∧ zM 258 [.ref 176, .int (nI p), .int m] s = some (some (.int (sv i)), s)) : ∃ s, zR 7 299 19 [some (.ref 176), some (.int (nI p)), some (.int (nI k)), some (.int (nI b)), some (.int (nI ch)), some (.int (-1)), some (.int 0), some (.int 0), none] [] σ = some (some (.int (nI (stx (fun i => (sv i).toInt) 100))), sI s 223 5 (nI ch)) ∧ Sh s ∧ Un (fun r j => r = 223 ∧ j = 5) σ s ∧ (∀ r j, gL s r j = gL σ r j) ∧ ∀ r j, gR s r j = gR σ r j := by
  obtain ⟨⟨σ2, u8⟩, k2, r1, r2, r3, r4⟩ := lp_run (F := fun i (u : zS × Option Value) => zR 7 299 19 [some (.ref 176), some (.int (nI p)), some (.int (nI k)), some (.int (nI b)), some (.int (nI ch)), some (.int (if i = 0 then -1 else nI (stx (fun i => (sv i).toInt) i))), some (.int (if i = 0 then 0 else sv (stx (fun i => (sv i).toInt) i))), some (.int (nI i)), u.2] [] u.1) (fun _ u => Sh u.1 ∧ Un (fun r j => r = 223 ∧ j = 5) σ u.1 ∧ (∀ r j, gL u.1 r j = gL σ r j) ∧ ∀ r j, gR u.1 r j = gR σ r j) 100 (by
    rintro i ⟨s, u⟩ hi ⟨r1, r2, r3, r4⟩
    have r1 : Sh s := r1
    have hS3 : Sh (sI s 223 5 (nI i)) := r1.sI (by omega)
    have u3 : Un (fun r j => r = 223 ∧ j = 5) σ (sI s 223 5 (nI i)) := Un.trans r2 (Un_sI ⟨rfl, rfl⟩)
    obtain ⟨m, m1, m2⟩ := hm i hi _ hS3 u3 (by rw [gI_sI, if_pos ⟨rfl, rfl⟩])
    have a5 : ai s 32 32 223 5 = true := ai_nI (k := 5) (.inl (tg_223 r1)) (ln_223 r1) (by omega) (by omega)
    have sl := stx_le (fun i => (sv i).toInt) i
    refine ⟨(sI s 223 5 (nI i), some (.int (sv i))), ?_, hS3, u3, fun r j => by rw [gL_sI]; exact r3 r j, fun r j => by rw [gR_sI]; exact r4 r j⟩
    show zR 7 299 19 [some (.ref 176), some (.int (nI p)), some (.int (nI k)), some (.int (nI b)), some (.int (nI ch)), some (.int (if i = 0 then -1 else nI (stx (fun i => (sv i).toInt) i))), some (.int (if i = 0 then 0 else sv (stx (fun i => (sv i).toInt) i))), some (.int (nI i)), u] [] s = _
    rw [q_X12_step_19, if_neg (show ¬ (100 : Int32) ≤ nI i from nI_ge (b := 100) hi (by omega)), tg_176 r1, if_pos rfl, gR_176_56 r1, zeR_e, if_pos a5, zlt_e, show ix (5 : Int32) = 5 from rfl, tg_176 hS3, if_pos rfl, m1, zbI_e, tg_176 hS3, if_pos rfl, m2, zbI_e]
    by_cases q0 : i = 0
    · subst q0
      rw [if_pos rfl, if_pos rfl, stx_1, if_neg (show ¬ 0 + 1 = 0 by omega), if_neg (show ¬ 0 + 1 = 0 by omega), q_X12_step_47, nI_1]
    · rw [if_neg q0, if_neg q0, stx_s _ q0, if_neg (show ¬ i + 1 = 0 by omega), if_neg (show ¬ i + 1 = 0 by omega)]
      generalize stx (fun i => (sv i).toInt) i = x at sl
      rw [if_neg (show ¬ nI x = -1 from nI_nm1 (by omega))]
      by_cases q1 : (sv x).toInt < (sv i).toInt
      · rw [if_pos (show sv x < sv i by rw [Int32.lt_iff_toInt_lt]; exact q1), if_pos q1, q_X12_step_47, nI_1]
      · rw [if_neg (show ¬ sv x < sv i by rw [Int32.lt_iff_toInt_lt]; exact q1), if_neg q1, q_X12_step_47, nI_1]) (σ, none) ⟨hS, Un.refl _ _, fun _ _ => rfl, fun _ _ => rfl⟩
  have r1 : Sh σ2 := r1
  have a6 : ai σ2 32 32 223 5 = true := ai_nI (k := 5) (.inl (tg_223 r1)) (ln_223 r1) (by omega) (by omega)
  refine ⟨σ2, ?_, r1, r2, r3, r4⟩
  refine Eq.trans k2 ?_
  show zR 7 299 19 [some (.ref 176), some (.int (nI p)), some (.int (nI k)), some (.int (nI b)), some (.int (nI ch)), some (.int (if 100 = 0 then -1 else nI (stx (fun i => (sv i).toInt) 100))), some (.int _), some (.int (nI 100)), u8] [] σ2 = _
  rw [q_X12_step_19, if_pos (show (100 : Int32) ≤ nI 100 by decide), tg_176 r1, if_pos rfl, gR_176_56 r1, zeR_e, if_pos a6, zlt_e, show ix (5 : Int32) = 5 from rfl, if_neg (show ¬ 100 = 0 by omega)]
theorem op_step (h : RR B σ c P S N M K np t n) (a l x : Int32) : Al B σ c 170 [.ref 6, .int a, .int l, .int x] 299 [.ref 176, .int a, .int l, .int x] := by
  have hS := h.1
  have hP := h.2.1.1
  have hbb := HPb hP
  have p20 := (RR_pn h).1
  have n8 := (RR_hn h).1.2.1
  have h65 := h.2.1.2.2.2.1
  obtain ⟨zf, hz⟩ := RR_zf h
  by_cases hq : BX np N zf a l x
  · have hq' := hq
    obtain ⟨p, k, b, hp, hk, b1, b2, b3, b4, rfl, rfl, rfl⟩ := hq
    have hp20 : p < 20 := by omega
    have hk8 : k < 8 := by omega
    obtain ⟨so, pl, f, g, w, s1, s4, f1, g1, hc, hr⟩ := RR_wd h hp hk
    obtain ⟨pr, fa, wi, ch, lv, c99, l100, hm, hm2, hc1, hc2, hl1, hl2⟩ := RR_md h hk s1
    obtain ⟨σ1, e1, e2, e3, e4, e5⟩ := c_lo (A := 117 + 3 * p) hS hP h65 hp20 hk8 s4 hc (tg_pfeet hS hp20) (ln_pfeet hS hp20) (by omega) hc.2.2.2.2.1
    have ux : Un Xs σ σ1 := e3.mono (fun r j _ _ q => by unfold Xs; omega)
    have h' := RR_xs h ux e2
    have e65 : gR σ1 6 5 = some P := h'.2.1.2.2.2.1
    have hcx := CW_xs hc hP hp20 hk8 s4 ux
    have hrx := RW_xs hr hp20 hk8 s4 ux
    have hmx := CM_xs hm hP hk8 ux
    have hmx2 := RM_xs hm2 hk8 ux
    have hl1' : gI σ1 (P + 24 + 2 * so) 4 = nI lv := by rw [e3.i (by omega) (by omega) (by omega) (by omega)]; exact hl1
    have hl2' : gI σ1 220 (4 + so) = nI lv := by rw [e3.i (by omega) (by omega) (by omega) (by omega)]; exact hl2
    have hc2' : gI σ1 223 5 = nI ch := by rw [e3.i (by omega) (by omega) (by omega) (by omega)]; exact hc2
    have hz' := ZF_xs hz p20 ux
    have v0 := mbv_bd (w := w) (ch := 0) (b := b) (fun d hd => (hr.1 d hd).1) f1 g1 hm.2.2.2.2.2 hm.2.2.2.1 hm.2.2.2.2.1 (by omega) b3
    have sv0 : -1000000000 < (odv (nI lv) (nI 0) (mbv pl f g w pr fa wi 0 b)).toInt := by rw [odv_0]; exact Int.lt_of_lt_of_le (by decide) v0.1
    have k1 := c_stepL (p := p) (k := k) (b := b) e2 (fun i => odv (nI lv) (nI i) (mbv pl f g w pr fa wi i b)) sv0 (fun i hi => ⟨_, c_mean1 (ch := i) e2 hP e65 hk8 e4 hmx b1 b2 b3 e5, c_ord (ch := i) e2 hP e65 hp20 s4 hcx.2.1 hl1' (mbv pl f g w pr fa wi i b)⟩)
    obtain ⟨σ2, k2, r1, r2, r3, r4⟩ := r_stepL (p := p) (k := k) (b := b) (ch := ch) e2 (fun i => odv (nI lv) (nI i) (mbv pl f g w pr fa wi i b)) (fun i hi s hS3 u3 hc3 => by
      have hr3 : RW s p k so pl f g w := by
        obtain ⟨y1, y2, y3, y4, y5, y6⟩ := hrx
        refine ⟨fun d hd => ⟨(y1 d hd).1, ?_⟩, ?_, ?_, y4, fun d hd => ⟨(y5 d hd).1, ?_⟩, fun r hr => ⟨(y6 r hr).1, ?_⟩⟩
        · rw [u3.i (by omega) (by omega) (by omega) (by omega)]; exact (y1 d hd).2
        · rw [u3.i (by omega) (by omega) (by omega) (by omega)]; exact y2
        · rw [u3.i (by omega) (by omega) (by omega) (by omega)]; exact y3
        · rw [u3.i (by omega) (by omega) (by omega) (by omega)]; exact (y5 d hd).2
        · rw [u3.i (by omega) (by omega) (by omega) (by omega)]; exact (y6 r hr).2
      have hm3 : RM s k pr fa wi := by
        obtain ⟨y1, y2, y3, y4⟩ := hmx2
        refine ⟨?_, ?_, ?_, y4⟩
        · rw [u3.i (by omega) (by omega) (by omega) (by omega)]; exact y1
        · rw [u3.i (by omega) (by omega) (by omega) (by omega)]; exact y2
        · rw [u3.i (by omega) (by omega) (by omega) (by omega)]; exact y3
      have hl3 : gI s 220 (4 + so) = nI lv := by rw [u3.i (by omega) (by omega) (by omega) (by omega)]; exact hl2'
      exact ⟨_, r_meanOf hS3 hp20 hk8 s4 hr3 hm3 hc3 (show i ≤ 99 by omega) f1 g1 b1 b2 b3, r_ord hS3 hp20 s4 hr3.2.1 hl3 hc3 (mbv pl f g w pr fa wi i b)⟩)
    have hS4 : Sh (sI σ2 223 5 (nI ch)) := r1.sI (by omega)
    have u4 : Un Xs σ1 (sI σ2 223 5 (nI ch)) := Un_back (r2.trans (Un_sI ⟨rfl, rfl⟩)) (by rw [gI_sI, if_pos ⟨rfl, rfl⟩]; exact hc2'.symm) (fun r j => by rw [gL_sI]; exact r3 r j) (fun r j => by rw [gR_sI]; exact r4 r j)
    refine ⟨nI (stx (fun i => (odv (nI lv) (nI i) (mbv pl f g w pr fa wi i b)).toInt) 100), σ1, sI σ2 223 5 (nI ch), ?_, e2, ?_, P, S, N, M, K, np, t, n, RR_mono (RR_xs h' u4 hS4) (by omega)⟩
    · rw [q_X11_step, tg_6 hS, if_pos rfl, (c_isBox h hz _ _ _).1 hq', zbI_e, if_neg (by decide), tg_6 hS, if_pos rfl, gR_6_9 hS, zeR_e, if_pos (ai_nI (.inl (tg_104 hS)) (ln_104 hS) hp20 (by omega)), ixn (by omega), gR_people hS hp20, zeR_e, tg_person hS hp20, if_pos rfl, gR_pfeet hS hp20, zeR_e, if_pos rfl, e1, zbV_e, k1]
    · have a5 : ai σ1 32 48 223 5 = true := ai_nI (k := 5) (.inl (tg_223 e2)) (ln_223 e2) (by omega) (by omega)
      rw [q_X12_step, tg_176 e2, if_pos rfl, (r_isBox h' hz' _ _ _).1 hq', zbI_e, if_neg (by decide), tg_176 e2, if_pos rfl, gR_176_56 e2, zeR_e, if_pos a5, show ix (5 : Int32) = 5 from rfl, hc2', k2]
  · refine Al_rd h (-1) ?_ ?_
    · rw [q_X11_step, tg_6 hS, if_pos rfl, (c_isBox h hz a l x).2 hq, zbI_e, if_pos rfl]
    · rw [q_X12_step, tg_176 hS, if_pos rfl, (r_isBox h hz a l x).2 hq, zbI_e, if_pos rfl]
end
