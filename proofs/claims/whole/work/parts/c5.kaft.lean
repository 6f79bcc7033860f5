/-! after, teaches: both answer alike -/
section
variable {σ σ' σ1 σ2 : zS} {zf pl f g : Nat → Nat} {B P S N M K np c n w b e y o d r p k so z : Nat} {t : Nat → Nat}
theorem r_tauN (h : RR B σ c P S N M K np t n) (hz : ZF σ np zf) {a l x : Int32} (hq : ¬ BX np N zf a l x) (e : Int32) : zM 282 [.ref 176, .int a, .int l, .int x, .int e] σ = some (some (.int 0), σ) := by
  rw [q_X12_isTaught, tg_176 h.1, if_pos rfl, (r_isBox h hz a l x).2 hq, zbI_e, if_pos rfl]
theorem r_tauO (h : RR B σ c P S N M K np t n) (hz : ZF σ np zf) {a l : Int32} (hq : BX np N zf a l (nI b)) (hb : b < 32) {e : Int32} (ho : ¬ ∃ o, OC b e o) : zM 282 [.ref 176, .int a, .int l, .int (nI b), .int e] σ = some (some (.int 0), σ) := by
  rw [q_X12_isTaught, tg_176 h.1, if_pos rfl, (r_isBox h hz a l (nI b)).1 hq, zbI_e, if_neg (by decide), r_m23, zbI_e]
  rcases oc_or hb e with q | q | ⟨q0, o, o5, h2, h3, h4, h5, h6⟩
  · exact absurd q ho
  · rw [if_neg q, if_pos rfl]
  · rw [if_pos q0, if_neg (by decide), if_neg h3, h2, bit_sh b hb o (by omega), h6, if_neg (by decide)]
theorem r_tauY (h : RR B σ c P S N M K np t n) (hz : ZF σ np zf) {a l : Int32} (hq : BX np N zf a l (nI b)) (hb : b < 32) {e : Int32} (ho : OC b e o) : zM 282 [.ref 176, .int a, .int l, .int (nI b), .int e] σ = zbL (zM 253 [.ref 176, .int a, .int l, .int (nI b), .int (nI o), .int (-1), .int (-1)] σ) (fun y1 σ1 => if (lg_cmp y1 0) ≤ 0 then (some (some (.int 0), σ1)) else (some (some (.int 1), σ1))) := by
  have r24 : zR 6 282 24 [some (.ref 176), some (.int a), some (.int l), some (.int (nI b)), some (.int e)] [] σ = zbL (zM 253 [.ref 176, .int a, .int l, .int (nI b), .int (nI o), .int (-1), .int (-1)] σ) (fun y1 σ1 => if (lg_cmp y1 0) ≤ 0 then (some (some (.int 0), σ1)) else (some (some (.int 1), σ1))) := by
    rw [q_X12_isTaught_24, tg_176 h.1, if_pos rfl, ho.2.1]
  obtain ⟨h1, h2, h3, h4, h5⟩ := ho
  rw [q_X12_isTaught, tg_176 h.1, if_pos rfl, (r_isBox h hz a l (nI b)).1 hq, zbI_e, if_neg (by decide), r_m23, zbI_e, if_pos h3, if_neg (by decide)]
  by_cases q : e = 3
  · rw [if_pos q, r24]
  · have o5 : o ≠ 5 := fun z => q (h4.mpr z)
    rcases h5 with h5 | h5
    · exact absurd h5 o5
    · rw [if_neg q, h2, bit_sh b hb o (by omega), h5, if_pos (by decide), r24]
theorem l_pos {v : Nat} (hv : v < 2 ^ 63) : (0 < lg_cmp (lN v) 0) = (0 < v) := by
  rw [cmp_gt]
  exact propext (pk_lLT (a := 0) (by omega) hv)
theorem l_npos {v : Nat} (hv : v < 2 ^ 63) : (lg_cmp (lN v) 0 ≤ 0) = (v = 0) := by
  rw [cmp_le]
  apply propext
  have := pk_lLE (a := v) (b := 0) hv (by omega)
  exact ⟨fun z => Nat.le_zero.mp (this.mp z), fun z => this.mpr (by omega)⟩
theorem op_after (h : RR B σ c P S N M K np t n) (a l x e d : Int32) : Al B σ c 142 [.ref 6, .int a, .int l, .int x, .int e, .int d] 283 [.ref 176, .int a, .int l, .int x, .int e, .int d] := by
  have hS := h.1
  have p20 := (RR_pn h).1
  have n8 := (RR_hn h).1.2.1
  obtain ⟨zf, hz⟩ := RR_zf h
  by_cases hq : BX np N zf a l x
  · have hq' := hq
    obtain ⟨p, k, b, hp, hk, b1, b2, b3, b4, rfl, rfl, rfl⟩ := hq
    by_cases ho : ∃ o, OC b e o
    · obtain ⟨o, ho⟩ := ho
      obtain ⟨so, pl, f, g, w, s1, s4, f1, g1, hc, hr⟩ := RR_wd h hp hk
      have wl : wall pl f g w b o ≤ 1000000000000 := wall_le (fun d hd => (hr.1 d hd).1) f1 g1
      obtain ⟨σ1, e1, e2, e3, e4, e5⟩ := c_xw hS h.2.1.1 h.2.1.2.2.2.1 (by omega) (by omega) s4 hc b1 b2 ho.1
      have h' := RR_xs h e3 e2
      have hz' := ZF_xs hz p20 e3
      have hr' := RW_xs hr (by omega) (by omega) s4 e3
      have ck : zM 140 [.ref 6, .int (nI p), .int (nI k), .int (nI b), .int e] σ = some (some (.long (lN (wall pl f g w b o))), σ1) := by
        rw [c_keepsY h hz hq' b2 ho, e1, zbL_e]
      by_cases qd : -2 ≤ d ∧ d ≤ 2
      · obtain ⟨j, j1, j2, j3⟩ := sh_ix d (-2) 2 2 (by decide) (by omega) (by decide) qd
        have j5 : j < 5 := by have : (2 : Int32).toInt = 2 := by decide
                              omega
        have j1 : d + 2 = nI j := j1
        by_cases q0 : 0 < wall pl f g w b o
        · obtain ⟨σ2, a1, a2, a3, a4, a5⟩ := c_learn (W := 106) (A := 112) (n := 5) (v := wrow pl f g w b o) e2 (by omega) (tg_106 e2) (ln_106 e2) (tg_112 e2) (ln_112 e2) (by omega) e4 q0 wl
          have u2 : Un Xs σ1 σ2 := a3.mono (fun r j _ _ z => by unfold Xs; omega)
          have h2 := RR_xs h' u2 a2
          have hr2 := RW_xs hr' (by omega) (by omega) s4 u2
          obtain ⟨σ3, b5, b6, b7, b8, -⟩ := r_would a2 (by omega) (by omega) s4 hr2 f1 g1 b1 b2 ho.1 q0
          have u3 : Un Xs σ2 σ3 := b7.mono (fun r j _ _ z => by unfold Xs; omega)
          refine ⟨nI (crt (fun i => 10000 * wrow pl f g w b o i / wall pl f g w b o) 5 j), σ2, σ3, ?_, a2, ?_, P, S, N, M, K, np, t, n, RR_mono (RR_xs h2 u3 b6) (by omega)⟩
          · rw [q_X11_after, sg_c, zbI_e, if_pos qd, if_neg (by decide), tg_6 hS, if_pos rfl, ck, zbL_e, if_pos (by rw [l_pos (by omega)]; exact q0), tg_6 e2, if_pos rfl, gR_6_13 e2, zeR_e, tg_105 e2, if_pos rfl, gR_105_0 e2, zeR_e, if_pos rfl, gR_6_15 e2, zeR_e, a1, zbV_e, q_X11_after_20, tg_6 a2, if_pos rfl, gR_6_15 a2, zeR_e, j1, if_pos (ai_nI (.inl (tg_112 a2)) (ln_112 a2) j5 (by omega)), ixn (by omega), a5 j j5]
            rfl
          · rw [q_X12_after, tg_176 a2, if_pos rfl, r_tauY h2 (ZF_xs hz' p20 u2) hq' b2 ho, r_weights a2 (by omega) (by omega) s4 hr2 b1 b2 ho.1, zbL_e, wsel_all, if_neg (by rw [l_npos (by omega)]; omega), zbI_e, if_neg (by decide), sg_r, zbI_e, if_pos qd, if_neg (by decide), tg_176 a2, if_pos rfl, ho.2.1, b5, zbV_e, q_X12_after_23, tg_176 b6, if_pos rfl, gR_176_92 b6, zeR_e, j1, if_pos (ai_nI (.inl (tg_249 b6)) (ln_249 b6) j5 (by omega)), ixn (by omega), b8 j j5]
        · refine ⟨-1, σ1, σ1, ?_, e2, ?_, P, S, N, M, K, np, t, n, RR_mono h' (by omega)⟩
          · rw [q_X11_after, sg_c, zbI_e, if_pos qd, if_neg (by decide), tg_6 hS, if_pos rfl, ck, zbL_e, if_neg (by rw [l_pos (by omega)]; exact q0)]
          · rw [q_X12_after, tg_176 e2, if_pos rfl, r_tauY h' hz' hq' b2 ho, r_weights e2 (by omega) (by omega) s4 hr' b1 b2 ho.1, zbL_e, wsel_all, if_pos (by rw [l_npos (by omega)]; omega), zbI_e, if_pos rfl]
      · refine Al_rd h (-1) ?_ ?_
        · rw [q_X11_after, sg_c, zbI_e, if_neg qd, if_pos rfl]
        · rw [q_X12_after, tg_176 hS, if_pos rfl, r_tauY h hz hq' b2 ho, r_weights hS (by omega) (by omega) s4 hr b1 b2 ho.1, zbL_e]
          by_cases q0 : lg_cmp (lN (smN (fun d => smN (wsel pl f g w b o (-1) (-1) d) 3) 5)) 0 ≤ 0
          · rw [if_pos q0, zbI_e, if_pos rfl]
          · rw [if_neg q0, zbI_e, if_neg (by decide), sg_r, zbI_e, if_neg qd, if_pos rfl]
    · refine Al_rd h (-1) ?_ ?_
      · rw [q_X11_after, sg_c, zbI_e]
        by_cases qd : -2 ≤ d ∧ d ≤ 2
        · rw [if_pos qd, if_neg (by decide), tg_6 hS, if_pos rfl, c_keepsO h hz hq' b2 ho, zbL_e, if_neg (by decide)]
        · rw [if_neg qd, if_pos rfl]
      · rw [q_X12_after, tg_176 hS, if_pos rfl, r_tauO h hz hq' b2 ho, zbI_e, if_pos rfl]
  · refine Al_rd h (-1) ?_ ?_
    · rw [q_X11_after, sg_c, zbI_e]
      by_cases qd : -2 ≤ d ∧ d ≤ 2
      · rw [if_pos qd, if_neg (by decide), tg_6 hS, if_pos rfl, c_keepsN h hz hq e, zbL_e, if_neg (by decide)]
      · rw [if_neg qd, if_pos rfl]
    · rw [q_X12_after, tg_176 hS, if_pos rfl, r_tauN h hz hq e, zbI_e, if_pos rfl]
theorem op_teaches (h : RR B σ c P S N M K np t n) (a l x e d : Int32) : Al B σ c 143 [.ref 6, .int a, .int l, .int x, .int e, .int d] 284 [.ref 176, .int a, .int l, .int x, .int e, .int d] := by
  have hS := h.1
  have p20 := (RR_pn h).1
  have n8 := (RR_hn h).1.2.1
  obtain ⟨zf, hz⟩ := RR_zf h
  by_cases hq : BX np N zf a l x
  · have hq' := hq
    obtain ⟨p, k, b, hp, hk, b1, b2, b3, b4, rfl, rfl, rfl⟩ := hq
    by_cases ho : ∃ o, OC b e o
    · obtain ⟨o, ho⟩ := ho
      obtain ⟨so, pl, f, g, w, s1, s4, f1, g1, hc, hr⟩ := RR_wd h hp hk
      have wl : wall pl f g w b o ≤ 1000000000000 := wall_le (fun d hd => (hr.1 d hd).1) f1 g1
      obtain ⟨σ1, e1, e2, e3, e4, e5⟩ := c_xw hS h.2.1.1 h.2.1.2.2.2.1 (by omega) (by omega) s4 hc b1 b2 ho.1
      have h' := RR_xs h e3 e2
      have hz' := ZF_xs hz p20 e3
      have hr' := RW_xs hr (by omega) (by omega) s4 e3
      have ck : zM 140 [.ref 6, .int (nI p), .int (nI k), .int (nI b), .int e] σ = some (some (.long (lN (wall pl f g w b o))), σ1) := by
        rw [c_keepsY h hz hq' b2 ho, e1, zbL_e]
      by_cases qd : -1 ≤ d ∧ d ≤ 1
      · obtain ⟨j, j1, j2, j3⟩ := sh_ix d (-1) 1 1 (by decide) (by omega) (by decide) qd
        have j5 : j < 3 := by have : (1 : Int32).toInt = 1 := by decide
                              omega
        have j1 : d + 1 = nI j := j1
        by_cases q0 : 0 < wall pl f g w b o
        · obtain ⟨σ2, a1, a2, a3, a4, a5⟩ := c_learn (W := 107) (A := 113) (n := 3) (v := wcol pl f g w b o) e2 (by omega) (tg_107 e2) (ln_107 e2) (tg_113 e2) (ln_113 e2) (by omega) e5 (by rw [wcol_all]; exact q0) (by rw [wcol_all]; exact wl)
          rw [wcol_all] at a5
          have u2 : Un Xs σ1 σ2 := a3.mono (fun r j _ _ z => by unfold Xs; omega)
          have h2 := RR_xs h' u2 a2
          have hr2 := RW_xs hr' (by omega) (by omega) s4 u2
          obtain ⟨σ3, b5, b6, b7, -, b8⟩ := r_would a2 (by omega) (by omega) s4 hr2 f1 g1 b1 b2 ho.1 q0
          have u3 : Un Xs σ2 σ3 := b7.mono (fun r j _ _ z => by unfold Xs; omega)
          refine ⟨nI (crt (fun i => 10000 * wcol pl f g w b o i / wall pl f g w b o) 3 j), σ2, σ3, ?_, a2, ?_, P, S, N, M, K, np, t, n, RR_mono (RR_xs h2 u3 b6) (by omega)⟩
          · rw [q_X11_teaches, sr_c, zbI_e, if_pos qd, if_neg (by decide), tg_6 hS, if_pos rfl, ck, zbL_e, if_pos (by rw [l_pos (by omega)]; exact q0), tg_6 e2, if_pos rfl, gR_6_13 e2, zeR_e, tg_105 e2, if_pos rfl, gR_105_1 e2, zeR_e, if_pos rfl, gR_6_16 e2, zeR_e, a1, zbV_e, q_X11_teaches_20, tg_6 a2, if_pos rfl, gR_6_16 a2, zeR_e, j1, if_pos (ai_nI (.inl (tg_113 a2)) (ln_113 a2) j5 (by omega)), ixn (by omega), a5 j j5]
          · rw [q_X12_teaches, tg_176 a2, if_pos rfl, r_tauY h2 (ZF_xs hz' p20 u2) hq' b2 ho, r_weights a2 (by omega) (by omega) s4 hr2 b1 b2 ho.1, zbL_e, wsel_all, if_neg (by rw [l_npos (by omega)]; omega), zbI_e, if_neg (by decide), sr_r, zbI_e, if_pos qd, if_neg (by decide), tg_176 a2, if_pos rfl, ho.2.1, b5, zbV_e, q_X12_teaches_23, tg_176 b6, if_pos rfl, gR_176_93 b6, zeR_e, j1, if_pos (ai_nI (.inl (tg_250 b6)) (ln_250 b6) j5 (by omega)), ixn (by omega), b8 j j5]
        · refine ⟨-1, σ1, σ1, ?_, e2, ?_, P, S, N, M, K, np, t, n, RR_mono h' (by omega)⟩
          · rw [q_X11_teaches, sr_c, zbI_e, if_pos qd, if_neg (by decide), tg_6 hS, if_pos rfl, ck, zbL_e, if_neg (by rw [l_pos (by omega)]; exact q0)]
          · rw [q_X12_teaches, tg_176 e2, if_pos rfl, r_tauY h' hz' hq' b2 ho, r_weights e2 (by omega) (by omega) s4 hr' b1 b2 ho.1, zbL_e, wsel_all, if_pos (by rw [l_npos (by omega)]; omega), zbI_e, if_pos rfl]
      · refine Al_rd h (-1) ?_ ?_
        · rw [q_X11_teaches, sr_c, zbI_e, if_neg qd, if_pos rfl]
        · rw [q_X12_teaches, tg_176 hS, if_pos rfl, r_tauY h hz hq' b2 ho, r_weights hS (by omega) (by omega) s4 hr b1 b2 ho.1, zbL_e]
          by_cases q0 : lg_cmp (lN (smN (fun d => smN (wsel pl f g w b o (-1) (-1) d) 3) 5)) 0 ≤ 0
          · rw [if_pos q0, zbI_e, if_pos rfl]
          · rw [if_neg q0, zbI_e, if_neg (by decide), sr_r, zbI_e, if_neg qd, if_pos rfl]
    · refine Al_rd h (-1) ?_ ?_
      · rw [q_X11_teaches, sr_c, zbI_e]
        by_cases qd : -1 ≤ d ∧ d ≤ 1
        · rw [if_pos qd, if_neg (by decide), tg_6 hS, if_pos rfl, c_keepsO h hz hq' b2 ho, zbL_e, if_neg (by decide)]
        · rw [if_neg qd, if_pos rfl]
      · rw [q_X12_teaches, tg_176 hS, if_pos rfl, r_tauO h hz hq' b2 ho, zbI_e, if_pos rfl]
  · refine Al_rd h (-1) ?_ ?_
    · rw [q_X11_teaches, sr_c, zbI_e]
      by_cases qd : -1 ≤ d ∧ d ≤ 1
      · rw [if_pos qd, if_neg (by decide), tg_6 hS, if_pos rfl, c_keepsN h hz hq e, zbL_e, if_neg (by decide)]
      · rw [if_neg qd, if_pos rfl]
    · rw [q_X12_teaches, tg_176 hS, if_pos rfl, r_tauN h hz hq e, zbI_e, if_pos rfl]
end
