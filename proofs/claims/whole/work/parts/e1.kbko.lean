/-! back: both answer alike -/
section
variable {σ σ' σ1 σ2 : zS} {pl f g a d F G a' d' t : Nat → Nat} {B P S N M K np c n w b e y o r p k so z pr fa wi ch cm cm' day : Nat}
theorem s32_up (f : Nat → Int32) (a : Nat) : ∀ n, s32 (fun i => if i = a then f i + 1 else f i) n = if a < n then s32 f n + 1 else s32 f n
  | 0 => by rw [if_neg (by omega)]; rfl
  | n + 1 => by
    show s32 (fun i => if i = a then f i + 1 else f i) n + (if n = a then f n + 1 else f n) = if a < n + 1 then s32 f n + f n + 1 else s32 f n + f n
    rw [s32_up f a n]
    by_cases q : n = a
    · rw [if_pos q, if_neg (by omega), if_pos (by omega), Int32.add_assoc]
    · rw [if_neg q]
      by_cases q2 : a < n
      · rw [if_pos q2, if_pos (by omega), Int32.add_assoc, Int32.add_comm 1 (f n), Int32.add_assoc]
      · rw [if_neg q2, if_neg (by omega)]
theorem bk_fin (h : RR B σ c P S N M K np t n) (hp : p < np) (hk : k < N) (w' : Un (XP P p k) σ σ') (hS' : Sh σ') (hHS : HS σ' P N) (hMS : MS σ') (hD : day ≤ 100 * (c + 1) ∧ cm' ≤ 3 * (c + 1)) (hc : HDc σ' P day cm' a' d') (hr : HDr σ' day cm' a' d') (hbd : ∀ i, i < cm' → a' i < 20 * N ∧ day < d' i ∧ d' i ≤ day + 7) (hF : F 0 + F 1 + F 2 + F 3 + F 4 = 10000) (hF2 : ∀ d, d < 5 → gI σ' (117 + 3 * p) d = nI (F d) ∧ gI σ' 234 (5 * p + d) = nI (F d)) (hG : G 0 + G 1 + G 2 = 10000) (hG2 : ∀ r, r < 3 → gI σ' (P + 9 + 2 * k) r = nI (G r) ∧ gI σ' 235 (3 * k + r) = nI (G r)) (hz4 : gI σ 233 p = nI z) (hz : 30 ≤ z ∧ z ≤ 49) (ho : o ≤ 5) (hrg : ¬ o = 5 → 32 ≤ z + o ∧ z + o ≤ 51) (c3 : gI σ' (116 + 3 * p) 3 = gI σ (116 + 3 * p) 3 + 1) (r3 : gI σ' 236 p = gI σ 236 p + 1) (c4 : gI σ' (116 + 3 * p) 4 = if o = 5 then gI σ (116 + 3 * p) 4 + 1 else gI σ (116 + 3 * p) 4) (r4 : gI σ' 237 p = if o = 5 then gI σ 237 p + 1 else gI σ 237 p) (c5 : gI σ' (116 + 3 * p) 5 = -1) (c6 : gI σ' (116 + 3 * p) 6 = 0) (r5 : gI σ' 238 p = -1) (r6 : gI σ' 239 p = 0) (ck : ∀ j, j < 40 → gI σ' (118 + 3 * p) j = if ¬ o = 5 ∧ j = 5 * k + o then gI σ (118 + 3 * p) j + 1 else gI σ (118 + 3 * p) j) (rk : ∀ j, j < 160 → gI σ' 242 (160 * p + j) = if ¬ o = 5 ∧ j = 20 * k + (z + o - 32) then gI σ 242 (160 * p + j) + 1 else gI σ 242 (160 * p + j)) : RR B σ' (c + 1) P S N M K np t n := by
  have hP := h.2.1.1
  have hb := HPb hP
  have p20 := (RR_pn h).1
  have n8 := (RR_hn h).1.2.1
  have hp20 : p < 20 := by omega
  refine RR_pk h hp hk w' hS' hHS ⟨day, cm', hD.1, hD.2, hc.1, hr.1, hc.2.1, hr.2.1, a', d', fun i hi => ⟨(hbd i hi).1, (hbd i hi).2.1, (hbd i hi).2.2, (hr.2.2 i hi).1, (hr.2.2 i hi).2⟩, hc.2.2⟩ hMS ?_ ⟨G, hG, hG2⟩ (by
    obtain ⟨m, y1, y2⟩ := h.2.2.2.2.2.2.2.2.2.2.2.2.2.2 p hp20
    refine ⟨m + 1, by omega, ?_⟩
    rw [r3, y2, nI_1])
  obtain ⟨so, z', p1, p2, p3, p4, p5, p6, p7, p8⟩ := h.2.2.2.2.2.2.2.2.1 p hp
  have ez : z' = z := by
    have := p4.2.2.2
    rw [hz4] at this
    exact ((nI_eq (by omega) (by omega)).mp this).symm
  subst ez
  obtain ⟨k1, k2, k3, k4, k5⟩ := p8
  refine ⟨so, z', p1, p2, p3, PA_un p4 hp20 w' ⟨by unfold XP; omega, by unfold XP; omega, by unfold XP; omega, by unfold XP; omega⟩, ⟨F, hF, hF2⟩, .inl ⟨c5, r5, c6, r6⟩, PT_un p7 hp20 w' ⟨by unfold XP; omega, by unfold XP; omega⟩, ?_, ?_, fun l hl i hi => ?_, fun l hl s hs q => ?_, ?_⟩
  · rw [c3, r3, k1]
  · rw [c4, r4, k2]
  · rw [ck _ (by omega), k3 l hl i hi]
    by_cases q : 32 ≤ z' + i ∧ z' + i ≤ 51
    · have ek := rk (20 * l + (z' + i - 32)) (by omega)
      rw [show 160 * p + (20 * l + (z' + i - 32)) = 160 * p + 20 * l + (z' + i - 32) by omega] at ek
      rw [if_pos q, if_pos q, ek]
      by_cases q2 : ¬ o = 5 ∧ 5 * l + i = 5 * k + o
      · rw [if_pos q2, if_pos ⟨q2.1, by omega⟩]
      · rw [if_neg q2, if_neg]
        rintro ⟨y1, y2⟩
        have := hrg y1
        exact q2 ⟨y1, by omega⟩
    · rw [if_neg q, if_neg q, if_neg]
      rintro ⟨y1, y2⟩
      have := hrg y1
      exact q (by omega)
  · have ek := rk (20 * l + s) (by omega)
    rw [show 160 * p + (20 * l + s) = 160 * p + 20 * l + s by omega] at ek
    rw [ek, if_neg]
    · exact k4 l hl s hs q
    · rintro ⟨y1, y2⟩
      have := hrg y1
      omega
  · rw [r3, r4, k5]
    by_cases q : o = 5
    · have es : s32 (fun k => gI σ' 242 (160 * p + k)) 160 = s32 (fun k => gI σ 242 (160 * p + k)) 160 := s32_congr 160 (fun i hi => by rw [rk i hi, if_neg (fun x => x.1 q)])
      rw [if_pos q, es, Int32.add_assoc, Int32.add_comm _ 1, ← Int32.add_assoc]
    · have rg := hrg q
      have es : s32 (fun k => gI σ' 242 (160 * p + k)) 160 = s32 (fun i => if i = 20 * k + (z' + o - 32) then gI σ 242 (160 * p + i) + 1 else gI σ 242 (160 * p + i)) 160 := s32_congr 160 (fun i hi => by
        rw [rk i hi]
        by_cases q2 : i = 20 * k + (z' + o - 32)
        · rw [if_pos ⟨q, q2⟩, if_pos q2]
        · rw [if_neg (fun x => q2 x.2), if_neg q2])
      rw [if_neg q, es, s32_up (fun i => gI σ 242 (160 * p + i)), if_pos (by omega), Int32.add_assoc]
theorem RR_hd (h : RR B σ c P S N M K np t n) : ∃ day cm a d, day ≤ 100 * c ∧ cm ≤ 3 * c ∧ HDc σ P day cm a d ∧ HDr σ day cm a d ∧ ∀ i, i < cm → a i < 20 * N ∧ day < d i ∧ d i ≤ day + 7 := by
  obtain ⟨day, cm, h1, h2, h3, h4, h5, h6, a, d, h7, h8⟩ := h.2.2.2.2.2.2.1
  exact ⟨day, cm, a, d, h1, h2, ⟨h3, h5, h8⟩, ⟨h4, h6, fun i hi => ⟨(h7 i hi).2.2.2.1, (h7 i hi).2.2.2.2⟩⟩, fun i hi => ⟨(h7 i hi).1, (h7 i hi).2.1, (h7 i hi).2.2.1⟩⟩
theorem op_back (h : RR B σ c P S N M K np t n) (hc512 : c ≤ 600) (x e : Int32) : Al B σ c 159 [.ref 6, .int x, .int e] 286 [.ref 176, .int x, .int e] := by
  have hS := h.1
  have hP := h.2.1.1
  have hbb := HPb hP
  have p20 := (RR_pn h).1
  have n8 := (RR_hn h).1.2.1
  have h65 := h.2.1.2.2.2.1
  obtain ⟨zf, hzf⟩ := RR_zf h
  rcases rng_no x (N := np) (by omega) with q | ⟨p, hp, rfl⟩
  · refine Al_rd h 0 ?_ ?_
    · rw [q_X11_back, tg_6 hS, if_pos rfl, RR_cP h, zbI_e, if_neg q, if_pos rfl, q_X11_back_18]
    · rw [q_X12_back, tg_176 hS, if_pos rfl, RR_rP h, zbI_e, if_neg q, if_pos rfl]
  have qp := rng_ok hp (show np < 2 ^ 31 by omega)
  have hp20 : p < 20 := by omega
  obtain ⟨z1, z2, z3, z4⟩ := hzf p hp
  have ap := ai_nI (σ := σ) (t := 69) (u := 69) (.inl (tg_104 hS)) (ln_104 hS) hp20 (by omega)
  have r8 := ai_nI (σ := σ) (t := 32) (u := 48) (.inl (tg_238 hS)) (ln_238 hS) hp20 (by omega)
  have r9 := ai_nI (σ := σ) (t := 32) (u := 48) (.inl (tg_239 hS)) (ln_239 hS) hp20 (by omega)
  have cg : ∀ v, gI σ (116 + 3 * p) 6 = v → zM 159 [.ref 6, .int (nI p), .int e] σ = if v = 0 then some (some (.int 0), σ) else zbI (zM 133 [.int v, .int e] σ) (fun x7 σ7 => if x7 = 0 then (zR 7 159 18 [some (.ref 6), some (.int (nI p)), some (.int e)] [] σ7) else (zR 7 159 20 [some (.ref 6), some (.int (nI p)), some (.int e)] [] σ7)) := fun v hv => by
    rw [q_X11_back, tg_6 hS, if_pos rfl, RR_cP h, zbI_e, if_pos qp, if_neg (by decide), tg_6 hS, if_pos rfl, gR_6_9 hS, zeR_e, if_pos ap, ixn (by omega), gR_people hS hp20, zeR_e, tg_person hS hp20, if_pos rfl, q_X4_hasBox, tg_person hS hp20, if_pos rfl, hv]
    by_cases q : v = 0
    · rw [if_pos q, zbI_e, if_pos rfl, q_X11_back_18, if_pos q]
    · rw [if_neg q, zbI_e, if_neg (by decide), tg_6 hS, if_pos rfl, gR_6_9 hS, zeR_e, if_pos ap, gR_people hS hp20, zeR_e, tg_person hS hp20, if_pos rfl, hv, if_neg q]
  obtain ⟨so0, zz, -, zz1, zz2, pa, -, p6, -⟩ := h.2.2.2.2.2.2.2.2.1 p hp
  have ezz : zz = zf p := by
    have := pa.2.2.2
    rw [z4] at this
    exact ((nI_eq (by omega) (by omega)).mp this).symm
  rcases p6 with ⟨x1, x2, x3, x4⟩ | ⟨k, b, hk, b1, b2, b3, bi, x1, x2, x3, x4⟩
  · refine Al_rd h 0 ?_ ?_
    · rw [cg 0 x3, if_pos rfl]
    · rw [q_X12_back, tg_176 hS, if_pos rfl, RR_rP h, zbI_e, if_pos qp, if_neg (by decide), tg_176 hS, if_pos rfl, gR_176_77 hS, zeR_e, if_pos r8, ixn (by omega), if_pos x2]
  · rw [ezz] at bi
    have hk8 : k < 8 := by omega
    have nb0 : ¬ nI b = 0 := nI_ne0 (by omega) (by omega)
    by_cases ho : ∃ o, OC b e o
    · obtain ⟨o, ho⟩ := ho
      have hob : o = 5 ∨ b / 2 ^ o % 2 = 1 := ho.2.2.2.2
      obtain ⟨so, pl, f, g, w, s1, s4, f1, g1, hc, hr⟩ := RR_wd h hp hk
      obtain ⟨pr, fa, wi, ch, lv, c99, l100, hm, hm2, hc1, hc2, hl1, hl2⟩ := RR_md h hk s1
      obtain ⟨day, cm, at', dy, d1, d2, d3, d4, d5⟩ := RR_hd h
      have wl : wall pl f g w b o ≤ 1000000000000 := wall_le (fun d hd => (hr.1 d hd).1) f1 g1
      obtain ⟨σ1, e1, e2, e3, e4, e5, e6⟩ := c_lfb hS hP h65 hp20 hk8 s4 hc f1 g1 x1 x3 b1 b2 ho.1
      have h' : zM 159 [.ref 6, .int (nI p), .int e] σ = zR 7 159 20 [some (.ref 6), some (.int (nI p)), some (.int e)] [] σ := by
        rw [cg _ x3, if_neg nb0, c_outY b2 ho, zbI_e, if_neg (by decide)]
      have rg : ∀ s : zS, Sh s → gI s 176 70 = nI np → gI s 238 p = nI k → gI s 239 p = nI b → zM 286 [.ref 176, .int (nI p), .int e] s = zR 9 286 32 [some (.ref 176), some (.int (nI p)), some (.int e)] [] s := fun s hSs y70 y8 y9 => by
        have r8 := ai_nI (σ := s) (t := 32) (u := 48) (.inl (tg_238 hSs)) (ln_238 hSs) hp20 (by omega)
        have r9 := ai_nI (σ := s) (t := 32) (u := 48) (.inl (tg_239 hSs)) (ln_239 hSs) hp20 (by omega)
        rw [q_X12_back, tg_176 hSs, if_pos rfl, r_isPerson hSs y70 (by omega), zbI_e, if_pos qp, if_neg (by decide), tg_176 hSs, if_pos rfl, gR_176_77 hSs, zeR_e, if_pos r8, ixn (by omega), y8, if_neg (nI_nm1 (by omega)), r_m23, zbI_e, if_pos ho.2.2.1, if_neg (by decide)]
        by_cases q : 3 ≤ e
        · rw [if_pos q]
        · have o5 : o ≠ 5 := fun z => q (by rw [ho.2.2.2.1.mpr z]; decide)
          rw [if_neg q, q_X12_back_19, tg_176 hSs, if_pos rfl, gR_176_78 hSs, zeR_e, if_pos r9, ixn (by omega), y9, ho.2.1, bit_sh b b2 o (by have := ho.1; omega), hob.resolve_left o5, if_neg (by decide)]
      have r32 : ∀ s : zS, Sh s → RW s p k so pl f g w → gI s 238 p = nI k → gI s 239 p = nI b → zR 9 286 32 [some (.ref 176), some (.int (nI p)), some (.int e)] [] s = if wall pl f g w b o = 0 then some (some (.int 0), s) else zbV (zM 285 [.ref 176, .int (nI p), .int (nI o)] s) (fun σ4 => some (some (.int 1), σ4)) := fun s hSs hrs y8 y9 => by
        have r8 := ai_nI (σ := s) (t := 32) (u := 48) (.inl (tg_238 hSs)) (ln_238 hSs) hp20 (by omega)
        have r9 := ai_nI (σ := s) (t := 32) (u := 48) (.inl (tg_239 hSs)) (ln_239 hSs) hp20 (by omega)
        rw [q_X12_back_32, tg_176 hSs, if_pos rfl, gR_176_77 hSs, zeR_e, if_pos r8, if_pos rfl, gR_176_78 hSs, zeR_e, if_pos r9, if_pos rfl, ixn (by omega), y8, y9, ho.2.1, r_weights hSs hp20 hk8 s4 hrs b1 b2 ho.1, zbL_e, wsel_all]
        have e0 : (lg_cmp (lN (wall pl f g w b o)) 0 = 0) = (wall pl f g w b o = 0) := by
          rw [cmp_eq]
          exact propext (pk_lEQ (b := 0) (by omega) (by omega))
        by_cases q : wall pl f g w b o = 0
        · rw [if_pos (by rw [e0]; exact q), if_pos q]
        · rw [if_neg (by rw [e0]; exact q), if_neg q, tg_176 hSs, if_pos rfl]
      by_cases q0 : 0 < wall pl f g w b o
      · rw [decide_eq_true q0] at e1
        have u5 : Un (fun r _ => (105 ≤ r ∧ r < 110) ∨ r = 117 + 3 * p ∨ r = P + 9 + 2 * k) σ σ1 := e3
        have keep : ∀ r j, (r = P ∨ r = P + 5 ∨ (r = 116 + 3 * p) ∨ (r = P + 8 + 2 * k)) → j < 100 → gI σ1 r j = gI σ r j := fun r j x y => by
          rw [u5.i (by omega) (by omega) y (by omega)]
        have hm1 : CM σ1 P k pr fa wi := ⟨by rw [keep _ _ (.inl rfl) (by omega)]; exact hm.1, by rw [keep _ _ (.inl rfl) (by omega)]; exact hm.2.1, by rw [keep _ _ (by omega) (by omega)]; exact hm.2.2.1, hm.2.2.2⟩
        have e65 : gR σ1 6 5 = some P := by rw [u5.r (by omega) (by omega) (by omega) (by omega)]; exact h65
        have dc1 : HDc σ1 P day cm at' dy := ⟨by rw [keep _ _ (by omega) (by omega)]; exact d3.1, by rw [keep _ _ (by omega) (by omega)]; exact d3.2.1, fun w hw l hl => by rw [u5.iA (by omega) (by omega) (by rw [tg_P7 hS hP]; omega) (by omega)]; exact d3.2.2 w hw l hl⟩
        obtain ⟨σ2, a1, a2, a3, a4, a5, a6, a7, a8, a9, a10⟩ := c_takeBack e2 hP e65 hp20 hk8 hm1 (by rw [keep _ _ (.inl rfl) (by omega)]; exact hc1) (z := zf p) (by rw [keep _ _ (by omega) (by omega)]; exact z3) (by rw [keep _ _ (by omega) (by omega)]; exact x1) (by rw [keep _ _ (by omega) (by omega)]; exact x3) ⟨z1, z2⟩ b2 b3 bi ho.1 hob (by omega) dc1
        have uc : Un (fun r j => (105 ≤ r ∧ r < 110) ∨ r = 117 + 3 * p ∨ r = P + 9 + 2 * k ∨ (r = 6 ∧ j = 11) ∨ (r = P + 5 ∧ j = 2) ∨ r = P + 7 ∨ (r = 116 + 3 * p ∧ 3 ≤ j ∧ j ≤ 6) ∨ r = 118 + 3 * p) σ σ2 := (u5.mono (fun r j _ _ q => by omega)).trans (a3.mono (fun r j _ _ q => by omega))
        have rf : ∀ r j, 176 ≤ r → r < 253 → j < 100 → gI σ2 r j = gI σ r j := fun r j x y v => by
          rw [uc.i (by omega) (by omega) v (by omega)]
        have rfA : ∀ r j, 176 ≤ r → r < 253 → 32 ≤ tg σ r → gI σ2 r j = gI σ r j := fun r j x y v => by
          rw [uc.iA (by omega) (by omega) v (by omega)]
        have hr2 : RW σ2 p k so pl f g w := by
          obtain ⟨y1, y2, y3, y4, y5, y6⟩ := hr
          refine ⟨fun d hd => ⟨(y1 d hd).1, ?_⟩, ?_, ?_, y4, fun d hd => ⟨(y5 d hd).1, ?_⟩, fun r hr => ⟨(y6 r hr).1, ?_⟩⟩
          · rw [rf _ _ (by omega) (by omega) (by omega)]; exact (y1 d hd).2
          · rw [rf _ _ (by omega) (by omega) (by omega)]; exact y2
          · rw [rf _ _ (by omega) (by omega) (by omega)]; exact y3
          · rw [rf _ _ (by omega) (by omega) (by omega)]; exact (y5 d hd).2
          · rw [rf _ _ (by omega) (by omega) (by omega)]; exact (y6 r hr).2
        have hm2' : RM σ2 k pr fa wi := ⟨by rw [rf _ _ (by omega) (by omega) (by omega)]; exact hm2.1, by rw [rf _ _ (by omega) (by omega) (by omega)]; exact hm2.2.1, by rw [rf _ _ (by omega) (by omega) (by omega)]; exact hm2.2.2.1, hm2.2.2.2⟩
        have dr2 : HDr σ2 day cm at' dy := ⟨by rw [rf _ _ (by omega) (by omega) (by omega)]; exact d4.1, by rw [rf _ _ (by omega) (by omega) (by omega)]; exact d4.2.1, fun i hi => ⟨by rw [rfA _ _ (by omega) (by omega) (by rw [tg_243 hS]; omega)]; exact (d4.2.2 i hi).1, by rw [rfA _ _ (by omega) (by omega) (by rw [tg_244 hS]; omega)]; exact (d4.2.2 i hi).2⟩⟩
        have y8 : gI σ2 238 p = nI k := by rw [rf _ _ (by omega) (by omega) (by omega)]; exact x2
        have y9 : gI σ2 239 p = nI b := by rw [rf _ _ (by omega) (by omega) (by omega)]; exact x4
        obtain ⟨σ3, c1', c2', c3', c4', c5', c6', c7', c8', c9', c10', c11', c12'⟩ := r_came a2 hp20 hk8 s4 hr2 f1 g1 hm2' (by rw [rf _ _ (by omega) (by omega) (by omega)]; exact hc2) (z := zf p) (by rw [rf _ _ (by omega) (by omega) (by omega)]; exact z4) y8 y9 ⟨z1, z2⟩ b1 b2 bi ho.1 hob (by omega) (by omega) dr2
        have cf : ∀ r j, 6 ≤ r → r < 176 → j < 100 → gI σ3 r j = gI σ2 r j := fun r j x y v => by
          rw [c3'.i (by omega) (by omega) v (by omega)]
        have cfA : ∀ r j, 6 ≤ r → r < 176 → 32 ≤ tg σ2 r → gI σ3 r j = gI σ2 r j := fun r j x y v => by
          rw [c3'.iA (by omega) (by omega) v (by omega)]
        have wx : Un (XP P p k) σ σ3 := (uc.mono (fun r j _ _ q => by
          rcases q with q | q | q | q | q | q | q | q
          · exact .inl q
          · exact .inr (.inr (.inr (.inr (.inr (.inr (.inr (.inr (.inr (.inr (.inr (.inr (.inr (.inr (.inl q))))))))))))))
          · exact .inr (.inr (.inr (.inr (.inr (.inr (.inr (.inr (.inr (.inr (.inr (.inr (.inr (.inr (.inr (.inr (.inr (.inr (.inr (.inl q)))))))))))))))))))
          · exact .inr (.inr (.inr (.inr (.inr (.inr (.inr (.inr (.inr (.inr (.inr (.inr (.inr (.inr (.inr (.inr (.inr (.inr (.inr (.inr (.inr ⟨q.1, .inl q.2⟩))))))))))))))))))))
          · exact .inr (.inr (.inr (.inr (.inr (.inr (.inr (.inr (.inl q))))))))
          · exact .inr (.inr (.inr (.inr (.inr (.inr (.inr (.inr (.inr (.inl q)))))))))
          · exact .inr (.inr (.inr (.inr (.inr (.inr (.inr (.inr (.inr (.inr (.inr (.inr (.inr (.inl q)))))))))))))
          · exact .inr (.inr (.inr (.inr (.inr (.inr (.inr (.inr (.inr (.inr (.inr (.inr (.inr (.inr (.inr (.inl q)))))))))))))))
          )).trans (c3'.mono (fun r j _ _ q => by
          rcases q with q | q | q | q | q | q | q | q
          · exact .inr (.inr (.inl ⟨by omega, by omega⟩))
          · exact .inr (.inr (.inr (.inr (.inr (.inr (.inr (.inr (.inr (.inr (.inr (.inr (.inr (.inr (.inr (.inr (.inr (.inl q)))))))))))))))))
          · exact .inr (.inr (.inr (.inr (.inr (.inr (.inr (.inr (.inr (.inr (.inr (.inr (.inr (.inr (.inr (.inr (.inr (.inr (.inr (.inr (.inl q))))))))))))))))))))
          · exact .inr (.inr (.inr (.inr (.inr (.inr (.inr (.inr (.inr (.inr (.inl ⟨q.1, by omega⟩))))))))))
          · exact .inr (.inr (.inr (.inr (.inr (.inr (.inr (.inr (.inr (.inr (.inr (.inl q)))))))))))
          · exact .inr (.inr (.inr (.inr (.inr (.inr (.inr (.inr (.inr (.inr (.inr (.inr (.inl q))))))))))))
          · exact .inr (.inr (.inr (.inr (.inr (.inr (.inr (.inr (.inr (.inr (.inr (.inr (.inr (.inr (.inr (.inr (.inl q))))))))))))))))
          · exact .inr (.inr (.inr (.inr (.inr (.inr (.inr (.inr (.inr (.inr (.inr (.inr (.inr (.inr (.inr (.inr (.inr (.inr (.inl q))))))))))))))))))
          ))
        have hMS : MS σ := h.2.2.2.2.2.2.2.2.2.2.1
        have hHS : HS σ P N := h.2.2.2.2.2.1.2.2.2.2.2.2.2.2.2
        have pcb := exC_le (b := bts b o) (cm := cm) 5
        have pc2 := bts_pc b2 ho.1 hob
        have h3 : RR B σ3 (c + 1) P S N M K np t n := bk_fin (F := lnF pl f g w b o) (G := lnG pl f g w b o) (z := zf p) (o := o) h hp hk wx c2' (fun j hj => by
            rw [c3'.iA (by omega) (by omega) (by rw [tg_P6 a2 hP]; omega) (by omega), uc.iA (by omega) (by omega) (by rw [tg_P6 hS hP]; omega) (by omega), c3'.iA (by omega) (by omega) (by rw [tg_224 a2]; omega) (by omega), uc.iA (by omega) (by omega) (by rw [tg_224 hS]; omega) (by omega)]
            exact hHS j hj) ⟨by rw [cf _ _ (by omega) (by omega) (by omega), a4, u5.i (by omega) (by omega) (by omega) (by omega), c6', rf _ _ (by omega) (by omega) (by omega), hMS.1], by
            obtain ⟨s, q1, q2, q3⟩ := hMS.2
            refine ⟨s, q1, ?_, ?_⟩
            · rw [c3'.l (by omega) (by omega) (by omega) (by omega), uc.l (by omega) (by omega) (by omega) (by omega)]; exact q2
            · rw [c3'.l (by omega) (by omega) (by omega) (by omega), uc.l (by omega) (by omega) (by omega) (by omega)]; exact q3⟩ ⟨by omega, by omega⟩ ⟨by rw [cf _ _ (by omega) (by omega) (by omega)]; exact a5.1, by rw [cf _ _ (by omega) (by omega) (by omega)]; exact a5.2.1, fun w hw l hl => by rw [cfA _ _ (by omega) (by omega) (by rw [tg_P7 a2 hP]; omega)]; exact a5.2.2 w hw l hl⟩ c7' (ex_bd hk (bts_inz b2 ho.1 hob bi) ⟨z1, z2⟩ d5 5 (by omega)) (lnF_sum f1) (fun d hd => ⟨by rw [cf _ _ (by omega) (by omega) (by omega), a3.i (by omega) (by omega) (by omega) (by omega)]; exact e4 d hd, c4' d hd⟩) (lnG_sum g1) (fun r hr => ⟨by rw [cf _ _ (by omega) (by omega) (by omega), a3.i (by omega) (by omega) (by omega) (by omega)]; exact e5 r hr, c5' r hr⟩) z4 ⟨z1, z2⟩ ho.1 (fun q => bi o (by have := ho.1; omega) (hob.resolve_left q)) (by rw [cf _ _ (by omega) (by omega) (by omega), a6, keep _ _ (by omega) (by omega)]) (by rw [c8', rf _ _ (by omega) (by omega) (by omega)]) (by rw [cf _ _ (by omega) (by omega) (by omega), a7, keep _ _ (by omega) (by omega)]) (by rw [c9', rf _ _ (by omega) (by omega) (by omega)]) (by rw [cf _ _ (by omega) (by omega) (by omega)]; exact a8) (by rw [cf _ _ (by omega) (by omega) (by omega)]; exact a9) c10' c11' (fun j hj => by rw [cf _ _ (by omega) (by omega) (by omega), a10 j hj, u5.i (by omega) (by omega) (by omega) (by omega)]) (fun j hj => by rw [c12' j hj, rfA _ _ (by omega) (by omega) (by rw [tg_242 hS]; omega)])
        refine ⟨1, σ2, σ3, ?_, a2, ?_, P, S, N, M, K, np, t, n, h3⟩
        · rw [h', q_X11_back_20, tg_6 hS, if_pos rfl, ho.2.1, e1, zbI_e, if_neg (by decide), tg_6 e2, if_pos rfl, gR_6_9 e2, zeR_e, if_pos (ai_nI (.inl (tg_104 e2)) (ln_104 e2) hp20 (by omega)), ixn (by omega), gR_people e2 hp20, zeR_e, if_pos rfl, a1, zbV_e]
        · rw [rg σ2 a2 (by rw [rf _ _ (by omega) (by omega) (by omega)]; exact (RR_pn h).2.2) y8 y9, r32 σ2 a2 hr2 y8 y9, if_neg (by omega), c1', zbV_e]
      · have q00 : wall pl f g w b o = 0 := by omega
        rw [decide_eq_false q0] at e1
        have u1 : Un Xs σ σ1 := (e6 q0).mono (fun r j _ _ q => by unfold Xs; omega)
        have h1 := RR_xs h u1 e2
        refine ⟨0, σ1, σ1, ?_, e2, ?_, P, S, N, M, K, np, t, n, RR_mono h1 (by omega)⟩
        · rw [h', q_X11_back_20, tg_6 hS, if_pos rfl, ho.2.1, e1, zbI_e, if_pos (by decide)]
        · rw [rg σ1 e2 (RR_pn h1).2.2 (by rw [u1.i (by omega) (by omega) (by omega) (nX_hi (by omega) (by omega))]; exact x2) (by rw [u1.i (by omega) (by omega) (by omega) (nX_hi (by omega) (by omega))]; exact x4), r32 σ1 e2 (RW_xs hr hp20 hk8 s4 u1) (by rw [u1.i (by omega) (by omega) (by omega) (nX_hi (by omega) (by omega))]; exact x2) (by rw [u1.i (by omega) (by omega) (by omega) (nX_hi (by omega) (by omega))]; exact x4), if_pos q00]
    · refine Al_rd h 0 ?_ ?_
      · rw [cg _ x3, if_neg nb0, c_outN b2 ho, zbI_e, if_pos rfl, q_X11_back_18]
      · rw [q_X12_back, tg_176 hS, if_pos rfl, RR_rP h, zbI_e, if_pos qp, if_neg (by decide), tg_176 hS, if_pos rfl, gR_176_77 hS, zeR_e, if_pos r8, ixn (by omega), x2, if_neg (nI_nm1 (by omega)), r_m23, zbI_e]
        rcases oc_or b2 e with q | q | ⟨q0, o, o5, h2, h3, h4, h5, h6⟩
        · exact absurd q ho
        · rw [if_neg q, if_pos rfl]
        · rw [if_pos q0, if_neg (by decide), if_neg h4, q_X12_back_19, tg_176 hS, if_pos rfl, gR_176_78 hS, zeR_e, if_pos r9, ixn (by omega), x4, h2, bit_sh b b2 o (by omega), h6, if_pos (by decide)]
end
