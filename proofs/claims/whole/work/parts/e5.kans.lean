/-! answer: both answer alike -/
def ach (v : Nat → Nat) (y : Int32) (d : Nat) : Nat := if y = 0 then 100 - v d else v d
def awt (f v : Nat → Nat) (y : Int32) (d : Nat) : Nat := f d * ach v y d
def aal (f v : Nat → Nat) (y : Int32) : Nat := smN (awt f v y) 5
def anF (f v : Nat → Nat) (y : Int32) (d : Nat) : Nat := crt (fun i => 10000 * awt f v y i / aal f v y) 5 d
section
variable {σ σ' σ1 σ2 : zS} {f v t : Nat → Nat} {B P S N M K np c n A Y q0 w b e o d r p k so z : Nat} {y : Int32}
theorem RR_feet (h : RR B σ c P S N M K np t n) (w : Un (fun r j => (105 ≤ r ∧ r < 110) ∨ (112 ≤ r ∧ r < 116) ∨ (245 ≤ r ∧ r ≤ 251) ∨ (116 ≤ r ∧ r < 176 ∧ r % 3 = 0) ∨ r = 234) σ σ') (hS' : Sh σ') (hF : ∀ p, p < np → PF σ' p) : RR B σ' c P S N M K np t n := by
  have hS := h.1
  have hP := h.2.1.1
  have hb := HPb hP
  obtain ⟨g1, g2, g3, g4, g5, ⟨h1, h2, h3, h4, h5, h6, h7, h8, h9, h10⟩, g7, g8, g9, g10, g11, g12, g13⟩ := h
  have n1 := h1.1.2.1
  have n2 := h1.2.1.2.1
  have n3 := h1.2.2.2.1
  have n4 := g8.1
  refine ⟨hS', Hs_un g2 w ⟨by omega, by omega⟩, Tp_un g3 g1 w ⟨fun j => by omega, fun j => by omega, by omega, by omega⟩, Ow_un g4 g1 w (fun r j a => by omega), Ft_un g5 w ⟨by omega, by omega, by omega, by omega⟩, ⟨HN_un h1 hP w (fun j _ _ => by omega) (fun j _ _ => by omega), HF_un h2 hP w ⟨by omega, by omega⟩ ⟨by omega, by omega⟩, HC_un h3 hP w (by omega) (by omega), HPl_un h4 hP w (fun j _ => by omega) (fun j _ _ => by omega), (fun k hk => HL_un (h5 k hk) (by omega) hP w (fun j _ => by omega) ⟨by omega, by omega⟩), (fun k hk => HO_un (h6 k hk) (by omega) hP w (fun j => ⟨by omega, by omega⟩) ⟨by omega, by omega, by omega, by omega, fun d _ => by omega⟩), (fun k hk => HQ_un (h7 k hk) (by omega) hP w (fun j => ⟨by omega, by omega⟩) ⟨by omega, fun d _ => by omega⟩), (fun k hk => HR_un (h8 k hk) (by omega) hP w (fun j => by omega) (fun r _ => by omega)), (fun k hk => HU_un (h9 k hk) (by omega) hP w (by omega) (by omega)), HS_un h10 n1 g1 hP w (fun j => by omega) (fun j _ => by omega)⟩, HD_un g7 g1 hP w ⟨by omega, by omega, fun j => by omega⟩ ⟨by omega, by omega, fun j => by omega, fun j => by omega⟩, PN_un g8 w ⟨by omega, by omega⟩, fun p hp => ?_, IM_un g10 g1 w ⟨by omega, by omega, fun j => by omega, fun j => by omega⟩, MS_un g11 w ⟨by omega, by omega, by omega, by omega⟩, (fun k hk => RUk_un (g12 k hk) hk g1 w ⟨by omega, by omega, by omega, fun r j a _ _ => by omega, fun j _ _ => by omega⟩), rm_un g13 w (fun j => by omega)⟩
  have hp20 : p < 20 := by omega
  obtain ⟨so, z, p1, p2, p3, p4, p5, p6, p7, p8⟩ := g9 p hp
  exact ⟨so, z, p1, p2, p3, PA_un p4 hp20 w ⟨by omega, by omega, by omega, by omega⟩, hF p hp, PB_un p6 hp20 w ⟨by omega, by omega, by omega, by omega⟩, PT_un p7 hp20 w ⟨by omega, by omega⟩, PK_un p8 hp20 p3 g1 w ⟨by omega, by omega, by omega, by omega, fun j => by omega, fun j _ _ => by omega⟩⟩
theorem ach_le (hv : ∀ d, d < 5 → v d ≤ 100) (hd : d < 5) : ach v y d ≤ 100 := by
  have := hv d hd
  unfold ach
  split <;> omega
theorem aal_le (hf : f 0 + f 1 + f 2 + f 3 + f 4 = 10000) (hv : ∀ d, d < 5 → v d ≤ 100) : aal f v y ≤ 1000000 := by
  have l : ∀ d, d < 5 → awt f v y d ≤ f d * 100 := fun d hd => Nat.mul_le_mul (Nat.le_refl _) (ach_le hv hd)
  have l0 := l 0 (by omega)
  have l1 := l 1 (by omega)
  have l2 := l 2 (by omega)
  have l3 := l 3 (by omega)
  have l4 := l 4 (by omega)
  unfold aal
  simp only [smN]
  omega
theorem anF_sum (h0 : 0 < aal f v y) : anF f v y 0 + anF f v y 1 + anF f v y 2 + anF f v y 3 + anF f v y 4 = 10000 := by
  have sr : smN (fun i => 10000 * awt f v y i / aal f v y) 5 ≤ 10000 := smN_cert (awt f v y) (n := 5) h0
  have := smN_crt (n := 5) (by omega) sr
  simp only [smN] at this
  unfold anF
  omega
theorem ach_nI (hv : v d ≤ 100) : (if y = 0 then (100 : Int32) - nI (v d) else nI (v d)) = nI (ach v y d) := by
  unfold ach
  by_cases q : y = 0
  · rw [if_pos q, if_pos q, show (100 : Int32) = nI 100 from rfl, pk_sub hv]
  · rw [if_neg q, if_neg q]
theorem c_wans (hS : Sh σ) (tA : tg σ A = 32) (lA : ln σ A = 5) (tY : tg σ Y = 32) (lY : ln σ Y = 5) (fA : ∀ d, d < 5 → f d ≤ 10000 ∧ gI σ A d = nI (f d)) (vY : ∀ d, d < 5 → v d ≤ 100 ∧ gI σ Y d = nI (v d)) : ∃ σ', zM 73 [.ref 105, .ref A, .ref Y, .int y] σ = some (some (.long (lN (aal f v y))), σ') ∧ LO (fun r => r = 106) σ σ' ∧ ∀ d, d < 5 → gL σ' 106 d = lN (awt f v y d) := by
  obtain ⟨⟨s1, u⟩, e1, k1, k2⟩ := lp_run (F := fun i (u : zS × Option Value) => zR 1 73 4 [some (.ref 105), some (.ref A), some (.ref Y), some (.int y), some (.long (lN (smN (awt f v y) i))), none, some (.int (nI i)), u.2] [] u.1) (fun i u => LO (fun r => r = 106) σ u.1 ∧ ∀ d, d < i → gL u.1 106 d = lN (awt f v y d)) 5 (by
    rintro i ⟨s, u⟩ hi ⟨k1, k2⟩
    have k1 : LO (fun r => r = 106) σ s := k1
    have hS1 := k1.sh hS
    have S2 : Sh (sL s 106 i (lN (awt f v y i))) := hS1.sL
    have aA := ai_nI (σ := s) (t := 32) (u := 48) (.inl (by rw [tg_of1 k1.1, tA])) (by rw [ln_of1 k1.1, lA]) hi (by omega)
    have aY := ai_nI (σ := s) (t := 32) (u := 48) (.inl (by rw [tg_of1 k1.1, tY])) (by rw [ln_of1 k1.1, lY]) hi (by omega)
    have a6 := ai_nI (σ := s) (t := 36) (u := 36) (.inl (tg_106 hS1)) (ln_106 hS1) hi (by omega)
    have a6' := ai_nI (σ := sL s 106 i (lN (awt f v y i))) (t := 36) (u := 36) (.inl (tg_106 S2)) (ln_106 S2) hi (by omega)
    have gA : gI s A i = nI (f i) := by rw [k1.2.1]; exact (fA i hi).2
    have gY : gI s Y i = nI (v i) := by rw [k1.2.1]; exact (vY i hi).2
    have fl := (fA i hi).1
    have al := ach_le (y := y) (fun d hd => (vY d hd).1) hi
    have an := ach_nI (y := y) (vY i hi).1
    have mu : (nI (f i)).toInt64 * (nI (ach v y i)).toInt64 = lN (awt f v y i) := by
      rw [nI_l (by omega), nI_l (by omega), lN_mul]
      rfl
    have gl : gL (sL s 106 i (lN (awt f v y i))) 106 i = lN (awt f v y i) := by rw [gL_sL, if_pos ⟨rfl, rfl⟩]
    refine ⟨(sL s 106 i (lN (awt f v y i)), some (.int (nI (ach v y i)))), ?_, k1.trans (LO_sL rfl), fun d hd => ?_⟩
    · show zR 1 73 4 [some (.ref 105), some (.ref A), some (.ref Y), some (.int y), some (.long (lN (smN (awt f v y) i))), none, some (.int (nI i)), u] [] s = _
      rw [q_X7_weighAnswer_4, if_neg (show ¬ (5 : Int32) ≤ nI i from nI_ge (b := 5) hi (by omega))]
      by_cases q : y = 0
      · rw [if_pos q] at an
        rw [if_pos q, if_pos aY, tg_105 hS1, if_pos rfl, gR_105_0 hS1, zeR_e, if_pos aA, if_pos a6, zlt_e, ixn (by omega), gA, gY, an, mu, tg_105 S2, if_pos rfl, gR_105_0 S2, zeR_e, if_pos a6', gl, lN_add, nI_1]
        rfl
      · rw [if_neg q] at an
        rw [if_neg q, if_pos aY, tg_105 hS1, if_pos rfl, gR_105_0 hS1, zeR_e, if_pos aA, if_pos a6, zlt_e, ixn (by omega), gA, gY, an, mu, tg_105 S2, if_pos rfl, gR_105_0 S2, zeR_e, if_pos a6', gl, lN_add, nI_1]
        rfl
    · rw [gL_sL]
      by_cases q : d = i
      · subst q; rw [if_pos ⟨rfl, rfl⟩]
      · rw [if_neg (by omega)]; exact k2 d (by omega)) (σ, none) ⟨LO.refl _ _, fun d hd => by omega⟩
  refine ⟨s1, ?_, k1, k2⟩
  rw [q_X7_weighAnswer]
  refine Eq.trans e1 ?_
  show zR 1 73 4 [some (.ref 105), some (.ref A), some (.ref Y), some (.int y), some (.long (lN (smN (awt f v y) 5))), none, some (.int (nI 5)), u] [] s1 = _
  rw [q_X7_weighAnswer_4, if_pos (show (5 : Int32) ≤ nI 5 by decide)]
  rfl
theorem r_chance (hS : Sh σ) (hq : q0 < 6) (hd : d < 5) (hv : v d ≤ 100 ∧ gI σ 221 (30 + 5 * q0 + d) = nI (v d)) : zM 291 [.ref 176, .int (nI q0), .int (nI d), .int y] σ = some (some (.int (nI (ach v y d))), σ) := by
  have an := ach_nI (y := y) hv.1
  rw [q_X12_chance, tg_176 hS, if_pos rfl, gR_176_54 hS, zeR_e, nI_mulL 5 q0, nI_addL 30 (5 * q0), nI_add, if_pos (ai_nI (.inl (tg_221 hS)) (ln_221 hS) (show 30 + 5 * q0 + d < 60 by omega) (by omega)), ixn (by omega), hv.2]
  by_cases q : y = 0
  · rw [if_pos q] at an
    rw [if_pos q, an]
  · rw [if_neg q] at an
    rw [if_neg q, an]
theorem r_allOf (hS : Sh σ) (hp : p < 20) (hq : q0 < 6) (hf : ∀ d, d < 5 → f d ≤ 10000 ∧ gI σ 234 (5 * p + d) = nI (f d)) (hv : ∀ d, d < 5 → v d ≤ 100 ∧ gI σ 221 (30 + 5 * q0 + d) = nI (v d)) : zM 292 [.ref 176, .int (nI p), .int (nI q0), .int y] σ = some (some (.int (nI (aal f v y))), σ) := by
  have e := lp_seq (G := fun i => zR 2 292 4 [some (.ref 176), some (.int (nI p)), some (.int (nI q0)), some (.int y), some (.int (nI (smN (awt f v y) i))), some (.int (nI i))] [] σ) 5 (fun i hi => by
    rw [q_X12_allOf_4, if_neg (show ¬ (5 : Int32) ≤ nI i from nI_ge (b := 5) hi (by omega)), tg_176 hS, if_pos rfl, gR_176_73 hS, zeR_e, nI_mulL 5 p, nI_add, if_pos (ai_nI (.inl (tg_234 hS)) (ln_234 hS) (show 5 * p + i < 100 by omega) (by omega)), if_pos rfl, r_chance hS hq hi (hv i hi), zbI_e, ixn (by omega), (hf i hi).2, pk_mul, nI_add, nI_1]
    rfl)
  rw [q_X12_allOf]
  refine Eq.trans e ?_
  rw [q_X12_allOf_4, if_pos (show (5 : Int32) ≤ nI 5 by decide)]
  rfl
theorem r_answered (hS : Sh σ) (hp : p < 20) (hq : q0 < 6) (hs : f 0 + f 1 + f 2 + f 3 + f 4 = 10000) (hf : ∀ d, d < 5 → f d ≤ 10000 ∧ gI σ 234 (5 * p + d) = nI (f d)) (hv : ∀ d, d < 5 → v d ≤ 100 ∧ gI σ 221 (30 + 5 * q0 + d) = nI (v d)) (h0 : 0 < aal f v y) : ∃ σ', zM 293 [.ref 176, .int (nI p), .int (nI q0), .int y] σ = some (none, σ') ∧ Sh σ' ∧ Un (fun r j => r = 246 ∨ (r = 234 ∧ 5 * p ≤ j ∧ j < 5 * p + 5)) σ σ' ∧ (∀ r j, gL σ' r j = gL σ r j) ∧ ∀ d, d < 5 → gI σ' 234 (5 * p + d) = nI (anF f v y d) := by
  have al := aal_le (y := y) hs (fun d hd => (hv d hd).1)
  have nz : ¬ lN (aal f v y) = 0 := fun z => by
    have := (pk_lEQ (a := aal f v y) (b := 0) (by omega) (by omega)).mp z
    omega
  obtain ⟨s1, e1, k1, k2, k3, k4⟩ := lp_run (F := fun i (s : zS) => zR 3 293 9 [some (.ref 176), some (.int (nI p)), some (.int (nI q0)), some (.int y), some (.long (lN (aal f v y))), none, some (.int (nI i))] [] s) (fun i s => Sh s ∧ Un (fun r _ => r = 246) σ s ∧ (∀ r j, gL s r j = gL σ r j) ∧ ∀ d, d < i → gI s 246 d = nI (10000 * awt f v y d / aal f v y)) 5 (by
    rintro i s hi ⟨k1, k2, k3, k4⟩
    have hfi := hf i hi
    have gf : gI s 234 (5 * p + i) = nI (f i) := by rw [k2.i (by omega) (by omega) (by omega) (by omega)]; exact hfi.2
    have gv : v i ≤ 100 ∧ gI s 221 (30 + 5 * q0 + i) = nI (v i) := ⟨(hv i hi).1, by rw [k2.i (by omega) (by omega) (by omega) (by omega)]; exact (hv i hi).2⟩
    have ac := ach_le (y := y) (fun d hd => (hv d hd).1) hi
    have aw : 10000 * f i * ach v y i = 10000 * awt f v y i := by unfold awt; rw [Nat.mul_assoc]
    have ab : awt f v y i ≤ 10000 * 100 := Nat.mul_le_mul hfi.1 ac
    refine ⟨sI s 246 i (nI (10000 * awt f v y i / aal f v y)), ?_, k1.sI (by omega), k2.trans (Un_sI rfl), fun r j => by rw [gL_sI]; exact k3 r j, fun d hd => ?_⟩
    · rw [q_X12_answered_9, if_neg (show ¬ (5 : Int32) ≤ nI i from nI_ge (b := 5) hi (by omega)), tg_176 k1, if_pos rfl, gR_176_89 k1, zeR_e, if_pos rfl, gR_176_73 k1, zeR_e, nI_mulL 5 p, nI_add, if_pos (ai_nI (.inl (tg_234 k1)) (ln_234 k1) (show 5 * p + i < 100 by omega) (by omega)), if_pos rfl, r_chance k1 hq hi gv, zbI_e, if_neg nz, if_pos (ai_nI (.inl (tg_246 k1)) (ln_246 k1) hi (by omega)), zlt_e, ixn (show 5 * p + i < 2 ^ 31 by omega), ixn (show i < 2 ^ 31 by omega), gf, nI_l (by omega), nI_l (by omega), show (10000 : Int64) = lN 10000 from rfl, lN_mul, lN_mul, aw, pk_lDiv (by omega) h0 (by omega), lN_i, nI_1]
    · rw [gI_sI]
      by_cases q : d = i
      · subst q; rw [if_pos ⟨rfl, rfl⟩]
      · rw [if_neg (by omega)]; exact k4 d (by omega)) σ ⟨hS, Un.refl _ _, fun _ _ => rfl, fun d hd => by omega⟩
  have sr : smN (fun i => 10000 * awt f v y i / aal f v y) 5 ≤ 10000 := smN_cert (awt f v y) (n := 5) h0
  obtain ⟨s2, d0, d1, d2, d3, d4⟩ := r_tak2 (T := 234) (off := 5 * p) (L := 100) (n := 5) (q := fun i => 10000 * awt f v y i / aal f v y) k1 (by omega) (tg_234 k1) (ln_234 k1) (by omega) (by omega) k4 sr
  refine ⟨s2, ?_, d1, (k2.mono (fun r j _ _ q => .inl q)).trans d2, fun r j => by rw [d3]; exact k3 r j, d4⟩
  rw [q_X12_answered, tg_176 hS, if_pos rfl, r_allOf hS hp hq hf hv, zbI_e, nI_l (by omega)]
  refine Eq.trans e1 ?_
  rw [q_X12_answered_9, if_pos (show (5 : Int32) ≤ nI 5 by decide), tg_176 k1, if_pos rfl, gR_176_73 k1, zeR_e, if_pos rfl, nI_mulL 5 p]
  refine Eq.trans (congrArg (fun x => zbV x _) d0) ?_
  rw [zbV_e]
theorem r_isQ (hS : Sh σ) (h : gI σ 214 5 = nI K) (hK : K < 2 ^ 31) (x : Int32) : zM 290 [.ref 176, .int x] σ = some (some (.int (if 0 ≤ x ∧ x < nI K then 1 else 0)), σ) := by
  have a5 : ai σ 32 48 214 5 = true := ai_nI (k := 5) (.inl (tg_214 hS)) (ln_214 hS) (by omega) (by omega)
  rw [q_X12_isQuestion, tg_176 hS, if_pos rfl, gR_176_47 hS, zeR_e, if_pos a5, show ix (5 : Int32) = 5 from rfl, h, rng_r x hK, zbI_e, zf4, if_pos rfl]
theorem RR_qd (h : RR B σ c P S N M K np t n) (hq : q0 < K) : ∃ v : Nat → Nat, ∀ d, d < 5 → v d ≤ 100 ∧ gI σ (P + 33 + 2 * q0) d = nI (v d) ∧ gI σ 221 (30 + 5 * q0 + d) = nI (v d) := (h.2.2.2.2.2.1.2.2.2.2.2.2.1 q0 hq).2
theorem op_answer (h : RR B σ c P S N M K np t n) (x l y : Int32) : Al B σ c 165 [.ref 6, .int x, .int l, .int y] 294 [.ref 176, .int x, .int l, .int y] := by
  have hS := h.1
  have hP := h.2.1.1
  have hbb := HPb hP
  have p20 := (RR_pn h).1
  have k6 := (RR_hn h).2.2.2.1
  have h65 := h.2.1.2.2.2.1
  have cQ := c_isQuestion (a := l) hS hP h65 (RR_hn h).2.2.1
  have rQ := r_isQ hS (RR_hn h).2.2.2.2 (by omega) l
  rcases rng_no x (N := np) (by omega) with q | ⟨p, hp, rfl⟩
  · refine Al_rd h 0 ?_ ?_
    · rw [q_X11_answer, tg_6 hS, if_pos rfl, RR_cP h, zbI_e, if_neg q, if_pos rfl]
    · rw [q_X12_answer, tg_176 hS, if_pos rfl, RR_rP h, zbI_e, if_neg q, if_pos rfl]
  have qp := rng_ok hp (show np < 2 ^ 31 by omega)
  rcases rng_no l (N := K) (by omega) with q | ⟨q0, hq, rfl⟩
  · refine Al_rd h 0 ?_ ?_
    · rw [q_X11_answer, tg_6 hS, if_pos rfl, RR_cP h, zbI_e, if_pos qp, if_neg (by decide), tg_6 hS, if_pos rfl, cQ, zbI_e, if_neg q, if_pos rfl]
    · rw [q_X12_answer, tg_176 hS, if_pos rfl, RR_rP h, zbI_e, if_pos qp, if_neg (by decide), tg_176 hS, if_pos rfl, rQ, zbI_e, if_neg q, if_pos rfl]
  have qq := rng_ok hq (show K < 2 ^ 31 by omega)
  have hp20 : p < 20 := by omega
  have hq6 : q0 < 6 := by omega
  obtain ⟨v, hv⟩ := RR_qd h hq
  obtain ⟨so, z, -, -, -, -, ⟨f, f1, f2⟩, -⟩ := h.2.2.2.2.2.2.2.2.1 p hp
  have fb : ∀ d, d < 5 → f d ≤ 10000 := fun d hd => by have := sm5 f d hd; omega
  have al := aal_le (y := y) f1 (fun d hd => (hv d hd).1)
  obtain ⟨σ1, a1, a2, a3⟩ := c_wans (f := f) (v := v) (y := y) (A := 117 + 3 * p) (Y := P + 33 + 2 * q0) hS (tg_pfeet hS hp20) (ln_pfeet hS hp20) (tg_Pyes hS hP hq6) (ln_Pyes hS hP hq6) (fun d hd => ⟨fb d hd, (f2 d hd).1⟩) (fun d hd => ⟨(hv d hd).1, (hv d hd).2.1⟩)
  have S1 := a2.sh hS
  have cg : zM 165 [.ref 6, .int (nI p), .int (nI q0), .int y] σ = if 0 < lg_cmp (lN (aal f v y)) 0 then (if tg σ1 6 = 12 then zeR none (gR σ1 6 13) (fun q8 => if tg σ1 q8 = 8 then zeR none (gR σ1 q8 0) (fun q9 => if tg σ1 (116 + 3 * p) = 5 then zeR none (gR σ1 (116 + 3 * p) 2) (fun q10 => zbV (zM 76 [.ref q9, .ref q10] σ1) (fun σ11 => some (some (.int 1), σ11))) else none) else none) else none) else (some (some (.int 0), σ1)) := by
    rw [q_X11_answer, tg_6 hS, if_pos rfl, RR_cP h, zbI_e, if_pos qp, if_neg (by decide), tg_6 hS, if_pos rfl, cQ, zbI_e, if_pos qq, if_neg (by decide), tg_6 hS, if_pos rfl, gR_6_9 hS, zeR_e, if_pos (ai_nI (.inl (tg_104 hS)) (ln_104 hS) hp20 (by omega)), ixn (by omega), gR_people hS hp20, zeR_e, q_X11_answer_15, tg_6 hS, if_pos rfl, gR_6_13 hS, zeR_e, tg_person hS hp20, if_pos rfl, gR_pfeet hS hp20, zeR_e, if_pos rfl, h65, zeR_e, tg_P hS hP, if_pos rfl, gR_P_2 hS hP, zeR_e, if_pos (ai_nI (.inl (tg_P3 hS hP)) (ln_P3 hS hP) hq6 (by omega)), ixn (by omega), gR_Pquest hS hP hq6, zeR_e, tg_Pquest hS hP hq6, if_pos rfl, gR_Pyes hS hP hq6, zeR_e, tg_105 hS, if_pos rfl, a1, zbL_e]
  have ux : Un Xs σ σ1 := a2.un.mono (fun r j _ _ q => by unfold Xs; omega)
  by_cases h0 : 0 < aal f v y
  · obtain ⟨σ2, b1, b2, b3, b4, b5⟩ := c_learn (W := 106) (A := 117 + 3 * p) (n := 5) (v := awt f v y) S1 (by omega) (tg_106 S1) (ln_106 S1) (tg_pfeet S1 hp20) (ln_pfeet S1 hp20) (by omega) a3 h0 (Nat.le_trans al (by omega))
    have u2 : Un (fun r j => r = 106 ∨ (r = 117 + 3 * p ∧ j < 5)) σ σ2 := (a2.un.mono (fun r j _ _ q => .inl q)).trans (b3.mono (fun r j _ _ q => .inr q))
    have hf2 : ∀ d, d < 5 → f d ≤ 10000 ∧ gI σ2 234 (5 * p + d) = nI (f d) := fun d hd => ⟨fb d hd, by rw [u2.i (by omega) (by omega) (by omega) (by omega)]; exact (f2 d hd).2⟩
    have hv2 : ∀ d, d < 5 → v d ≤ 100 ∧ gI σ2 221 (30 + 5 * q0 + d) = nI (v d) := fun d hd => ⟨(hv d hd).1, by rw [u2.i (by omega) (by omega) (by omega) (by omega)]; exact (hv d hd).2.2⟩
    obtain ⟨σ3, c1, c2, c3, c4, c5⟩ := r_answered (y := y) b2 hp20 hq6 f1 hf2 hv2 h0
    have w : Un (fun r j => (r = 106 ∨ (r = 117 + 3 * p ∧ j < 5)) ∨ r = 246 ∨ (r = 234 ∧ 5 * p ≤ j ∧ j < 5 * p + 5)) σ σ3 := (u2.mono (fun r j _ _ q => .inl q)).trans (c3.mono (fun r j _ _ q => .inr q))
    have h3 : RR B σ3 c P S N M K np t n := RR_feet h (w.mono (fun r j _ _ q => by omega)) c2 (fun p' hp' => by
      by_cases q : p' = p
      · subst q
        refine ⟨anF f v y, anF_sum h0, fun d hd => ⟨?_, c5 d hd⟩⟩
        rw [c3.i (by omega) (by omega) (by omega) (by omega), b5 d hd]
        rfl
      · obtain ⟨so', z', -, -, -, -, p5, -⟩ := h.2.2.2.2.2.2.2.2.1 p' hp'
        exact PF_un p5 (by omega) hS w ⟨fun d => by omega, fun d _ => by omega⟩)
    refine ⟨1, σ2, σ3, ?_, b2, ?_, P, S, N, M, K, np, t, n, RR_mono h3 (by omega)⟩
    · rw [cg, if_pos (by rw [l_pos (by omega)]; exact h0), tg_6 S1, if_pos rfl, gR_6_13 S1, zeR_e, tg_105 S1, if_pos rfl, gR_105_0 S1, zeR_e, tg_person S1 hp20, if_pos rfl, gR_pfeet S1 hp20, zeR_e, b1, zbV_e]
    · rw [q_X12_answer, tg_176 b2, if_pos rfl, r_isPerson (N := np) b2 (by rw [u2.i (by omega) (by omega) (by omega) (by omega)]; exact (RR_pn h).2.2) (by omega), zbI_e, if_pos qp, if_neg (by decide), tg_176 b2, if_pos rfl, r_isQ (K := K) b2 (by rw [u2.i (by omega) (by omega) (by omega) (by omega)]; exact (RR_hn h).2.2.2.2) (by omega), zbI_e, if_pos qq, if_neg (by decide), tg_176 b2, if_pos rfl, r_allOf b2 hp20 hq6 hf2 hv2, zbI_e, if_neg (nI_ne0 h0 (by omega)), tg_176 b2, if_pos rfl, c1, zbV_e, q_X12_answer_21]
  · have h00 : aal f v y = 0 := by omega
    have h1 := RR_xs h ux S1
    refine ⟨0, σ1, σ1, ?_, S1, ?_, P, S, N, M, K, np, t, n, RR_mono h1 (by omega)⟩
    · rw [cg, if_neg (by rw [l_pos (by omega)]; exact h0)]
    · rw [q_X12_answer, tg_176 S1, if_pos rfl, RR_rP h1, zbI_e, if_pos qp, if_neg (by decide), tg_176 S1, if_pos rfl, r_isQ S1 (RR_hn h1).2.2.2.2 (by omega), zbI_e, if_pos qq, if_neg (by decide), tg_176 S1, if_pos rfl, r_allOf (f := f) (v := v) S1 hp20 hq6 (fun d hd => ⟨fb d hd, by rw [a2.2.1]; exact (f2 d hd).2⟩) (fun d hd => ⟨(hv d hd).1, by rw [a2.2.1]; exact (hv d hd).2.2⟩), zbI_e, h00, if_pos (by decide)]
end
