/-! keeps: both answer alike -/
def CW (σ : zS) (P p k so : Nat) (pl f g : Nat → Nat) (w : Nat) : Prop := (∀ d, d < 5 → pl d ≤ 100 ∧ gI σ (P + 4) d = nI (pl d)) ∧ gI σ (116 + 3 * p) 0 = nI so ∧ gI σ (P + 24 + 2 * so) 2 = nI w ∧ w ≤ 100 ∧ (∀ d, d < 5 → f d ≤ 10000 ∧ gI σ (117 + 3 * p) d = nI (f d)) ∧ ∀ r, r < 3 → g r ≤ 10000 ∧ gI σ (P + 9 + 2 * k) r = nI (g r)
def OC (b : Nat) (e : Int32) (o : Nat) : Prop := o ≤ 5 ∧ e + 2 = nI o ∧ (-2 ≤ e ∧ e ≤ 3) ∧ (e = 3 ↔ o = 5) ∧ (o = 5 ∨ b / 2 ^ o % 2 = 1)
def AlL (B : Nat) (σ : zS) (c mC : Nat) (aC : List Value) (mR : Nat) (aR : List Value) : Prop := ∃ v σ1 σ2, zM mC aC σ = some (some (.long v), σ1) ∧ Sh σ1 ∧ zM mR aR σ1 = some (some (.long v), σ2) ∧ RX B σ2 (c + 1)
section
variable {σ σ' σ1 σ2 : zS} {zf pl f g : Nat → Nat} {B P S N M K np c n w b e y o d r p k so z : Nat} {t : Nat → Nat}
theorem sm3 (f : Nat → Nat) (i : Nat) (hi : i < 3) : f i ≤ f 0 + f 1 + f 2 := by
  rcases (show i = 0 ∨ i = 1 ∨ i = 2 by omega) with rfl | rfl | rfl <;> omega
theorem sm5 (f : Nat → Nat) (i : Nat) (hi : i < 5) : f i ≤ f 0 + f 1 + f 2 + f 3 + f 4 := by
  rcases (show i = 0 ∨ i = 1 ∨ i = 2 ∨ i = 3 ∨ i = 4 by omega) with rfl | rfl | rfl | rfl | rfl <;> omega
theorem RR_wd (h : RR B σ c P S N M K np t n) (hp : p < np) (hk : k < N) : ∃ so pl f g w, so < M ∧ so < 4 ∧ f 0 + f 1 + f 2 + f 3 + f 4 = 10000 ∧ g 0 + g 1 + g 2 = 10000 ∧ CW σ P p k so pl f g w ∧ RW σ p k so pl f g w := by
  have m4 := (RR_hn h).2.1.2.1
  obtain ⟨so, z, s1, -, -, ⟨a1, a2, -, -⟩, ⟨f, f1, f2⟩, -⟩ := h.2.2.2.2.2.2.2.2.1 p hp
  obtain ⟨-, -, -, ⟨pl, hpl⟩, -, h6, -, h8, -⟩ := h.2.2.2.2.2.1
  obtain ⟨g, g1, g2⟩ := h8 k hk
  obtain ⟨-, ⟨w, w1, w2, w3⟩, -⟩ := h6 so s1
  have ff : ∀ d, d < 5 → f d ≤ 10000 := fun d hd => by have := sm5 f d hd; omega
  have gg : ∀ d, d < 3 → g d ≤ 10000 := fun d hd => by have := sm3 g d hd; omega
  exact ⟨so, pl, f, g, w, s1, by omega, f1, g1, ⟨fun d hd => ⟨(hpl d hd).1, (hpl d hd).2.1⟩, a1, w2, w1, fun d hd => ⟨ff d hd, (f2 d hd).1⟩, fun r hr => ⟨gg r hr, (g2 r hr).1⟩⟩, ⟨fun d hd => ⟨(hpl d hd).1, (hpl d hd).2.2⟩, a2, w3, w1, fun d hd => ⟨ff d hd, (f2 d hd).2⟩, fun r hr => ⟨gg r hr, (g2 r hr).2⟩⟩⟩
theorem RW_xs (h : RW σ p k so pl f g w) (hp : p < 20) (hk : k < 8) (hso : so < 4) (u : Un Xs σ σ') : RW σ' p k so pl f g w := by
  obtain ⟨h1, h2, h3, h4, h5, h6⟩ := h
  refine ⟨fun d hd => ⟨(h1 d hd).1, ?_⟩, ?_, ?_, h4, fun d hd => ⟨(h5 d hd).1, ?_⟩, fun r hr => ⟨(h6 r hr).1, ?_⟩⟩
  · rw [u.i (by omega) (by omega) (by omega) (nX_222 (by omega))]; exact (h1 d hd).2
  · rw [u.i (by omega) (by omega) (by omega) (nX_hi (by omega) (by omega))]; exact h2
  · rw [u.i (by omega) (by omega) (by omega) (nX_218 (by omega) (by omega))]; exact h3
  · rw [u.i (by omega) (by omega) (by omega) (nX_hi (by omega) (by omega))]; exact (h5 d hd).2
  · rw [u.i (by omega) (by omega) (by omega) (nX_hi (by omega) (by omega))]; exact (h6 r hr).2
theorem CW_xs (h : CW σ P p k so pl f g w) (hP : HP P) (hp : p < 20) (hk : k < 8) (hso : so < 4) (u : Un Xs σ σ') : CW σ' P p k so pl f g w := by
  have hb := HPb hP
  obtain ⟨h1, h2, h3, h4, h5, h6⟩ := h
  refine ⟨fun d hd => ⟨(h1 d hd).1, ?_⟩, ?_, ?_, h4, fun d hd => ⟨(h5 d hd).1, ?_⟩, fun r hr => ⟨(h6 r hr).1, ?_⟩⟩
  · rw [u.i (by omega) (by omega) (by omega) (nX_lo (by omega) (by omega))]; exact (h1 d hd).2
  · rw [u.i (by omega) (by omega) (by omega) (nX_pe (by omega) (by omega))]; exact h2
  · rw [u.i (by omega) (by omega) (by omega) (nX_lo (by omega) (by omega))]; exact h3
  · rw [u.i (by omega) (by omega) (by omega) (nX_pe (by omega) (by omega))]; exact (h5 d hd).2
  · rw [u.i (by omega) (by omega) (by omega) (nX_lo (by omega) (by omega))]; exact (h6 r hr).2
theorem c_sortOf (hS : Sh σ) (hP : HP P) (h65 : gR σ 6 5 = some P) (hp : p < 20) (hso : so < 4) (h0 : gI σ (116 + 3 * p) 0 = nI so) : zM 135 [.ref 6, .ref (116 + 3 * p)] σ = some (some (.ref (P + 24 + 2 * so)), σ) := by
  rw [q_X11_sortOf, tg_6 hS, if_pos rfl, h65, zeR_e, tg_P hS hP, if_pos rfl, gR_P_1 hS hP, zeR_e, tg_person hS hp, if_pos rfl, h0, if_pos (ai_nI (.inl (tg_P2 hS hP)) (ln_P2 hS hP) hso (by omega)), ixn (by omega), gR_Psort hS hP hso, zeR_e]
/-- the scales laid -/
def pon (σ : zS) (P w : Nat) : zS := sI (sR σ 105 3 (some (P + 4))) 105 4 (nI (100 - w))
theorem pon_sh (hS : Sh σ) : Sh (pon σ P w) := (hS.sR (by decide +kernel)).sI (by omega)
theorem pon_un : Un Xs σ (pon σ P w) := (Un_sR (by unfold Xs; omega)).trans (Un_sI (by unfold Xs; omega))
theorem pon_sc (hP : HP P) (h : ∀ d, d < 5 → pl d ≤ 100 ∧ gI σ (P + 4) d = nI (pl d)) : SC (pon σ P w) P pl w := by
  have hb := HPb hP
  refine ⟨?_, ?_, fun d hd => ⟨(h d hd).1, ?_⟩⟩
  · unfold pon
    rw [gR_sI, gR_sR, if_pos ⟨rfl, rfl⟩]
  · unfold pon
    rw [gI_sI, if_pos ⟨rfl, rfl⟩]
  · unfold pon
    rw [gI_sI, if_neg (by omega), gI_sR]
    exact (h d hd).2
theorem c_putOn (hS : Sh σ) (hw : w ≤ 100) : zM 66 [.ref 105, .ref (P + 4), .int (nI w)] σ = some (none, pon σ P w) := by
  have hS1 : Sh (sR σ 105 3 (some (P + 4))) := hS.sR (by decide +kernel)
  rw [q_X7_putOn, tg_105 hS, if_pos rfl, zlt_e, tg_105 hS1, if_pos rfl, zlt_e, show (100 : Int32) = nI 100 from rfl, pk_sub hw]
  rfl
theorem c_xw (hS : Sh σ) (hP : HP P) (h65 : gR σ 6 5 = some P) (hp : p < 20) (hk : k < 8) (hso : so < 4) (hc : CW σ P p k so pl f g w) (h1 : 1 ≤ b) (hb : b < 32) (ho : o ≤ 5) : ∃ σ', zM 141 [.ref 6, .int (nI p), .int (nI k), .int (nI b), .int (nI o)] σ = some (some (.long (lN (wall pl f g w b o))), σ') ∧ Sh σ' ∧ Un Xs σ σ' ∧ (∀ d, d < 5 → gL σ' 106 d = lN (wrow pl f g w b o d)) ∧ ∀ r, r < 3 → gL σ' 107 r = lN (wcol pl f g w b o r) := by
  have hbb := HPb hP
  have hS1 : Sh (pon σ P w) := pon_sh hS
  have hc1 := CW_xs hc hP hp hk hso (pon_un (σ := σ) (P := P) (w := w))
  have e65 : gR (pon σ P w) 6 5 = some P := by
    rw [(pon_un (σ := σ) (P := P) (w := w)).r (by omega) (by omega) (by omega) (nX_st (by omega))]; exact h65
  obtain ⟨s2, a1, a2, a3, a4⟩ := c_weigh (A := 117 + 3 * p) (R := P + 9 + 2 * k) hS1 hP (pon_sc hP hc.1) h1 hb ho (tg_pfeet hS1 hp) (ln_pfeet hS1 hp) (tg_Pruns hS1 hP hk) (ln_Pruns hS1 hP hk) hc1.2.2.2.2.1 hc1.2.2.2.2.2
  refine ⟨s2, ?_, a2.sh hS1, pon_un.trans (a2.un.mono (fun r j _ _ q => by unfold Xs; omega)), a3, a4⟩
  rw [q_X11_weigh, tg_6 hS, if_pos rfl, gR_6_9 hS, zeR_e, if_pos (ai_nI (.inl (tg_104 hS)) (ln_104 hS) hp (by omega)), ixn (by omega), gR_people hS hp, zeR_e, if_pos rfl, gR_6_13 hS, zeR_e, if_pos rfl, h65, zeR_e, tg_P hS hP, if_pos rfl, gR_P_3 hS hP, zeR_e, if_pos rfl, c_sortOf hS hP h65 hp hso hc.2.1, zbR_e, tg_Psort hS hP hso, if_pos rfl, tg_105 hS, if_pos rfl, hc.2.2.1, c_putOn hS hc.2.2.2.1, zbV_e, q_X11_weigh_15, tg_6 hS1, if_pos rfl, gR_6_13 hS1, zeR_e, tg_person hS1 hp, if_pos rfl, gR_pfeet hS1 hp, zeR_e, if_pos rfl, e65, zeR_e, tg_P hS1 hP, if_pos rfl, gR_P_0 hS1 hP, zeR_e, if_pos (ai_nI (.inl (tg_P1 hS1 hP)) (ln_P1 hS1 hP) hk (by omega)), ixn (by omega), gR_Plast hS1 hP hk, zeR_e, tg_Plast hS1 hP hk, if_pos rfl, gR_Pruns hS1 hP hk, zeR_e, tg_105 hS1, if_pos rfl, a1, zbL_e]
theorem oc_ix (e : Int32) (q : -2 ≤ e ∧ e ≤ 3) : ∃ o, o ≤ 5 ∧ e + 2 = nI o ∧ (e = 3 ↔ o = 5) ∧ (3 ≤ e ↔ o = 5) ∧ (o ≠ 5 → -2 ≤ e ∧ e ≤ 2) := by
  have e3 : (3 : Int32).toInt = 3 := by decide
  have e2 : (2 : Int32).toInt = 2 := by decide
  have em : (-2 : Int32).toInt = -2 := by decide
  obtain ⟨o, h1, h2, h3⟩ := sh_ix e (-2) 3 2 (by decide) (by omega) (by decide) q
  have q1 := Int32.le_iff_toInt_le.mp q.1
  have q2 := Int32.le_iff_toInt_le.mp q.2
  refine ⟨o, by omega, h1, ⟨fun z => ?_, fun z => ?_⟩, ?_, fun z => ⟨q.1, ?_⟩⟩
  · rw [z] at h2; omega
  · apply Int32.toInt_inj.mp; omega
  · rw [Int32.le_iff_toInt_le]; omega
  · rw [Int32.le_iff_toInt_le]; omega
theorem oc_or (hb : b < 32) (e : Int32) : (∃ o, OC b e o) ∨ (¬ (-2 ≤ e ∧ e ≤ 3)) ∨ ((-2 ≤ e ∧ e ≤ 3) ∧ ∃ o, o < 5 ∧ e + 2 = nI o ∧ ¬ e = 3 ∧ ¬ (3 ≤ e) ∧ (-2 ≤ e ∧ e ≤ 2) ∧ b / 2 ^ o % 2 = 0) := by
  by_cases q : -2 ≤ e ∧ e ≤ 3
  · obtain ⟨o, h1, h2, h3, h4, h5⟩ := oc_ix e q
    by_cases q5 : o = 5
    · exact .inl ⟨o, h1, h2, q, h3, .inl q5⟩
    · rcases (show b / 2 ^ o % 2 = 0 ∨ b / 2 ^ o % 2 = 1 by omega) with z | z
      · exact .inr (.inr ⟨q, o, by omega, h2, fun x => q5 (h3.mp x), fun x => q5 (h4.mp x), h5 q5, z⟩)
      · exact .inl ⟨o, h1, h2, q, h3, .inr z⟩
  · exact .inr (.inl q)
theorem c_outY (hb : b < 32) {e : Int32} (h : OC b e o) : zM 133 [.int (nI b), .int e] σ = some (some (.int 1), σ) := by
  obtain ⟨h1, h2, h3, h4, h5⟩ := h
  rw [q_X11_isOutcome]
  by_cases q : e = 3
  · rw [if_pos q]
  · have o5 : o ≠ 5 := fun z => q (h4.mpr z)
    obtain ⟨o', g1, g2, g3, g4, g5⟩ := oc_ix e h3
    have eo : o' = o := (nI_eq (by omega) (by omega)).mp (g2.symm.trans h2)
    subst eo
    rw [if_neg q, sg_c, zbI_e, if_pos (g5 o5), if_neg (by decide), h2, c_inb hb (by omega), zbI_e]
    rcases h5 with h5 | h5
    · exact absurd h5 o5
    · rw [h5, if_neg (by decide)]
theorem c_outN (hb : b < 32) {e : Int32} (h : ¬ ∃ o, OC b e o) : zM 133 [.int (nI b), .int e] σ = some (some (.int 0), σ) := by
  rw [q_X11_isOutcome]
  rcases oc_or hb e with q | q | ⟨-, o, o5, h2, h3, -, h5, h6⟩
  · exact absurd q h
  · have nq : ¬ (-2 ≤ e ∧ e ≤ 2) := by
      rintro ⟨z1, z2⟩
      exact q ⟨z1, Int32.le_trans z2 (by decide)⟩
    rw [if_neg (fun z => q (by rw [z]; decide)), sg_c, zbI_e, if_neg nq, if_pos rfl]
  · rw [if_neg h3, sg_c, zbI_e, if_pos h5, if_neg (by decide), h2, c_inb hb (by omega), zbI_e, h6, if_pos (by decide)]
theorem c_keepsN (h : RR B σ c P S N M K np t n) (hz : ZF σ np zf) {a l x : Int32} (hq : ¬ BX np N zf a l x) (e : Int32) : zM 140 [.ref 6, .int a, .int l, .int x, .int e] σ = some (some (.long (-1)), σ) := by
  rw [q_X11_keeps, tg_6 h.1, if_pos rfl, (c_isBox h hz a l x).2 hq, zbI_e, if_pos rfl]
theorem c_keepsO (h : RR B σ c P S N M K np t n) (hz : ZF σ np zf) {a l : Int32} (hq : BX np N zf a l (nI b)) (hb : b < 32) {e : Int32} (ho : ¬ ∃ o, OC b e o) : zM 140 [.ref 6, .int a, .int l, .int (nI b), .int e] σ = some (some (.long (-1)), σ) := by
  rw [q_X11_keeps, tg_6 h.1, if_pos rfl, (c_isBox h hz a l (nI b)).1 hq, zbI_e, if_neg (by decide), c_outN hb ho, zbI_e, if_pos rfl]
theorem c_keepsY (h : RR B σ c P S N M K np t n) (hz : ZF σ np zf) {a l : Int32} (hq : BX np N zf a l (nI b)) (hb : b < 32) {e : Int32} (ho : OC b e o) : zM 140 [.ref 6, .int a, .int l, .int (nI b), .int e] σ = zbL (zM 141 [.ref 6, .int a, .int l, .int (nI b), .int (nI o)] σ) (fun y3 σ3 => some (some (.long y3), σ3)) := by
  rw [q_X11_keeps, tg_6 h.1, if_pos rfl, (c_isBox h hz a l (nI b)).1 hq, zbI_e, if_neg (by decide), c_outY hb ho, zbI_e, if_neg (by decide), tg_6 h.1, if_pos rfl, ho.2.1]
theorem r_m23 (a : Int32) (s : zS) : zM 188 [.long a.toInt64, .long (-2), .long 3] s = some (some (.int (if -2 ≤ a ∧ a ≤ 3 then 1 else 0)), s) := isInL (by decide +kernel) (by decide +kernel)
theorem r_keepsO (h : RR B σ c P S N M K np t n) (hz : ZF σ np zf) {a l : Int32} (hq : BX np N zf a l (nI b)) (hb : b < 32) {e : Int32} (ho : ¬ ∃ o, OC b e o) : zM 254 [.ref 176, .int a, .int l, .int (nI b), .int e] σ = some (some (.long (-1)), σ) := by
  rw [q_X12_keeps, tg_176 h.1, if_pos rfl, (r_isBox h hz a l (nI b)).1 hq, zbI_e, if_neg (by decide), r_m23, zbI_e]
  rcases oc_or hb e with q | q | ⟨q0, o, o5, h2, h3, h4, h5, h6⟩
  · exact absurd q ho
  · rw [if_neg q, if_pos rfl]
  · rw [if_pos q0, if_neg (by decide), if_neg h4, h2, bit_sh b hb o (by omega), h6, if_pos (by decide)]
theorem r_keepsY (h : RR B σ c P S N M K np t n) (hz : ZF σ np zf) {a l : Int32} (hq : BX np N zf a l (nI b)) (hb : b < 32) {e : Int32} (ho : OC b e o) : zM 254 [.ref 176, .int a, .int l, .int (nI b), .int e] σ = zbL (zM 253 [.ref 176, .int a, .int l, .int (nI b), .int (nI o), .int (-1), .int (-1)] σ) (fun y3 σ3 => some (some (.long y3), σ3)) := by
  have r25 : zR 6 254 25 [some (.ref 176), some (.int a), some (.int l), some (.int (nI b)), some (.int e)] [] σ = zbL (zM 253 [.ref 176, .int a, .int l, .int (nI b), .int (nI o), .int (-1), .int (-1)] σ) (fun y3 σ3 => some (some (.long y3), σ3)) := by
    rw [q_X12_keeps_25, tg_176 h.1, if_pos rfl, ho.2.1]
  obtain ⟨h1, h2, h3, h4, h5⟩ := ho
  rw [q_X12_keeps, tg_176 h.1, if_pos rfl, (r_isBox h hz a l (nI b)).1 hq, zbI_e, if_neg (by decide), r_m23, zbI_e, if_pos h3, if_neg (by decide)]
  by_cases q : 3 ≤ e
  · rw [if_pos q, r25]
  · have o5 : o ≠ 5 := fun z => q (by rw [h4.mpr z]; decide)
    rcases h5 with h5 | h5
    · exact absurd h5 o5
    · rw [if_neg q, h2, bit_sh b hb o (by omega), h5, if_neg (by decide), r25]
theorem AlL_rd (h : RR B σ c P S N M K np t n) (v : Int64) {mC mR : Nat} {aC aR : List Value} (h1 : zM mC aC σ = some (some (.long v), σ)) (h2 : zM mR aR σ = some (some (.long v), σ)) : AlL B σ c mC aC mR aR := ⟨v, σ, σ, h1, h.1, h2, P, S, N, M, K, np, t, n, RR_mono h (by omega)⟩
theorem op_keeps (h : RR B σ c P S N M K np t n) (a l x e : Int32) : AlL B σ c 140 [.ref 6, .int a, .int l, .int x, .int e] 254 [.ref 176, .int a, .int l, .int x, .int e] := by
  have hS := h.1
  have p20 := (RR_pn h).1
  have n8 := (RR_hn h).1.2.1
  obtain ⟨zf, hz⟩ := RR_zf h
  by_cases hq : BX np N zf a l x
  · have hq' := hq
    obtain ⟨p, k, b, hp, hk, b1, b2, b3, b4, rfl, rfl, rfl⟩ := hq
    by_cases ho : ∃ o, OC b e o
    · obtain ⟨o, ho⟩ := ho
      obtain ⟨so, pl, f, g, w, s1, s4, f1, g1, hc, hr⟩ := RR_wd h hp hk
      obtain ⟨σ1, e1, e2, e3, -⟩ := c_xw hS h.2.1.1 h.2.1.2.2.2.1 (by omega) (by omega) s4 hc b1 b2 ho.1
      have h' := RR_xs h e3 e2
      refine ⟨lN (wall pl f g w b o), σ1, σ1, ?_, e2, ?_, P, S, N, M, K, np, t, n, RR_mono h' (by omega)⟩
      · rw [c_keepsY h hz hq' b2 ho, e1, zbL_e]
      · rw [r_keepsY h' (ZF_xs hz p20 e3) hq' b2 ho, r_weights e2 (by omega) (by omega) s4 (RW_xs hr (by omega) (by omega) s4 e3) b1 b2 ho.1, zbL_e, wsel_all]
    · exact AlL_rd h (-1) (c_keepsO h hz hq' b2 ho) (r_keepsO h hz hq' b2 ho)
  · refine AlL_rd h (-1) (c_keepsN h hz hq e) ?_
    rw [q_X12_keeps, tg_176 hS, if_pos rfl, (r_isBox h hz a l x).2 hq, zbI_e, if_pos rfl]
end
