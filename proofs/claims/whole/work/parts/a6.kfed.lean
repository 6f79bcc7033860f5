/-! feed: bytes onto both tapes -/
section
variable {σ σ' σ1 σ2 α α' β β' : zS} {X : Nat → Nat → Prop} {u : Option Value} {B P S N M K np c k n m i mC mR : Nat} {aC aR : List Value} {t : Nat → Nat} {st : lx}
def lb (x : Int32) : Nat := x.toBitVec.toNat % 256
theorem lb_lt (x : Int32) : lb x < 256 := Nat.mod_lt _ (by omega)
theorem and255 (x : Int32) : x &&& 255 = nI (lb x) := by
  apply Int32.toBitVec_inj.mp
  apply BitVec.eq_of_toNat_eq
  rw [Int32.toBitVec_and, BitVec.toNat_and]
  show x.toBitVec.toNat &&& 255 = (BitVec.ofNat 32 (lb x)).toNat
  rw [BitVec.toNat_ofNat, Nat.mod_eq_of_lt (by have := lb_lt x; omega)]
  exact Nat.and_two_pow_sub_one_eq_mod _ 8
theorem to8 (x : Int32) : x.toInt8 = Int8.ofBitVec (BitVec.ofNat 8 (lb x)) := by
  apply Int8.toBitVec_inj.mp
  show x.toBitVec.signExtend 8 = BitVec.ofNat 8 (lb x)
  rw [BitVec.signExtend_eq_setWidth_of_le _ (by omega)]
  apply BitVec.eq_of_toNat_eq
  rw [BitVec.toNat_setWidth, BitVec.toNat_ofNat]
  unfold lb
  omega
theorem sb_8 : ∀ c, c < 256 → (((Int8.ofBitVec (BitVec.ofNat 8 c)).toInt32).toInt8).toInt32 = sb c := by decide +kernel
theorem to8_sb (x : Int32) : ((x.toInt8.toInt32).toInt8).toInt32 = sb (lb x) := by
  rw [to8 x]; exact sb_8 _ (lb_lt x)
/-- shifts -/
def sf (i : Nat) : Int32 := 24 - 8 * nI (i % 4)
theorem sf_c : ∀ i, i < 4 → ¬ sf i < 0 ∧ (sf i &&& 31) = sf i := by decide +kernel
theorem sf_r : ∀ i, i < 20 → ((8 * (3 - (nI i - nI i / 4 * 4))) &&& 31) = sf i := by decide +kernel
def fw (a1 a2 a3 a4 a5 : Int32) (i : Nat) : Int32 := if i < 4 then a1 else if i < 8 then a2 else if i < 12 then a3 else if i < 16 then a4 else a5
def fb (a1 a2 a3 a4 a5 : Int32) (i : Nat) : Nat := lb (fw a1 a2 a3 a4 a5 i >>> sf i)
/-- the tape with i bytes more -/
def tp (t : Nat → Nat) (n : Nat) (b : Nat → Nat) (i : Nat) : Nat → Nat := fun j => if n ≤ j ∧ j < n + i then b (j - n) else t j
theorem tp_s (t : Nat → Nat) (n : Nat) (b : Nat → Nat) (i j : Nat) : tp t n b (i + 1) j = if j = n + i then b i else tp t n b i j := by
  unfold tp
  by_cases q : j = n + i
  · rw [if_pos q, if_pos (by omega), show j - n = i by omega]
  · rw [if_neg q]
    by_cases p : n ≤ j ∧ j < n + i
    · rw [if_pos p, if_pos (by omega)]
    · rw [if_neg p, if_neg (by omega)]
theorem sf_n : ∀ i, i < 4 → (24 - 8 * nI i : Int32) = sf i ∧ sf i + -8 = 24 - 8 * nI (i + 1) := by decide +kernel
theorem f_put (a : Int32) (b : Nat → Nat) (q : Nat) (hb : ∀ i, i < 4 → b (q + i) = lb (a >>> sf i)) (hS : Sh σ) (ht : ∀ j, gI σ 7 j = sb (tp t n b q j)) (h1 : gI σ 6 1 = nI (n + q)) (hn : n + q + 4 ≤ 1600) : ∃ σ', zM 114 [.ref 6, .int a] σ = some (none, σ') ∧ Sh σ' ∧ Un (fun r j => r = 7 ∨ (r = 6 ∧ j = 1)) σ σ' ∧ (∀ j, gI σ' 7 j = sb (tp t n b (q + 4) j)) ∧ gI σ' 6 1 = nI (n + (q + 4)) := by
  obtain ⟨σ1, e1, k1, k2, k3, k4⟩ := lp_run (F := fun i (g : zS) => zR 1 114 2 [some (.ref 6), some (.int a), some (.int (24 - 8 * nI i))] [] g) (fun i g => Sh g ∧ Un (fun r j => r = 7 ∨ (r = 6 ∧ j = 1)) σ g ∧ (∀ j, gI g 7 j = sb (tp t n b (q + i) j)) ∧ gI g 6 1 = nI (n + (q + i))) 4 (by
    intro i g hi ⟨x1, x2, x3, x4⟩
    have hb' := hb i hi
    refine ⟨sI (sI g 7 (n + (q + i)) (sb (lb (a >>> sf i)))) 6 1 (nI (n + (q + i) + 1)), ?_, (x1.sI (by omega)).sI (by omega), x2.trans ((Un_sI (by omega)).trans (Un_sI (by omega))), fun j => ?_, ?_⟩
    · rw [(sf_n i hi).1, q_X11_putOnTape_2, if_neg (sf_c i hi).1, (sf_c i hi).2, (sf_n i hi).2]
      simp -implicitDefEqProofs only [tg_sI, ln_sI, tg_sL, ln_sL, tg_sR, ln_sR, tg_sC, ln_sC, ai_sI, ai_sL, gL_sI, gR_sI, gI_sL, gR_sL, gI_sR, gL_sR, gI_sI, gL_sL, gR_sR, zlt_e, zln_e, zli_e, zll_e, zbI_e, zbL_e, zbR_e, zbV_e, zeR_e, zeN_s, zeN_n, Nat.reduceEqDiff, and_self, and_true, true_and, and_false, false_and, ite_true, ite_false, reduceIte, tg_6 x1, gR_6_0 x1, x4]
      rw [if_neg (show ¬ (1600 : Int32) ≤ nI (n + (q + i)) from nI_ge (b := 1600) (by omega) (by omega)), if_pos (ai_nI (.inl (tg_7 x1)) (ln_7 x1) (show n + (q + i) < 1600 by omega) (by omega)), ixn (by omega), to8_sb, nI_1]
    · rw [gI_sI, if_neg (by omega), gI_sI, show q + (i + 1) = (q + i) + 1 from rfl, tp_s]
      by_cases z : j = n + (q + i)
      · rw [if_pos ⟨rfl, z⟩, if_pos z, hb']
      · rw [if_neg (fun y => z y.2), if_neg z, x3]
    · rw [gI_sI, if_pos ⟨rfl, rfl⟩]; rfl) σ ⟨hS, Un.refl _ _, ht, h1⟩
  have e0 : (24 - 8 * nI 0 : Int32) = 24 := by decide
  have e4 : (24 - 8 * nI 4 : Int32) < 0 := by decide
  simp only [e0] at e1
  refine ⟨σ1, ?_, k1, k2, k3, k4⟩
  rw [q_X11_putOnTape, e1, q_X11_putOnTape_2, if_pos e4]
theorem r_fd34 (a1 a2 a3 a4 a5 : Int32) (u : Option Value) (hi : i < 20) : zR 1 189 10 [some (.ref 176), some (.int a1), some (.int a2), some (.int a3), some (.int a4), some (.int a5), some (.int (nI i)), u] [] σ = zR 1 189 34 [some (.ref 176), some (.int a1), some (.int a2), some (.int a3), some (.int a4), some (.int a5), some (.int (nI i)), u] [.int (fw a1 a2 a3 a4 a5 i)] σ := by
  rw [q_X12_feed_10, if_neg (show ¬ (20 : Int32) ≤ nI i from nI_ge (b := 20) hi (by omega))]
  unfold fw
  by_cases q4 : i < 4
  · rw [if_neg (show ¬ (4 : Int32) ≤ nI i from nI_ge (b := 4) q4 (by omega)), if_pos q4]
  rw [if_pos (show (4 : Int32) ≤ nI i from nI_le (a := 4) (by omega) (by omega)), if_neg q4]
  by_cases q8 : i < 8
  · rw [if_neg (show ¬ (8 : Int32) ≤ nI i from nI_ge (b := 8) q8 (by omega)), if_pos q8]
  rw [if_pos (show (8 : Int32) ≤ nI i from nI_le (a := 8) (by omega) (by omega)), if_neg q8]
  by_cases q12 : i < 12
  · rw [if_neg (show ¬ (12 : Int32) ≤ nI i from nI_ge (b := 12) q12 (by omega)), if_pos q12]
  rw [if_pos (show (12 : Int32) ≤ nI i from nI_le (a := 12) (by omega) (by omega)), if_neg q12]
  by_cases q16 : i < 16
  · rw [if_neg (show ¬ (16 : Int32) ≤ nI i from nI_ge (b := 16) q16 (by omega)), if_pos q16]
  rw [if_pos (show (16 : Int32) ≤ nI i from nI_le (a := 16) (by omega) (by omega)), if_neg q16]
theorem r_feed (a1 a2 a3 a4 a5 : Int32) (hS : Sh σ) (ht : ∀ j, j < 1600 → gI σ 177 j = nI (t j)) (h1 : gI σ 176 1 = nI n) (hn : n + 20 ≤ 1600) : ∃ σ', zM 189 [.ref 176, .int a1, .int a2, .int a3, .int a4, .int a5] σ = some (some (.int (nI (n + 20))), σ') ∧ Sh σ' ∧ Un (fun r j => r = 177 ∨ (r = 176 ∧ j = 1)) σ σ' ∧ (∀ j, j < 1600 → gI σ' 177 j = nI (tp t n (fb a1 a2 a3 a4 a5) 20 j)) ∧ gI σ' 176 1 = nI (n + 20) := by
  obtain ⟨⟨u', σ1⟩, e1, k1, k2, k3, k4⟩ := lp_run (F := fun i (g : Option Value × zS) => zR 1 189 10 [some (.ref 176), some (.int a1), some (.int a2), some (.int a3), some (.int a4), some (.int a5), some (.int (nI i)), g.1] [] g.2) (fun i g => Sh g.2 ∧ Un (fun r j => r = 177 ∨ (r = 176 ∧ j = 1)) σ g.2 ∧ (∀ j, j < 1600 → gI g.2 177 j = nI (tp t n (fb a1 a2 a3 a4 a5) i j)) ∧ gI g.2 176 1 = nI (n + i)) 20 (by
    rintro i ⟨u', g⟩ hi ⟨x1, x2, x3, x4⟩
    simp only at x1 x2 x3 x4 ⊢
    refine ⟨(some (.int (fw a1 a2 a3 a4 a5 i)), sI (sI g 177 (n + i) (nI (fb a1 a2 a3 a4 a5 i))) 176 1 (nI (n + i + 1))), ?_, (x1.sI (by omega)).sI (by omega), x2.trans ((Un_sI (by omega)).trans (Un_sI (by omega))), fun j hj => ?_, ?_⟩
    · rw [r_fd34 a1 a2 a3 a4 a5 u' hi, q_X12_feed_34, sf_r i hi, and255]
      simp -implicitDefEqProofs only [tg_sI, ln_sI, tg_sL, ln_sL, tg_sR, ln_sR, tg_sC, ln_sC, ai_sI, ai_sL, gL_sI, gR_sI, gI_sL, gR_sL, gI_sR, gL_sR, gI_sI, gL_sL, gR_sR, zlt_e, zln_e, zli_e, zll_e, zbI_e, zbL_e, zbR_e, zbV_e, zeR_e, zeN_s, zeN_n, Nat.reduceEqDiff, and_self, and_true, true_and, and_false, false_and, ite_true, ite_false, reduceIte, tg_176 x1, gR_176_0 x1, x4]
      rw [if_pos (ai_nI (.inl (tg_177 x1)) (ln_177 x1) (show n + i < 1600 by omega) (by omega)), ixn (by omega), nI_1, nI_1]
      rfl
    · show gI (sI (sI g 177 (n + i) (nI (fb a1 a2 a3 a4 a5 i))) 176 1 (nI (n + i + 1))) 177 j = _
      rw [gI_sI, if_neg (by omega), gI_sI, tp_s]
      by_cases z : j = n + i
      · rw [if_pos ⟨rfl, z⟩, if_pos z]
      · rw [if_neg (fun y => z y.2), if_neg z, x3 j hj]
    · show gI (sI (sI g 177 (n + i) (nI (fb a1 a2 a3 a4 a5 i))) 176 1 (nI (n + i + 1))) 176 1 = _
      rw [gI_sI, if_pos ⟨rfl, rfl⟩]; rfl) (none, σ) ⟨hS, Un.refl _ _, fun j hj => by
      show gI σ 177 j = _
      unfold tp
      rw [if_neg (by omega)]; exact ht j hj, h1⟩
  simp only at k1 k2 k3 k4
  have e1 : zR 1 189 10 [some (.ref 176), some (.int a1), some (.int a2), some (.int a3), some (.int a4), some (.int a5), some (.int 0), none] [] σ = zR 1 189 10 [some (.ref 176), some (.int a1), some (.int a2), some (.int a3), some (.int a4), some (.int a5), some (.int 20), u'] [] σ1 := e1
  refine ⟨σ1, ?_, k1, k2, k3, k4⟩
  rw [q_X12_feed, tg_176 hS, if_pos rfl, h1, nI_addR 20 n, if_pos (show nI (n + 20) ≤ (1600 : Int32) from nI_le (b := 1600) (by omega) (by omega)), e1, q_X12_feed_10, if_pos (by decide), tg_176 k1, if_pos rfl, k4]
theorem op_feed (h : RR B σ c P S N M K np t n) (a1 a2 a3 a4 a5 : Int32) : Al B σ c 113 [.ref 6, .int a1, .int a2, .int a3, .int a4, .int a5] 189 [.ref 176, .int a1, .int a2, .int a3, .int a4, .int a5] := by
  have hRP := RR_rp h
  have hS := h.1
  have hF : Ft σ := h.2.2.2.2.1
  have hM : rm B σ c := h.2.2.2.2.2.2.2.2.2.2.2.2
  obtain ⟨hn, h256, ht7, ht177, h61, h1761⟩ := h.2.2.1
  by_cases q : n + 20 ≤ 1600
  · have qq : nI (n + 20) ≤ (1600 : Int32) := nI_le (b := 1600) (by omega) (by omega)
    have z0 : ∀ j, gI σ 7 j = sb (tp t n (fb a1 a2 a3 a4 a5) 0 j) := fun j => by
      unfold tp
      rw [if_neg (by omega)]; exact ht7 j
    have sm : ∀ q, q % 4 = 0 → ∀ i, i < 4 → sf (q + i) = sf i := fun q hq i hi => by
      unfold sf
      rw [show (q + i) % 4 = i % 4 by omega]
    obtain ⟨s1, f1, f2, f3, f4, f5⟩ := f_put a1 (fb a1 a2 a3 a4 a5) 0 (fun i hi => by unfold fb; rw [sm 0 rfl i hi]; unfold fw; rw [if_pos (by omega)]) hS z0 h61 (by omega)
    obtain ⟨s2, g1, g2, g3, g4, g5⟩ := f_put a2 (fb a1 a2 a3 a4 a5) 4 (fun i hi => by unfold fb; rw [sm 4 rfl i hi]; unfold fw; rw [if_neg (by omega), if_pos (by omega)]) f2 f4 f5 (by omega)
    obtain ⟨s3, i1, i2, i3, i4, i5⟩ := f_put a3 (fb a1 a2 a3 a4 a5) 8 (fun i hi => by unfold fb; rw [sm 8 rfl i hi]; unfold fw; rw [if_neg (by omega), if_neg (by omega), if_pos (by omega)]) g2 g4 g5 (by omega)
    obtain ⟨s4, j1, j2, j3, j4, j5⟩ := f_put a4 (fb a1 a2 a3 a4 a5) 12 (fun i hi => by unfold fb; rw [sm 12 rfl i hi]; unfold fw; rw [if_neg (by omega), if_neg (by omega), if_neg (by omega), if_pos (by omega)]) i2 i4 i5 (by omega)
    obtain ⟨s5, k1, k2, k3, k4, k5⟩ := f_put a5 (fb a1 a2 a3 a4 a5) 16 (fun i hi => by unfold fb; rw [sm 16 rfl i hi]; unfold fw; rw [if_neg (by omega), if_neg (by omega), if_neg (by omega), if_neg (by omega)]) j2 j4 j5 (by omega)
    have w := f3.trans (g3.trans (i3.trans (j3.trans k3)))
    obtain ⟨s6, m1, m2, m3, m4, m5⟩ := r_feed (t := t) (n := n) a1 a2 a3 a4 a5 k2 (fun j hj => by rw [w.iA (by omega) (by omega) (by rw [tg_177 hS]; omega) (by omega)]; exact ht177 j hj) (by rw [w.i (by omega) (by omega) (by omega) (by omega)]; exact h1761) q
    have w6 : Un Xz σ s6 := (w.mono (fun r j _ _ q => by
      rcases q with rfl | ⟨rfl, rfl⟩
      · exact .inr (.inr (.inr (.inl rfl)))
      · exact .inr (.inl ⟨rfl, .inl rfl⟩))).trans (m3.mono (fun r j _ _ q => by
      rcases q with rfl | ⟨rfl, rfl⟩
      · exact .inr (.inr (.inr (.inr rfl)))
      · exact .inr (.inr (.inl ⟨rfl, .inl rfl⟩))))
    have w8 : Un (fun r j => r = 7 ∨ r = 177 ∨ ((r = 6 ∨ r = 176) ∧ j = 1)) σ s6 := (w.mono (fun r j _ _ q => by omega)).trans (m3.mono (fun r j _ _ q => by omega))
    refine ⟨nI (n + 20), s5, s6, ?_, k2, m1, P, S, N, M, K, np, tp t n (fb a1 a2 a3 a4 a5) 20, n + 20, RR_mono (RP_rr (RP_zs hRP w6 m2) ⟨q, fun j => ?_, fun j => ?_, m4, ?_, m5⟩ (Ft_un hF w8 ⟨by omega, by omega, by omega, by omega⟩) (rm_z hM w6)) (by omega)⟩
    · rw [q_X11_feed, tg_6 hS, if_pos rfl, h61, nI_addR 20 n, if_pos qq]
      simp -implicitDefEqProofs only [tg_sI, ln_sI, tg_sL, ln_sL, tg_sR, ln_sR, tg_sC, ln_sC, ai_sI, ai_sL, gL_sI, gR_sI, gI_sL, gR_sL, gI_sR, gL_sR, gI_sI, gL_sL, gR_sR, zlt_e, zln_e, zli_e, zll_e, zbI_e, zbL_e, zbR_e, zbV_e, zeR_e, zeN_s, zeN_n, Nat.reduceEqDiff, and_self, and_true, true_and, and_false, false_and, ite_true, ite_false, reduceIte, f1, tg_6 f2, g1, tg_6 g2, i1, tg_6 i2, j1]
      rw [q_X11_feed_20]
      simp -implicitDefEqProofs only [tg_sI, ln_sI, tg_sL, ln_sL, tg_sR, ln_sR, tg_sC, ln_sC, ai_sI, ai_sL, gL_sI, gR_sI, gI_sL, gR_sL, gI_sR, gL_sR, gI_sI, gL_sL, gR_sR, zlt_e, zln_e, zli_e, zll_e, zbI_e, zbL_e, zbR_e, zbV_e, zeR_e, zeN_s, zeN_n, Nat.reduceEqDiff, and_self, and_true, true_and, and_false, false_and, ite_true, ite_false, reduceIte, tg_6 j2, k1, tg_6 k2, k5]
    · unfold tp
      split
      · exact lb_lt _
      · exact h256 j
    · rw [m3.iA (by omega) (by omega) (by rw [tg_7 k2]; omega) (by omega)]; exact k4 j
    · rw [m3.i (by omega) (by omega) (by omega) (by omega)]; exact k5
  · have qq : ¬ nI (n + 20) ≤ (1600 : Int32) := nI_ge (a := 1600) (by omega) (by omega)
    refine Al_rd h (-1) ?_ ?_
    · rw [q_X11_feed, tg_6 hS, if_pos rfl, h61, nI_addR 20 n, if_neg qq]
    · rw [q_X12_feed, tg_176 hS, if_pos rfl, h1761, nI_addR 20 n, if_neg qq]
end
