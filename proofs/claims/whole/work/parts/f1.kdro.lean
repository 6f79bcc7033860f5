/-! draw: both answer alike -/
section
variable {σ σ' σ1 σ2 : zS} {t : Nat → Nat} {B P S N M K np c n s0 : Nat} {gf ff : Nat → Nat → Nat}
/-- what is drawn of the i-th row -/
def drk (f : Nat → Nat) (n s0 i : Nat) : Nat := sfk f (drv (sdn s0 (i + 1))) n 0
theorem drk_lt {f : Nat → Nat} {n s0 i : Nat} (h : smN f n = 10000) : drk f n s0 i < n := by
  have vl : drv (sdn s0 (i + 1)) < 10000 := Nat.mod_lt _ (by omega)
  have := (sfk_lk (f := f) (v := drv (sdn s0 (i + 1))) n 0 (fun j hj => by omega) (by rw [Nat.zero_add, h]; exact vl)).2
  rw [Nat.zero_add] at this
  exact this
theorem c_dL1 (hS : Sh σ) (hP : HP P) (h65 : gR σ 6 5 = some P) (hN : N ≤ 8) (h5 : gI σ P 5 = nI N) (x : Int32) (hs0 : s0 < 2147483648) (hs : gL σ 6 12 = lN s0) (hg : ∀ i, i < N → smN (gf i) 3 = 10000 ∧ ∀ r, r < 3 → gI σ (P + 9 + 2 * i) r = nI (gf i r)) : ∃ σ', zR 3 176 10 [some (.ref 6), some (.int x), some (.int 0)] [] σ = zR 3 176 33 [some (.ref 6), some (.int x), some (.int 0)] [] σ' ∧ Sh σ' ∧ Un (fun r j => (r = 6 ∧ j = 12) ∨ (P + 8 ≤ r ∧ r < P + 24 ∧ r % 2 = 0 ∧ j = 3)) σ σ' ∧ gL σ' 6 12 = lN (sdn s0 N) ∧ ∀ i, i < N → gI σ' (P + 8 + 2 * i) 3 = nI (drk (gf i) 3 s0 i) := by
  have hbb := HPb hP
  have he : P % 2 = 0 := by rcases hP with rfl | rfl <;> rfl
  obtain ⟨s1, e1, k1, k2, k3, k4⟩ := lp_run (F := fun i (g : zS) => zR 3 176 10 [some (.ref 6), some (.int x), some (.int (nI i))] [] g) (fun i g => Sh g ∧ Un (fun r j => (r = 6 ∧ j = 12) ∨ (P + 8 ≤ r ∧ r < P + 24 ∧ r % 2 = 0 ∧ j = 3)) σ g ∧ gL g 6 12 = lN (sdn s0 i) ∧ ∀ j, j < i → gI g (P + 8 + 2 * j) 3 = nI (drk (gf j) 3 s0 j)) N (by
    rintro i g hi ⟨k1, k2, k3, k4⟩
    have i8 : i < 8 := by omega
    have e65 : gR g 6 5 = some P := by rw [k2.r (by omega) (by omega) (by omega) (by omega)]; exact h65
    have g5 : gI g P 5 = nI N := by rw [k2.i (by omega) (by omega) (by omega) (by omega)]; exact h5
    have ap := ai_nI (σ := g) (t := 68) (u := 68) (.inl (tg_P1 k1 hP)) (ln_P1 k1 hP) i8 (by omega)
    have df := c_df (f := gf i) k1 (sdn_lt hs0 i) k3 (tg_Pruns k1 hP i8) (ln_Pruns k1 hP i8) (by omega) (fun r hr => by rw [k2.i (by omega) (by omega) (by omega) (by omega)]; exact (hg i hi).2 r hr) (hg i hi).1
    have S2 : Sh (sL g 6 12 (lN (drs (sdn s0 i)))) := k1.sL
    refine ⟨sI (sL g 6 12 (lN (drs (sdn s0 i)))) (P + 8 + 2 * i) 3 (nI (drk (gf i) 3 s0 i)), ?_, S2.sI (by omega), k2.trans ((Un_sL (by omega)).trans (Un_sI (by omega))), ?_, fun j hj => ?_⟩
    · rw [q_X11_draw_10, tg_6 k1, if_pos rfl, e65, zeR_e, tg_P k1 hP, if_pos rfl, g5, if_neg (nI_ge hi (by omega)), if_pos rfl, zeR_e, tg_P k1 hP, if_pos rfl, gR_P_0 k1 hP, zeR_e, if_pos ap, ixn (by omega), gR_Plast k1 hP i8, zeR_e, if_pos rfl, zeR_e, tg_P k1 hP, if_pos rfl, gR_P_0 k1 hP, zeR_e, if_pos ap, gR_Plast k1 hP i8, zeR_e, tg_Plast k1 hP i8, if_pos rfl, gR_Pruns k1 hP i8, zeR_e, if_pos rfl, df, zbI_e, tg_Plast S2 hP i8, if_pos rfl, zlt_e, nI_1]
      rfl
    · rw [gL_sI, gL_sL, if_pos ⟨rfl, rfl⟩]; rfl
    · rw [gI_sI]
      by_cases q : j = i
      · subst q; rw [if_pos ⟨rfl, rfl⟩]
      · rw [if_neg (by omega), gI_sL]; exact k4 j (by omega)) σ ⟨hS, Un.refl _ _, hs, fun j hj => by omega⟩
  have e65 : gR s1 6 5 = some P := by rw [k2.r (by omega) (by omega) (by omega) (by omega)]; exact h65
  have g5 : gI s1 P 5 = nI N := by rw [k2.i (by omega) (by omega) (by omega) (by omega)]; exact h5
  refine ⟨s1, ?_, k1, k2, k3, k4⟩
  refine Eq.trans e1 ?_
  rw [q_X11_draw_10, tg_6 k1, if_pos rfl, e65, zeR_e, tg_P k1 hP, if_pos rfl, g5, if_pos (nI_le (Nat.le_refl _) (by omega))]
theorem c_dL2 (hS : Sh σ) (hP : HP P) (h65 : gR σ 6 5 = some P) (hN : N ≤ 8) (h5 : gI σ P 5 = nI N) (p20 : np ≤ 20) (h10 : gI σ 6 10 = nI np) (x : Int32) (hs0 : s0 < 2147483648) (hs : gL σ 6 12 = lN (sdn s0 N)) (hg : ∀ i, i < np → smN (ff i) 5 = 10000 ∧ ∀ r, r < 5 → gI σ (117 + 3 * i) r = nI (ff i r)) : ∃ σ', zR 3 176 33 [some (.ref 6), some (.int x), some (.int 0)] [] σ = some (some (.int (nI N + nI np)), σ') ∧ Sh σ' ∧ Un (fun r j => (r = 6 ∧ j = 12) ∨ (116 ≤ r ∧ r < 176 ∧ r % 3 = 2 ∧ j = 7)) σ σ' ∧ gL σ' 6 12 = lN (sdn s0 (N + np)) ∧ ∀ i, i < np → gI σ' (116 + 3 * i) 7 = nI (drk (ff i) 5 s0 (N + i)) := by
  have hbb := HPb hP
  obtain ⟨s1, e1, k1, k2, k3, k4⟩ := lp_run (F := fun i (g : zS) => zR 3 176 33 [some (.ref 6), some (.int x), some (.int (nI i))] [] g) (fun i g => Sh g ∧ Un (fun r j => (r = 6 ∧ j = 12) ∨ (116 ≤ r ∧ r < 176 ∧ r % 3 = 2 ∧ j = 7)) σ g ∧ gL g 6 12 = lN (sdn s0 (N + i)) ∧ ∀ j, j < i → gI g (116 + 3 * j) 7 = nI (drk (ff j) 5 s0 (N + j))) np (by
    rintro i g hi ⟨k1, k2, k3, k4⟩
    have i20 : i < 20 := by omega
    have g10 : gI g 6 10 = nI np := by rw [k2.i (by omega) (by omega) (by omega) (by omega)]; exact h10
    have ap := ai_nI (σ := g) (t := 69) (u := 69) (.inl (tg_104 k1)) (ln_104 k1) i20 (by omega)
    have df := c_df (f := ff i) k1 (sdn_lt hs0 (N + i)) k3 (tg_pfeet k1 i20) (ln_pfeet k1 i20) (by omega) (fun r hr => by rw [k2.i (by omega) (by omega) (by omega) (by omega)]; exact (hg i hi).2 r hr) (hg i hi).1
    have S2 : Sh (sL g 6 12 (lN (drs (sdn s0 (N + i))))) := k1.sL
    refine ⟨sI (sL g 6 12 (lN (drs (sdn s0 (N + i))))) (116 + 3 * i) 7 (nI (drk (ff i) 5 s0 (N + i))), ?_, S2.sI (by omega), k2.trans ((Un_sL (by omega)).trans (Un_sI (by omega))), ?_, fun j hj => ?_⟩
    · rw [q_X11_draw_33, tg_6 k1, if_pos rfl, g10, if_neg (nI_ge hi (by omega)), if_pos rfl, gR_6_9 k1, zeR_e, if_pos ap, ixn (by omega), gR_people k1 i20, zeR_e, if_pos rfl, zeR_e, if_pos ap, gR_people k1 i20, zeR_e, tg_person k1 i20, if_pos rfl, gR_pfeet k1 i20, zeR_e, if_pos rfl, df, zbI_e, tg_person S2 i20, if_pos rfl, zlt_e, nI_1]
      rfl
    · rw [gL_sI, gL_sL, if_pos ⟨rfl, rfl⟩]; rfl
    · rw [gI_sI]
      by_cases q : j = i
      · subst q; rw [if_pos ⟨rfl, rfl⟩]
      · rw [if_neg (by omega), gI_sL]; exact k4 j (by omega)) σ ⟨hS, Un.refl _ _, hs, fun j hj => by omega⟩
  have e65 : gR s1 6 5 = some P := by rw [k2.r (by omega) (by omega) (by omega) (by omega)]; exact h65
  have g5 : gI s1 P 5 = nI N := by rw [k2.i (by omega) (by omega) (by omega) (by omega)]; exact h5
  have g10 : gI s1 6 10 = nI np := by rw [k2.i (by omega) (by omega) (by omega) (by omega)]; exact h10
  refine ⟨s1, ?_, k1, k2, k3, k4⟩
  refine Eq.trans e1 ?_
  rw [q_X11_draw_33, tg_6 k1, if_pos rfl, g10, if_pos (nI_le (Nat.le_refl _) (by omega)), if_pos rfl, e65, zeR_e, tg_P k1 hP, if_pos rfl, if_pos rfl, g5]
theorem r_dL1 (hS : Sh σ) (hN : N ≤ 8) (h3 : gI σ 214 3 = nI N) (x : Int32) (hs0 : s0 < 2147483648) (hs : gL σ 176 95 = lN s0) (hg : ∀ i, i < N → smN (gf i) 3 = 10000 ∧ ∀ r, r < 3 → gI σ 235 (3 * i + r) = nI (gf i r)) : ∃ σ', zR 3 308 10 [some (.ref 176), some (.int x), some (.int 0)] [] σ = zR 3 308 29 [some (.ref 176), some (.int x), some (.int 0)] [] σ' ∧ Sh σ' ∧ Un (fun r j => (r = 176 ∧ j = 95) ∨ r = 241) σ σ' ∧ gL σ' 176 95 = lN (sdn s0 N) ∧ ∀ i, i < N → gI σ' 241 i = nI (drk (gf i) 3 s0 i) := by
  obtain ⟨s1, e1, k1, k2, k3, k4⟩ := lp_run (F := fun i (g : zS) => zR 3 308 10 [some (.ref 176), some (.int x), some (.int (nI i))] [] g) (fun i g => Sh g ∧ Un (fun r j => (r = 176 ∧ j = 95) ∨ r = 241) σ g ∧ gL g 176 95 = lN (sdn s0 i) ∧ ∀ j, j < i → gI g 241 j = nI (drk (gf j) 3 s0 j)) N (by
    rintro i g hi ⟨k1, k2, k3, k4⟩
    have g3 : gI g 214 3 = nI N := by rw [k2.i (by omega) (by omega) (by omega) (by omega)]; exact h3
    have df := r_df (f := gf i) (n := 3) (o := 3 * i) (L := 24) k1 (sdn_lt hs0 i) k3 (tg_235 k1) (ln_235 k1) (by omega) (by omega) (fun r hr => by rw [k2.i (by omega) (by omega) (by omega) (by omega)]; exact (hg i hi).2 r hr) (hg i hi).1
    have S2 : Sh (sL g 176 95 (lN (drs (sdn s0 i)))) := k1.sL
    refine ⟨sI (sL g 176 95 (lN (drs (sdn s0 i)))) 241 i (nI (drk (gf i) 3 s0 i)), ?_, S2.sI (by omega), k2.trans ((Un_sL (by omega)).trans (Un_sI (by omega))), ?_, fun j hj => ?_⟩
    · rw [q_X12_draw_10, tg_176 k1, if_pos rfl, r_lasts k1 g3, zbI_e, if_neg (nI_ge hi (by omega)), tg_176 k1, if_pos rfl, gR_176_80 k1, zeR_e, if_pos rfl, gR_176_74 k1, zeR_e, if_pos rfl, nI_mulL 3 i, df, zbI_e, if_pos (ai_nI (.inl (tg_241 S2)) (ln_241 S2) (show i < 8 by omega) (by omega)), zlt_e, ixn (by omega), nI_1]
      rfl
    · rw [gL_sI, gL_sL, if_pos ⟨rfl, rfl⟩]; rfl
    · rw [gI_sI]
      by_cases q : j = i
      · subst q; rw [if_pos ⟨rfl, rfl⟩]
      · rw [if_neg (by omega), gI_sL]; exact k4 j (by omega)) σ ⟨hS, Un.refl _ _, hs, fun j hj => by omega⟩
  have g3 : gI s1 214 3 = nI N := by rw [k2.i (by omega) (by omega) (by omega) (by omega)]; exact h3
  refine ⟨s1, ?_, k1, k2, k3, k4⟩
  refine Eq.trans e1 ?_
  rw [q_X12_draw_10, tg_176 k1, if_pos rfl, r_lasts k1 g3, zbI_e, if_pos (nI_le (Nat.le_refl _) (by omega))]
theorem r_dL2 (hS : Sh σ) (hN : N ≤ 8) (h3 : gI σ 214 3 = nI N) (p20 : np ≤ 20) (h70 : gI σ 176 70 = nI np) (x : Int32) (hs0 : s0 < 2147483648) (hs : gL σ 176 95 = lN (sdn s0 N)) (hg : ∀ i, i < np → smN (ff i) 5 = 10000 ∧ ∀ r, r < 5 → gI σ 234 (5 * i + r) = nI (ff i r)) : ∃ σ', zR 3 308 29 [some (.ref 176), some (.int x), some (.int 0)] [] σ = some (some (.int (nI N + nI np)), σ') ∧ Sh σ' ∧ Un (fun r j => (r = 176 ∧ j = 95) ∨ r = 240) σ σ' ∧ gL σ' 176 95 = lN (sdn s0 (N + np)) ∧ ∀ i, i < np → gI σ' 240 i = nI (drk (ff i) 5 s0 (N + i)) := by
  obtain ⟨s1, e1, k1, k2, k3, k4⟩ := lp_run (F := fun i (g : zS) => zR 3 308 29 [some (.ref 176), some (.int x), some (.int (nI i))] [] g) (fun i g => Sh g ∧ Un (fun r j => (r = 176 ∧ j = 95) ∨ r = 240) σ g ∧ gL g 176 95 = lN (sdn s0 (N + i)) ∧ ∀ j, j < i → gI g 240 j = nI (drk (ff j) 5 s0 (N + j))) np (by
    rintro i g hi ⟨k1, k2, k3, k4⟩
    have g70 : gI g 176 70 = nI np := by rw [k2.i (by omega) (by omega) (by omega) (by omega)]; exact h70
    have df := r_df (f := ff i) (n := 5) (o := 5 * i) (L := 100) k1 (sdn_lt hs0 (N + i)) k3 (tg_234 k1) (ln_234 k1) (by omega) (by omega) (fun r hr => by rw [k2.i (by omega) (by omega) (by omega) (by omega)]; exact (hg i hi).2 r hr) (hg i hi).1
    have S2 : Sh (sL g 176 95 (lN (drs (sdn s0 (N + i))))) := k1.sL
    refine ⟨sI (sL g 176 95 (lN (drs (sdn s0 (N + i))))) 240 i (nI (drk (ff i) 5 s0 (N + i))), ?_, S2.sI (by omega), k2.trans ((Un_sL (by omega)).trans (Un_sI (by omega))), ?_, fun j hj => ?_⟩
    · rw [q_X12_draw_29, tg_176 k1, if_pos rfl, g70, if_neg (nI_ge hi (by omega)), if_pos rfl, gR_176_79 k1, zeR_e, if_pos rfl, gR_176_73 k1, zeR_e, if_pos rfl, nI_mulL 5 i, df, zbI_e, if_pos (ai_nI (.inl (tg_240 S2)) (ln_240 S2) (show i < 20 by omega) (by omega)), zlt_e, ixn (by omega), nI_1]
      rfl
    · rw [gL_sI, gL_sL, if_pos ⟨rfl, rfl⟩]; rfl
    · rw [gI_sI]
      by_cases q : j = i
      · subst q; rw [if_pos ⟨rfl, rfl⟩]
      · rw [if_neg (by omega), gI_sL]; exact k4 j (by omega)) σ ⟨hS, Un.refl _ _, hs, fun j hj => by omega⟩
  have g3 : gI s1 214 3 = nI N := by rw [k2.i (by omega) (by omega) (by omega) (by omega)]; exact h3
  have g70 : gI s1 176 70 = nI np := by rw [k2.i (by omega) (by omega) (by omega) (by omega)]; exact h70
  refine ⟨s1, ?_, k1, k2, k3, k4⟩
  refine Eq.trans e1 ?_
  rw [q_X12_draw_29, tg_176 k1, if_pos rfl, g70, if_pos (nI_le (Nat.le_refl _) (by omega)), if_pos rfl, r_lasts k1 g3, zbI_e, tg_176 k1, if_pos rfl, g70]
theorem op_draw (h : RR B σ c P S N M K np t n) (x : Int32) : Al B σ c 176 [.ref 6, .int x] 308 [.ref 176, .int x] := by
  by_cases q : 0 ≤ x
  · obtain ⟨s0, hs0, rfl⟩ := nI_of (Int32.not_lt.mpr q)
    have hR := h
    have hS := h.1
    have hP := h.2.1.1
    have hb := HPb hP
    obtain ⟨g1, g2, g3, g4, g5, ⟨h1, h2, h3, h4, h5, h6, h7, h8, h9, h10⟩, g7, g8, g9, g10, g11, g12, g13⟩ := h
    have n1 := h1.1.2.1
    have n2 := h1.2.1.2.1
    have n3 := h1.2.2.2.1
    have n4 := g8.1
    have he : P % 2 = 0 := by rcases hP with rfl | rfl <;> rfl
    have hgf : ∃ gf : Nat → Nat → Nat, ∀ i, i < N → smN (gf i) 3 = 10000 ∧ ∀ r, r < 3 → gI σ (P + 9 + 2 * i) r = nI (gf i r) ∧ gI σ 235 (3 * i + r) = nI (gf i r) := by
      refine ⟨fun i r => ix (gI σ 235 (3 * i + r)), fun i hi => ?_⟩
      obtain ⟨g, y1, y2⟩ := h8 i hi
      have e : ∀ r, r < 3 → ix (gI σ 235 (3 * i + r)) = g r := fun r hr => by
        have := sm3 g r hr
        rw [(y2 r hr).2, ixn (by omega)]
      refine ⟨?_, fun r hr => by simp only [e r hr]; exact y2 r hr⟩
      rw [smN_congr 3 (g := g) e]
      simp only [smN]
      omega
    have hff : ∃ ff : Nat → Nat → Nat, ∀ i, i < np → smN (ff i) 5 = 10000 ∧ ∀ r, r < 5 → gI σ (117 + 3 * i) r = nI (ff i r) ∧ gI σ 234 (5 * i + r) = nI (ff i r) := by
      refine ⟨fun i r => ix (gI σ 234 (5 * i + r)), fun i hi => ?_⟩
      obtain ⟨so, z, -, -, -, -, ⟨f, y1, y2⟩, -⟩ := g9 i hi
      have e : ∀ r, r < 5 → ix (gI σ 234 (5 * i + r)) = f r := fun r hr => by
        have := sm5 f r hr
        rw [(y2 r hr).2, ixn (by omega)]
      refine ⟨?_, fun r hr => by simp only [e r hr]; exact y2 r hr⟩
      rw [smN_congr 5 (g := f) e]
      simp only [smN]
      omega
    obtain ⟨gf, hgf⟩ := hgf
    obtain ⟨ff, hff⟩ := hff
    have h65 : gR σ 6 5 = some P := g2.2.2.2.1
    have S0 : Sh (sL σ 6 12 (lN s0)) := hS.sL
    obtain ⟨σ1, a1, a2, a3, a4, a5⟩ := c_dL1 (gf := gf) (s0 := s0) S0 hP h65 n1 h1.1.1 (nI s0) (by omega) (by rw [gL_sL, if_pos ⟨rfl, rfl⟩]) (fun i hi => ⟨(hgf i hi).1, fun r hr => ((hgf i hi).2 r hr).1⟩)
    have u1 : Un (fun r j => (r = 6 ∧ j = 12) ∨ (P + 8 ≤ r ∧ r < P + 24 ∧ r % 2 = 0 ∧ j = 3)) σ σ1 := (Un_sL (by omega)).trans a3
    obtain ⟨σ2, b1, b2, b3, b4, b5⟩ := c_dL2 (ff := ff) (s0 := s0) a2 hP (by rw [u1.r (by omega) (by omega) (by omega) (by omega)]; exact h65) n1 (by rw [u1.i (by omega) (by omega) (by omega) (by omega)]; exact h1.1.1) n4 (by rw [u1.i (by omega) (by omega) (by omega) (by omega)]; exact g8.2.1) (nI s0) (by omega) a4 (fun i hi => ⟨(hff i hi).1, fun r hr => by rw [u1.i (by omega) (by omega) (by omega) (by omega)]; exact ((hff i hi).2 r hr).1⟩)
    have u2 : Un (fun r j => (r = 6 ∧ j = 12) ∨ (P + 8 ≤ r ∧ r < P + 24 ∧ r % 2 = 0 ∧ j = 3) ∨ (116 ≤ r ∧ r < 176 ∧ r % 3 = 2 ∧ j = 7)) σ σ2 := (u1.mono (fun r j _ _ q => by omega)).trans (b3.mono (fun r j _ _ q => by omega))
    have S3 : Sh (sL σ2 176 95 (lN s0)) := b2.sL
    obtain ⟨σ3, c1, c2, c3, c4, c5⟩ := r_dL1 (gf := gf) (s0 := s0) S3 n1 (by show gI σ2 214 3 = _; rw [u2.i (by omega) (by omega) (by omega) (by omega)]; exact h1.1.2.2) (nI s0) (by omega) (by rw [gL_sL, if_pos ⟨rfl, rfl⟩]) (fun i hi => ⟨(hgf i hi).1, fun r hr => by rw [gI_sL, u2.i (by omega) (by omega) (by omega) (by omega)]; exact ((hgf i hi).2 r hr).2⟩)
    have u3 : Un (fun r j => (r = 176 ∧ j = 95) ∨ r = 241) σ2 σ3 := (Un_sL (by omega)).trans c3
    obtain ⟨σ4, d1, d2, d3, d4, d5⟩ := r_dL2 (ff := ff) (s0 := s0) c2 n1 (by rw [u3.i (by omega) (by omega) (by omega) (by omega), u2.i (by omega) (by omega) (by omega) (by omega)]; exact h1.1.2.2) n4 (by rw [u3.i (by omega) (by omega) (by omega) (by omega), u2.i (by omega) (by omega) (by omega) (by omega)]; exact g8.2.2) (nI s0) (by omega) c4 (fun i hi => ⟨(hff i hi).1, fun r hr => by rw [u3.i (by omega) (by omega) (by omega) (by omega), u2.i (by omega) (by omega) (by omega) (by omega)]; exact ((hff i hi).2 r hr).2⟩)
    have u4 : Un (fun r j => (r = 176 ∧ j = 95) ∨ r = 241 ∨ r = 240) σ2 σ4 := (u3.mono (fun r j _ _ q => by omega)).trans (d3.mono (fun r j _ _ q => by omega))
    have w : Un (fun r j => ((r = 6 ∧ j = 12) ∨ (P + 8 ≤ r ∧ r < P + 24 ∧ r % 2 = 0 ∧ j = 3) ∨ (116 ≤ r ∧ r < 176 ∧ r % 3 = 2 ∧ j = 7)) ∨ (r = 176 ∧ j = 95) ∨ r = 241 ∨ r = 240) σ σ4 := (u2.mono (fun r j _ _ q => .inl q)).trans (u4.mono (fun r j _ _ q => .inr q))
    refine ⟨nI N + nI np, σ2, σ4, ?_, b2, ?_, P, S, N, M, K, np, t, n, RR_mono (c := c) ⟨d2, Hs_un g2 w ⟨by omega, by omega⟩, Tp_un g3 g1 w ⟨fun j => by omega, fun j => by omega, by omega, by omega⟩, Ow_un g4 g1 w (fun r j a => by omega), Ft_un g5 w ⟨by omega, by omega, by omega, by omega⟩, ⟨HN_un h1 hP w (fun j _ _ => by omega) (fun j _ _ => by omega), HF_un h2 hP w ⟨by omega, by omega⟩ ⟨by omega, by omega⟩, HC_un h3 hP w (by omega) (by omega), HPl_un h4 hP w (fun j _ => by omega) (fun j _ _ => by omega), (fun k hk => HL_un (h5 k hk) (by omega) hP w (fun j _ => by omega) ⟨by omega, by omega⟩), (fun k hk => HO_un (h6 k hk) (by omega) hP w (fun j => ⟨by omega, by omega⟩) ⟨by omega, by omega, by omega, by omega, fun d _ => by omega⟩), (fun k hk => HQ_un (h7 k hk) (by omega) hP w (fun j => ⟨by omega, by omega⟩) ⟨by omega, fun d _ => by omega⟩), (fun k hk => HR_un (h8 k hk) (by omega) hP w (fun j => by omega) (fun r _ => by omega)), fun k hk => ?_, HS_un h10 n1 g1 hP w (fun j => by omega) (fun j _ => by omega)⟩, HD_un g7 g1 hP w ⟨by omega, by omega, fun j => by omega⟩ ⟨by omega, by omega, fun j => by omega, fun j => by omega⟩, PN_un g8 w ⟨by omega, by omega⟩, fun p hp => ?_, IM_un g10 g1 w ⟨by omega, by omega, fun j => by omega, fun j => by omega⟩, ?_, (fun k hk => RUk_un (g12 k hk) hk g1 w ⟨by omega, by omega, by omega, fun r j a _ _ => by omega, fun j _ _ => by omega⟩), rm_un g13 w (fun j => by omega)⟩ (by omega)⟩
    · rw [q_X11_draw, if_pos q, tg_6 hS, if_pos rfl, nI_l hs0, zlt_e, a1, b1]
    · rw [q_X12_draw, if_pos q, tg_176 b2, if_pos rfl, nI_l hs0, zlt_e, c1, d1]
    · have e1 : gI σ4 (P + 8 + 2 * k) 3 = nI (drk (gf k) 3 s0 k) := by rw [u4.i (by omega) (by omega) (by omega) (by omega), b3.i (by omega) (by omega) (by omega) (by omega)]; exact a5 k hk
      have e2 : gI σ4 241 k = nI (drk (gf k) 3 s0 k) := by rw [d3.i (by omega) (by omega) (by omega) (by omega)]; exact c5 k hk
      exact ⟨by rw [e1, e2], .inr ⟨_, drk_lt (hgf k hk).1, e2⟩⟩
    · have hp20 : p < 20 := by omega
      obtain ⟨so, z, p1, p2, p3, p4, p5, p6, p7, p8⟩ := g9 p hp
      have e1 : gI σ4 (116 + 3 * p) 7 = nI (drk (ff p) 5 s0 (N + p)) := by rw [u4.i (by omega) (by omega) (by omega) (by omega)]; exact b5 p hp
      exact ⟨so, z, p1, p2, p3, PA_un p4 hp20 w ⟨by omega, by omega, by omega, by omega⟩, PF_un p5 hp20 g1 w ⟨fun d => by omega, fun d _ => by omega⟩, PB_un p6 hp20 w ⟨by omega, by omega, by omega, by omega⟩, ⟨by rw [e1, d5 p hp], .inr ⟨_, drk_lt (hff p hp).1, d5 p hp⟩⟩, PK_un p8 hp20 p3 g1 w ⟨by omega, by omega, by omega, by omega, fun j => by omega, fun j _ _ => by omega⟩⟩
    · refine ⟨?_, sdn s0 (N + np), sdn_lt (by omega) _, ?_, d4⟩
      · rw [w.i (by omega) (by omega) (by omega) (by omega), w.i (by omega) (by omega) (by omega) (by omega)]; exact g11.1
      · rw [u4.l (by omega) (by omega) (by omega) (by omega)]; exact b4
  · refine Al_rd h (-1) ?_ ?_
    · rw [q_X11_draw, if_neg q]
    · rw [q_X12_draw, if_neg q]
end
