/-! on: boxes that are out come home; both alike -/
def hmf (zf bl bb : Nat → Nat) (s : Nat → Int32) : Nat → Nat → Int32
  | 0, j => s j
  | i + 1, j => if bb i = 0 then hmf zf bl bb s i j else if 20 * bl i ≤ j ∧ j < 20 * bl i + 20 then chs (zf i) (bb i) 1 (fun x => hmf zf bl bb s i (20 * bl i + x)) 5 (j - 20 * bl i) else hmf zf bl bb s i j
def HBx (σ : zS) (np N : Nat) (zf bl bb : Nat → Nat) : Prop := ∀ p, p < np → (30 ≤ zf p ∧ zf p ≤ 49) ∧ gI σ (116 + 3 * p) 1 = nI (zf p) ∧ gI σ 233 p = nI (zf p) ∧ bb p < 32 ∧ gI σ (116 + 3 * p) 6 = nI (bb p) ∧ gI σ 239 p = nI (bb p) ∧ ((bb p = 0 ∧ gI σ 238 p = -1) ∨ (1 ≤ bb p ∧ bl p < N ∧ inz (zf p) (bb p) ∧ gI σ (116 + 3 * p) 5 = nI (bl p) ∧ gI σ 238 p = nI (bl p)))
/-- the class's cells, and the reference's tape is empty -/
def XO (r j : Nat) : Prop := r < 176 ∨ (r = 176 ∧ j = 1)
section
variable {σ σ' : zS} {zf bl bb : Nat → Nat} {B P S N M K np c n i : Nat} {t : Nat → Nat}
theorem RR_hb (h : RR B σ c P S N M K np t n) : ∃ zf bl bb, HBx σ np N zf bl bb := by
  refine ⟨fun p => ix (gI σ 233 p), fun p => ix (gI σ 238 p), fun p => ix (gI σ 239 p), fun p hp => ?_⟩
  have n8 := (RR_hn h).1.2.1
  obtain ⟨so, z, -, z1, z2, ⟨-, -, y1, y2⟩, -, p6, -⟩ := h.2.2.2.2.2.2.2.2.1 p hp
  have e : ix (gI σ 233 p) = z := by rw [y2, ixn (by omega)]
  rcases p6 with ⟨x1, x2, x3, x4⟩ | ⟨l, b, hl, b1, b2, b3, bi, x1, x2, x3, x4⟩
  · have e9 : ix (gI σ 239 p) = 0 := by rw [x4]; rfl
    show (30 ≤ ix (gI σ 233 p) ∧ ix (gI σ 233 p) ≤ 49) ∧ gI σ (116 + 3 * p) 1 = nI (ix (gI σ 233 p)) ∧ gI σ 233 p = nI (ix (gI σ 233 p)) ∧ ix (gI σ 239 p) < 32 ∧ gI σ (116 + 3 * p) 6 = nI (ix (gI σ 239 p)) ∧ gI σ 239 p = nI (ix (gI σ 239 p)) ∧ ((ix (gI σ 239 p) = 0 ∧ gI σ 238 p = -1) ∨ (1 ≤ ix (gI σ 239 p) ∧ ix (gI σ 238 p) < N ∧ inz (ix (gI σ 233 p)) (ix (gI σ 239 p)) ∧ gI σ (116 + 3 * p) 5 = nI (ix (gI σ 238 p)) ∧ gI σ 238 p = nI (ix (gI σ 238 p))))
    rw [e, e9]
    exact ⟨⟨z1, z2⟩, y1, y2, by omega, x3, x4, .inl ⟨rfl, x2⟩⟩
  · have e8 : ix (gI σ 238 p) = l := by rw [x2, ixn (by omega)]
    have e9 : ix (gI σ 239 p) = b := by rw [x4, ixn (by omega)]
    show (30 ≤ ix (gI σ 233 p) ∧ ix (gI σ 233 p) ≤ 49) ∧ gI σ (116 + 3 * p) 1 = nI (ix (gI σ 233 p)) ∧ gI σ 233 p = nI (ix (gI σ 233 p)) ∧ ix (gI σ 239 p) < 32 ∧ gI σ (116 + 3 * p) 6 = nI (ix (gI σ 239 p)) ∧ gI σ 239 p = nI (ix (gI σ 239 p)) ∧ ((ix (gI σ 239 p) = 0 ∧ gI σ 238 p = -1) ∨ (1 ≤ ix (gI σ 239 p) ∧ ix (gI σ 238 p) < N ∧ inz (ix (gI σ 233 p)) (ix (gI σ 239 p)) ∧ gI σ (116 + 3 * p) 5 = nI (ix (gI σ 238 p)) ∧ gI σ 238 p = nI (ix (gI σ 238 p))))
    rw [e, e8, e9]
    exact ⟨⟨z1, z2⟩, y1, y2, b2, x3, x4, .inr ⟨b1, hl, bi, x1, x2⟩⟩
theorem hmf_0 (q : bb i = 0) (s : Nat → Int32) (j : Nat) : hmf zf bl bb s (i + 1) j = hmf zf bl bb s i j := by
  show (if _ then _ else _) = _
  rw [if_pos q]
theorem hmf_in (q : ¬ bb i = 0) (s : Nat → Int32) {x : Nat} (hx : x < 20) : hmf zf bl bb s (i + 1) (20 * bl i + x) = chs (zf i) (bb i) 1 (fun x => hmf zf bl bb s i (20 * bl i + x)) 5 x := by
  show (if _ then _ else if _ then _ else _) = _
  rw [if_neg q, if_pos ⟨by omega, by omega⟩, Nat.add_sub_cancel_left]
theorem hmf_out (q : ¬ bb i = 0) (s : Nat → Int32) {j : Nat} (hj : ¬ (20 * bl i ≤ j ∧ j < 20 * bl i + 20)) : hmf zf bl bb s (i + 1) j = hmf zf bl bb s i j := by
  show (if _ then _ else if _ then _ else _) = _
  rw [if_neg q, if_neg hj]
theorem c_home (hS : Sh σ) (hP : HP P) (h65 : gR σ 6 5 = some P) (h10 : gI σ 6 10 = nI np) (p20 : np ≤ 20) (n8 : N ≤ 8) (hb : HBx σ np N zf bl bb) : ∃ σ', zM 186 [.ref 6] σ = some (none, σ') ∧ Sh σ' ∧ Un (fun r _ => r = P + 6) σ σ' ∧ ∀ j, j < 160 → gI σ' (P + 6) j = hmf zf bl bb (gI σ (P + 6)) np j := by
  have hbb := HPb hP
  obtain ⟨s1, e1, k1, k2, k3⟩ := lp_run (F := fun i (g : zS) => zR 3 186 2 [some (.ref 6), some (.int (nI i))] [] g) (fun i g => Sh g ∧ Un (fun r _ => r = P + 6) σ g ∧ ∀ j, j < 160 → gI g (P + 6) j = hmf zf bl bb (gI σ (P + 6)) i j) np (by
    rintro i g hi ⟨k1, k2, k3⟩
    have i20 : i < 20 := by omega
    obtain ⟨hz, y1, -, b32, y6, -, hor⟩ := hb i hi
    have g65 : gR g 6 5 = some P := by rw [k2.r (by omega) (by omega) (by omega) (by omega)]; exact h65
    have g10 : gI g 6 10 = nI np := by rw [k2.i (by omega) (by omega) (by omega) (by omega)]; exact h10
    have g6 : gI g (116 + 3 * i) 6 = nI (bb i) := by rw [k2.i (by omega) (by omega) (by omega) (by omega)]; exact y6
    have g1 : gI g (116 + 3 * i) 1 = nI (zf i) := by rw [k2.i (by omega) (by omega) (by omega) (by omega)]; exact y1
    have ap := ai_nI (σ := g) (t := 69) (u := 69) (.inl (tg_104 k1)) (ln_104 k1) i20 (by omega)
    have xi : ix (nI i) = i := ixn (by omega)
    have go : ∀ v, gI g (116 + 3 * i) 6 = v → v = nI 0 → zR 3 186 2 [some (.ref 6), some (.int (nI i))] [] g = zR 3 186 2 [some (.ref 6), some (.int (nI (i + 1)))] [] g := fun v hv h0 => by
      rw [q_X11_bringBoxesHome_2, tg_6 k1, if_pos rfl, g10, if_neg (nI_ge hi (by omega)), if_pos rfl, gR_6_9 k1, zeR_e, if_pos ap, xi, gR_people k1 i20, zeR_e, tg_person k1 i20, if_pos rfl, q_X4_hasBox, tg_person k1 i20, if_pos rfl, hv, if_pos (show v = 0 by rw [h0]; rfl), zbI_e, if_pos rfl, q_X11_bringBoxesHome_32, nI_1]
    rcases hor with ⟨q0, -⟩ | ⟨q1, hl, hi2, y5, -⟩
    · refine ⟨g, go _ g6 (by rw [q0]), k1, k2, fun j hj => ?_⟩
      rw [hmf_0 q0]
      exact k3 j hj
    · have qn : ¬ bb i = 0 := by omega
      have g5 : gI g (116 + 3 * i) 5 = nI (bl i) := by rw [k2.i (by omega) (by omega) (by omega) (by omega)]; exact y5
      obtain ⟨g', a1, a2, a3, a4⟩ := c_change (k := bl i) (z := zf i) (b := bb i) (s := fun x => hmf zf bl bb (gI σ (P + 6)) i (20 * bl i + x)) k1 hP (by omega) hz b32 hi2 1 (fun j hj => k3 _ (by omega))
      refine ⟨g', ?_, a2, k2.trans (a3.mono (fun r j _ _ q => q.1)), fun j hj => ?_⟩
      · rw [q_X11_bringBoxesHome_2, tg_6 k1, if_pos rfl, g10, if_neg (nI_ge hi (by omega)), if_pos rfl, gR_6_9 k1, zeR_e, if_pos ap, xi, gR_people k1 i20, zeR_e, tg_person k1 i20, if_pos rfl, q_X4_hasBox, tg_person k1 i20, if_pos rfl, g6, if_neg (nI_ne0 (by omega) (by omega)), zbI_e, if_neg (by decide), tg_6 k1, if_pos rfl, g65, zeR_e, tg_P k1 hP, if_pos rfl, gR_P_4 k1 hP, zeR_e, if_pos rfl, gR_6_9 k1, zeR_e, if_pos ap, gR_people k1 i20, zeR_e, tg_person k1 i20, if_pos rfl, if_pos rfl, zeR_e, if_pos ap, gR_people k1 i20, zeR_e, tg_person k1 i20, if_pos rfl, if_pos rfl, zeR_e, if_pos ap, gR_people k1 i20, zeR_e, tg_person k1 i20, if_pos rfl, tg_P5 k1 hP, if_pos rfl, g5, g1, g6, a1, zbV_e, q_X11_bringBoxesHome_32, nI_1]
      · by_cases qj : 20 * bl i ≤ j ∧ j < 20 * bl i + 20
        · have ej : 20 * bl i + (j - 20 * bl i) = j := by omega
          have w1 := a4 (j - 20 * bl i) (by omega)
          have w2 := hmf_in (zf := zf) (bl := bl) qn (gI σ (P + 6)) (show j - 20 * bl i < 20 by omega)
          rw [ej] at w1 w2
          rw [w1, w2]
        · rw [hmf_out qn _ qj, a3.iA (by omega) (by omega) (by rw [tg_P6 k1 hP]; omega) (fun y => qj y.2)]
          exact k3 j hj) σ ⟨hS, Un.refl _ _, fun j _ => rfl⟩
  refine ⟨s1, ?_, k1, k2, k3⟩
  have g10 : gI s1 6 10 = nI np := by rw [k2.i (by omega) (by omega) (by omega) (by omega)]; exact h10
  rw [q_X11_bringBoxesHome]
  refine Eq.trans e1 ?_
  rw [q_X11_bringBoxesHome_2, tg_6 k1, if_pos rfl, g10, if_pos (nI_le (Nat.le_refl _) (by omega))]
/-- the reference's five sizes of one box -/
theorem r_hm5 (hS : Sh σ) {k z b : Nat} {s : Nat → Int32} (hi : i < 20) (hk : k < 8) (hz : 30 ≤ z ∧ z ≤ 49) (hb : b < 32) (hi2 : inz z b) (h3 : gI σ 233 i = nI z) (h8 : gI σ 238 i = nI k) (h9 : gI σ 239 i = nI b) (hs : ∀ j, j < 20 → gI σ 224 (160 + (20 * k + j)) = s j) (v : Int32) : ∃ σ', zR 4 319 20 [some (.ref 176), some (.int v), some (.int (nI i)), some (.int 0)] [] σ = zR 4 319 14 [some (.ref 176), some (.int v), some (.int (nI (i + 1))), some (.int 5)] [] σ' ∧ Sh σ' ∧ Un (fun r j => r = 224 ∧ 160 + 20 * k ≤ j ∧ j < 160 + 20 * k + 20) σ σ' ∧ ∀ j, j < 20 → gI σ' 224 (160 + (20 * k + j)) = chs z b 1 s 5 j := by
  obtain ⟨s1, e1, k1, k2, k3⟩ := lp_run (F := fun e (g : zS) => zR 4 319 20 [some (.ref 176), some (.int v), some (.int (nI i)), some (.int (nI e))] [] g) (fun e g => Sh g ∧ Un (fun r j => r = 224 ∧ 160 + 20 * k ≤ j ∧ j < 160 + 20 * k + 20) σ g ∧ ∀ j, j < 20 → gI g 224 (160 + (20 * k + j)) = chs z b 1 s e j) 5 (by
    rintro e g he ⟨k1, k2, k3⟩
    have st : ∀ j, chs z b 1 s (e + 1) j = if b / 2 ^ e % 2 = 1 ∧ j = z + e - 32 then chs z b 1 s e j + 1 else chs z b 1 s e j := fun _ => rfl
    have g3 : gI g 233 i = nI z := by rw [k2.i (by omega) (by omega) (by omega) (by omega)]; exact h3
    have g8 : gI g 238 i = nI k := by rw [k2.i (by omega) (by omega) (by omega) (by omega)]; exact h8
    have g9 : gI g 239 i = nI b := by rw [k2.i (by omega) (by omega) (by omega) (by omega)]; exact h9
    have a33 := ai_nI (σ := g) (t := 32) (u := 48) (.inl (tg_233 k1)) (ln_233 k1) hi (by omega)
    have a38 := ai_nI (σ := g) (t := 32) (u := 48) (.inl (tg_238 k1)) (ln_238 k1) hi (by omega)
    have a39 := ai_nI (σ := g) (t := 32) (u := 48) (.inl (tg_239 k1)) (ln_239 k1) hi (by omega)
    have xi : ix (nI i) = i := ixn (by omega)
    have go : zR 4 319 20 [some (.ref 176), some (.int v), some (.int (nI i)), some (.int (nI e))] [] g = if nI (b / 2 ^ e % 2) = 1 then zR 4 319 39 [some (.ref 176), some (.int v), some (.int (nI i)), some (.int (nI e))] [] g else zR 4 319 20 [some (.ref 176), some (.int v), some (.int (nI i)), some (.int (nI (e + 1)))] [] g := by
      rw [q_X12_on_20, if_neg (show ¬ (5 : Int32) ≤ nI e from nI_ge (b := 5) he (by omega)), tg_176 k1, if_pos rfl, gR_176_77 k1, zeR_e, if_pos a38, xi, g8, if_neg (nI_nm1 (by omega)), if_pos rfl, gR_176_78 k1, zeR_e, if_pos a39, g9, bit_sh b hb e (by omega), nI_1]
    rcases (show b / 2 ^ e % 2 = 0 ∨ b / 2 ^ e % 2 = 1 by omega) with q | q
    · refine ⟨g, ?_, k1, k2, fun j hj => ?_⟩
      · show zR 4 319 20 [some (.ref 176), some (.int v), some (.int (nI i)), some (.int (nI e))] [] g = _
        rw [go, q, if_neg (show ¬ nI 0 = 1 by decide)]
      · rw [st, if_neg (fun x => by omega)]; exact k3 j hj
    · have rg := hi2 e he q
      have r1 := ai_nI (σ := g) (t := 32) (u := 48) (.inl (tg_224 k1)) (ln_224 k1) (show 160 + (20 * k + (z + e - 32)) < 320 by omega) (by omega)
      have r2 := ai_nI (σ := g) (t := 32) (u := 32) (.inl (tg_224 k1)) (ln_224 k1) (show 160 + (20 * k + (z + e - 32)) < 320 by omega) (by omega)
      refine ⟨sI g 224 (160 + (20 * k + (z + e - 32))) (gI g 224 (160 + (20 * k + (z + e - 32))) + 1), ?_, k1.sI (by omega), k2.trans (Un_sI (by omega)), fun j hj => ?_⟩
      · show zR 4 319 20 [some (.ref 176), some (.int v), some (.int (nI i)), some (.int (nI e))] [] g = _
        rw [go, q, if_pos (show nI 1 = 1 by decide), q_X12_on_39, tg_176 k1, if_pos rfl, gR_176_57 k1, zeR_e, if_pos rfl, gR_176_77 k1, zeR_e, if_pos a38, if_pos rfl, gR_176_72 k1, zeR_e, if_pos a33, if_pos rfl, xi, g8, g3, q_X12_stockAt, zbI_e, plr_n hk hz he rg, if_pos r1, if_pos r2, zlt_e, ixn (by omega), nI_1]
      · rw [st, gI_sI]
        by_cases q2 : j = z + e - 32
        · rw [if_pos ⟨rfl, by rw [q2]⟩, if_pos ⟨q, q2⟩, ← q2, k3 j hj]
        · rw [if_neg (fun x => q2 (by omega)), if_neg (fun x => q2 x.2)]; exact k3 j hj) σ ⟨hS, Un.refl _ _, hs⟩
  refine ⟨s1, ?_, k1, k2, k3⟩
  refine Eq.trans e1 ?_
  rw [q_X12_on_20, if_pos (show (5 : Int32) ≤ nI 5 by decide), nI_1]
  rfl
theorem r_home (hS : Sh σ) (h70 : gI σ 176 70 = nI np) (p20 : np ≤ 20) (n8 : N ≤ 8) (hb : HBx σ np N zf bl bb) {τ : zS} (hSt : Sh τ) (u : Un XO σ τ) (v : Int32) (u3 : Option Value) : ∃ σ' w3, zR 4 319 14 [some (.ref 176), some (.int v), some (.int 0), u3] [] τ = zR 4 319 14 [some (.ref 176), some (.int v), some (.int (nI np)), w3] [] σ' ∧ Sh σ' ∧ Un (fun r j => r = 224 ∧ 160 ≤ j) τ σ' ∧ ∀ j, j < 160 → gI σ' 224 (160 + j) = hmf zf bl bb (fun j => gI σ 224 (160 + j)) np j := by
  obtain ⟨s1, e1, k1, k2, k3⟩ := lp_run (F := fun i (g : zS × Option Value) => zR 4 319 14 [some (.ref 176), some (.int v), some (.int (nI i)), g.2] [] g.1) (fun i g => Sh g.1 ∧ Un (fun r j => r = 224 ∧ 160 ≤ j) τ g.1 ∧ ∀ j, j < 160 → gI g.1 224 (160 + j) = hmf zf bl bb (fun j => gI σ 224 (160 + j)) i j) np (by
    rintro i ⟨g, w3⟩ hi ⟨k1, k2, k3⟩
    have k1 : Sh g := k1
    have k2 : Un (fun r j => r = 224 ∧ 160 ≤ j) τ g := k2
    have k3 : ∀ j, j < 160 → gI g 224 (160 + j) = hmf zf bl bb (fun j => gI σ 224 (160 + j)) i j := k3
    have i20 : i < 20 := by omega
    obtain ⟨hz, -, y3, b32, -, y9, hor⟩ := hb i hi
    have gx : ∀ r j, 176 ≤ r → r < 253 → j < 100 → ¬ r = 224 → ¬ (r = 176 ∧ j = 1) → gI g r j = gI σ r j := fun r j a1 a2 a3 a4 a5 => by
      rw [k2.i (by omega) a2 a3 (by omega), u.i (by omega) a2 a3 (by unfold XO; omega)]
    have g70 : gI g 176 70 = nI np := by rw [gx _ _ (by omega) (by omega) (by omega) (by omega) (by omega)]; exact h70
    have g3 : gI g 233 i = nI (zf i) := by rw [gx _ _ (by omega) (by omega) (by omega) (by omega) (by omega)]; exact y3
    have g9 : gI g 239 i = nI (bb i) := by rw [gx _ _ (by omega) (by omega) (by omega) (by omega) (by omega)]; exact y9
    have g8 : gI g 238 i = gI σ 238 i := gx _ _ (by omega) (by omega) (by omega) (by omega) (by omega)
    have a38 := ai_nI (σ := g) (t := 32) (u := 48) (.inl (tg_238 k1)) (ln_238 k1) i20 (by omega)
    have xi : ix (nI i) = i := ixn (by omega)
    have go : zR 4 319 14 [some (.ref 176), some (.int v), some (.int (nI i)), w3] [] g = zR 4 319 20 [some (.ref 176), some (.int v), some (.int (nI i)), some (.int 0)] [] g := by
      rw [q_X12_on_14, tg_176 k1, if_pos rfl, g70, if_neg (nI_ge hi (by omega))]
    rcases hor with ⟨q0, y8⟩ | ⟨q1, hl, hi2, -, y8⟩
    · refine ⟨(g, some (.int 0)), ?_, k1, k2, fun j hj => ?_⟩
      · show zR 4 319 14 [some (.ref 176), some (.int v), some (.int (nI i)), w3] [] g = zR 4 319 14 [some (.ref 176), some (.int v), some (.int (nI (i + 1))), some (.int 0)] [] g
        rw [go, q_X12_on_20, if_neg (by decide), tg_176 k1, if_pos rfl, gR_176_77 k1, zeR_e, if_pos a38, xi, g8, if_pos y8, nI_1]
      · rw [hmf_0 q0]
        exact k3 j hj
    · have qn : ¬ bb i = 0 := by omega
      obtain ⟨g', a1, a2, a3, a4⟩ := r_hm5 (k := bl i) (z := zf i) (b := bb i) (s := fun x => hmf zf bl bb (fun j => gI σ 224 (160 + j)) i (20 * bl i + x)) k1 i20 (by omega) hz b32 hi2 g3 (by rw [g8]; exact y8) g9 (fun j hj => k3 _ (by omega)) v
      refine ⟨(g', some (.int 5)), ?_, a2, k2.trans (a3.mono (fun r j _ _ q => ⟨q.1, by omega⟩)), fun j hj => ?_⟩
      · show zR 4 319 14 [some (.ref 176), some (.int v), some (.int (nI i)), w3] [] g = zR 4 319 14 [some (.ref 176), some (.int v), some (.int (nI (i + 1))), some (.int 5)] [] g'
        rw [go]
        exact a1
      · show gI g' 224 (160 + j) = _
        by_cases qj : 20 * bl i ≤ j ∧ j < 20 * bl i + 20
        · have ej : 20 * bl i + (j - 20 * bl i) = j := by omega
          have w1 := a4 (j - 20 * bl i) (by omega)
          have w2 := hmf_in (zf := zf) (bl := bl) qn (fun j => gI σ 224 (160 + j)) (show j - 20 * bl i < 20 by omega)
          rw [ej] at w1 w2
          rw [w1, w2]
        · rw [hmf_out qn _ qj, a3.iA (by omega) (by omega) (by rw [tg_224 k1]; omega) (fun y => qj (by omega))]
          exact k3 j hj) (τ, u3) ⟨hSt, Un.refl _ _, fun j hj => by
      show gI τ 224 (160 + j) = gI σ 224 (160 + j)
      rw [u.iA (by omega) (by omega) (by rw [tg_224 hS]; omega) (by unfold XO; omega)]⟩
  exact ⟨s1.1, s1.2, e1, k1, k2, k3⟩
theorem chs_congr {z b : Nat} {y : Int32} {s s' : Nat → Int32} (h : ∀ j, j < 20 → s j = s' j) : ∀ e j, j < 20 → chs z b y s e j = chs z b y s' e j
  | 0, j, hj => h j hj
  | e + 1, j, hj => by
    show (if _ then chs z b y s e j + y else chs z b y s e j) = if _ then chs z b y s' e j + y else chs z b y s' e j
    rw [chs_congr h e j hj]
theorem hmf_congr {s s' : Nat → Int32} (hb : ∀ p, p < np → bb p = 0 ∨ bl p < N) (h : ∀ j, j < 20 * N → s j = s' j) : ∀ i, i ≤ np → ∀ j, j < 20 * N → hmf zf bl bb s i j = hmf zf bl bb s' i j
  | 0, _, j, hj => h j hj
  | i + 1, hi, j, hj => by
    have ih := hmf_congr hb h i (by omega)
    by_cases q : bb i = 0
    · rw [hmf_0 q, hmf_0 q]
      exact ih j hj
    · have hl := (hb i (by omega)).resolve_left q
      by_cases qj : 20 * bl i ≤ j ∧ j < 20 * bl i + 20
      · have ej : 20 * bl i + (j - 20 * bl i) = j := by omega
        have w1 := hmf_in (zf := zf) (bl := bl) q s (show j - 20 * bl i < 20 by omega)
        have w2 := hmf_in (zf := zf) (bl := bl) q s' (show j - 20 * bl i < 20 by omega)
        rw [ej] at w1 w2
        rw [w1, w2]
        exact chs_congr (fun x hx => ih _ (by omega)) 5 _ (by omega)
      · rw [hmf_out q _ qj, hmf_out q _ qj]
        exact ih j hj
end
