/-! year: both answer alike -/
def grw (f : Nat → Nat) (g d : Nat) : Nat := (if d = 4 then f 4 else f d * (100 - g) / 100) + (if d = 0 then 0 else f (d - 1) * g / 100)
section
variable {σ σ' σ1 σ2 : zS} {f t : Nat → Nat} {B P S N M K np c n g w b e o d r p k so z : Nat}
theorem grw_one (x : Nat) (hg : g ≤ 100) : x * (100 - g) / 100 + x * g / 100 ≤ x := by
  have h1 := Nat.div_add_div_le_add_div (x := x * (100 - g)) (y := x * g) (z := 100)
  rw [← Nat.mul_add, Nat.sub_add_cancel hg, Nat.mul_div_cancel _ (by omega)] at h1
  exact h1
theorem grw_sum (hf : f 0 + f 1 + f 2 + f 3 + f 4 = 10000) (hg : g ≤ 100) : smN (grw f g) 5 ≤ 10000 := by
  have h0 := grw_one (f 0) hg
  have h1 := grw_one (f 1) hg
  have h2 := grw_one (f 2) hg
  have h3 := grw_one (f 3) hg
  have e0 : grw f g 0 = f 0 * (100 - g) / 100 + 0 := rfl
  have e1 : grw f g 1 = f 1 * (100 - g) / 100 + f 0 * g / 100 := rfl
  have e2 : grw f g 2 = f 2 * (100 - g) / 100 + f 1 * g / 100 := rfl
  have e3 : grw f g 3 = f 3 * (100 - g) / 100 + f 2 * g / 100 := rfl
  have e4 : grw f g 4 = f 4 + f 3 * g / 100 := rfl
  simp only [smN]
  omega
theorem g_mul {x : Nat} (hx : x ≤ 10000) (hg : g ≤ 100) : nI x * nI g / 100 = nI (x * g / 100) := by
  have : x * g ≤ 10000 * 100 := Nat.mul_le_mul hx hg
  rw [pk_mul, show (100 : Int32) = nI 100 from rfl, pk_div (by omega) (by omega) (by omega)]
theorem g_sub (hg : g ≤ 100) : (100 : Int32) - nI g = nI (100 - g) := by rw [show (100 : Int32) = nI 100 from rfl, pk_sub hg]
theorem g_dn : ∀ i, i < 4 → (3 : Int32) - nI i + (-1) = 3 - nI (i + 1) ∧ (3 : Int32) - nI i = nI (3 - i) := by decide +kernel
theorem c_grow (hS : Sh σ) (hp : p < 20) (hg : g ≤ 100) (hf : f 0 + f 1 + f 2 + f 3 + f 4 = 10000) (fA : ∀ d, d < 5 → gI σ (117 + 3 * p) d = nI (f d)) : ∃ σ', zM 42 [.ref (116 + 3 * p), .int (nI g)] σ = some (none, σ') ∧ Sh σ' ∧ Un (fun r j => r = 117 + 3 * p ∧ j < 5) σ σ' ∧ ∀ d, d < 5 → gI σ' (117 + 3 * p) d = nI (crt (grw f g) 5 d) := by
  have fb : ∀ d, d < 5 → f d ≤ 10000 := fun d hd => by have := sm5 f d hd; omega
  have r4 : ai σ 32 48 (117 + 3 * p) 4 = true := ai_nI (k := 4) (.inl (tg_pfeet hS hp)) (ln_pfeet hS hp) (by omega) (by omega)
  have r3 : ai σ 32 48 (117 + 3 * p) 3 = true := ai_nI (k := 3) (.inl (tg_pfeet hS hp)) (ln_pfeet hS hp) (by omega) (by omega)
  have w4 : ai σ 32 32 (117 + 3 * p) 4 = true := ai_nI (k := 4) (.inl (tg_pfeet hS hp)) (ln_pfeet hS hp) (by omega) (by omega)
  have S1 : Sh (sI σ (117 + 3 * p) 4 (nI (grw f g 4))) := hS.sI (by omega)
  obtain ⟨⟨s1, u⟩, e1, k1, k2, k3⟩ := lp_run (F := fun i (u : zS × Option Value) => zR 2 42 17 [some (.ref (116 + 3 * p)), some (.int (nI g)), some (.int (3 - nI i)), u.2] [] u.1) (fun i u => Sh u.1 ∧ Un (fun r j => r = 117 + 3 * p ∧ j < 5) σ u.1 ∧ ∀ d, d < 5 → gI u.1 (117 + 3 * p) d = nI (if 4 ≤ d + i then grw f g d else f d)) 4 (by
    rintro i ⟨s, u⟩ hi ⟨k1, k2, k3⟩
    have k1 : Sh s := k1
    obtain ⟨q1, q2⟩ := g_dn i hi
    have aj := ai_nI (σ := s) (t := 32) (u := 48) (.inl (tg_pfeet k1 hp)) (ln_pfeet k1 hp) (show 3 - i < 5 by omega) (by omega)
    have aj' := ai_nI (σ := s) (t := 32) (u := 32) (.inl (tg_pfeet k1 hp)) (ln_pfeet k1 hp) (show 3 - i < 5 by omega) (by omega)
    have g1 : gI s (117 + 3 * p) (3 - i) = nI (f (3 - i)) := by
      have := k3 (3 - i) (by omega)
      rw [if_neg (by omega)] at this
      exact this
    have fj := fb (3 - i) (by omega)
    have fin : ∀ v : Int32, v = nI (grw f g (3 - i)) → ∀ x : Option Value, zR 2 42 17 [some (.ref (116 + 3 * p)), some (.int (nI g)), some (.int (3 - nI i)), u] [] s = zR 2 42 17 [some (.ref (116 + 3 * p)), some (.int (nI g)), some (.int (3 - nI (i + 1))), x] [] (sI s (117 + 3 * p) (3 - i) v) → ∃ g' : zS × Option Value, zR 2 42 17 [some (.ref (116 + 3 * p)), some (.int (nI g)), some (.int (3 - nI i)), u] [] s = zR 2 42 17 [some (.ref (116 + 3 * p)), some (.int (nI g)), some (.int (3 - nI (i + 1))), g'.2] [] g'.1 ∧ Sh g'.1 ∧ Un (fun r j => r = 117 + 3 * p ∧ j < 5) σ g'.1 ∧ ∀ d, d < 5 → gI g'.1 (117 + 3 * p) d = nI (if 4 ≤ d + (i + 1) then grw f g d else f d) := fun v hv x e => by
      refine ⟨(sI s (117 + 3 * p) (3 - i) v, x), e, k1.sI (by omega), Un.trans k2 (Un_sI ⟨rfl, by omega⟩), fun d hd => ?_⟩
      show gI (sI s (117 + 3 * p) (3 - i) v) (117 + 3 * p) d = _
      rw [gI_sI]
      by_cases q : d = 3 - i
      · rw [if_pos ⟨rfl, q⟩, if_pos (by omega), hv, q]
      · rw [if_neg (fun y => q y.2)]
        have := k3 d hd
        rw [show gI s (117 + 3 * p) d = nI (if 4 ≤ d + i then grw f g d else f d) from this]
        congr 1
        by_cases q2 : 4 ≤ d + i
        · rw [if_pos q2, if_pos (by omega)]
        · rw [if_neg q2, if_neg (by omega)]
    by_cases q0 : i = 3
    · subst q0
      refine fin (nI (f 0) * (100 - nI g) / 100 + 0 * nI g / 100) ?_ (some (.int 0)) ?_
      · rw [g_sub hg, g_mul (fb 0 (by omega)) (by omega), show (0 : Int32) = nI 0 from rfl, g_mul (by omega) hg, nI_add, Nat.zero_mul]
        rfl
      · have g1 : gI s (117 + 3 * p) 0 = nI (f 0) := g1
        rw [q_X4_grow_17, if_neg (show ¬ (3 : Int32) - nI 3 < 0 by decide), if_pos (show (3 : Int32) - nI 3 = 0 by decide), tg_person k1 hp, if_pos rfl, gR_pfeet k1 hp, zeR_e, if_pos rfl, zeR_e, q2, if_pos aj, if_pos aj', zlt_e, ixn (by omega), show (3 - 3 : Nat) = 0 from rfl, g1, show nI 0 + (-1) = (3 : Int32) - nI (3 + 1) by decide]
    · have a2 := ai_nI (σ := s) (t := 32) (u := 48) (.inl (tg_pfeet k1 hp)) (ln_pfeet k1 hp) (show 3 - i - 1 < 5 by omega) (by omega)
      have g2 : gI s (117 + 3 * p) (3 - i - 1) = nI (f (3 - i - 1)) := by
        have := k3 (3 - i - 1) (by omega)
        rw [if_neg (by omega)] at this
        exact this
      have e1 : nI (3 - i) - 1 = nI (3 - i - 1) := nI_subR (n := 1) (by omega)
      refine fin (nI (f (3 - i)) * (100 - nI g) / 100 + nI (f (3 - i - 1)) * nI g / 100) ?_ (some (.int (nI (f (3 - i - 1))))) ?_
      · rw [g_sub hg, g_mul fj (by omega), g_mul (fb _ (by omega)) hg, nI_add]
        congr 1
        unfold grw
        rw [if_neg (by omega), if_neg (by omega)]
      · rw [q_X4_grow_17, q2, if_neg (nI_pos (by omega)), if_neg (nI_ne0 (by omega) (by omega)), tg_person k1 hp, if_pos rfl, gR_pfeet k1 hp, zeR_e, e1, if_pos a2, if_pos rfl, zeR_e, if_pos rfl, zeR_e, if_pos aj, if_pos aj', zlt_e, ixn (show 3 - i < 2 ^ 31 by omega), ixn (show 3 - i - 1 < 2 ^ 31 by omega), g1, g2, ← q2, q1]) (sI σ (117 + 3 * p) 4 (nI (grw f g 4)), none) ⟨S1, Un_sI ⟨rfl, by omega⟩, fun d hd => by
      show gI (sI σ (117 + 3 * p) 4 (nI (grw f g 4))) (117 + 3 * p) d = _
      rw [gI_sI]
      by_cases q : d = 4
      · rw [if_pos ⟨rfl, q⟩, if_pos (by omega), q]
      · rw [if_neg (fun y => q y.2), if_neg (by omega)]; exact fA d hd⟩
  have k1 : Sh s1 := k1
  have k2 : Un (fun r j => r = 117 + 3 * p ∧ j < 5) σ s1 := k2
  have k3' : ∀ d, d < 5 → gI s1 (117 + 3 * p) d = nI (grw f g d) := fun d hd => by
    have := k3 d hd
    rw [if_pos (by omega)] at this
    exact this
  have cc := c_cert (q := grw f g) (tg_pfeet k1 hp) (ln_pfeet k1 hp) (by omega) k3' (grw_sum hf hg)
  have am := amx_lt (q := grw f g) (n := 5) (by omega)
  refine ⟨sI s1 (117 + 3 * p) (amx (grw f g) 5) (nI (crt (grw f g) 5 (amx (grw f g) 5))), ?_, k1.sI (by omega), k2.trans (Un_sI ⟨rfl, am⟩), fun d hd => ?_⟩
  · have v4 : nI (f 4) + nI (f 3) * nI g / 100 = nI (grw f g 4) := by
      rw [g_mul (fb 3 (by omega)) hg, nI_add]
      rfl
    rw [q_X4_grow, tg_person hS hp, if_pos rfl, gR_pfeet hS hp, zeR_e, if_pos r4, if_pos rfl, zeR_e, if_pos r3, if_pos w4, zlt_e, show ix (4 : Int32) = 4 from rfl, show ix (3 : Int32) = 3 from rfl, fA 4 (by omega), fA 3 (by omega), v4]
    refine Eq.trans e1 ?_
    show zR 2 42 17 [some (.ref (116 + 3 * p)), some (.int (nI g)), some (.int (3 - nI 4)), u] [] s1 = _
    rw [q_X4_grow_17, if_pos (show (3 : Int32) - nI 4 < 0 by decide), tg_person k1 hp, if_pos rfl, gR_pfeet k1 hp, zeR_e, cc, zbV_e]
  · rw [gI_sI]
    by_cases q : d = amx (grw f g) 5
    · rw [if_pos ⟨rfl, q⟩, ← q]
    · rw [if_neg (fun y => q y.2), k3' d hd]
      unfold crt
      rw [if_neg q]
theorem r_grow (hS : Sh σ) (hp : p < 20) (hg : g ≤ 100) (hf : f 0 + f 1 + f 2 + f 3 + f 4 = 10000) (fA : ∀ d, d < 5 → gI σ 234 (5 * p + d) = nI (f d)) (u4 u5 : Option Value) : ∃ σ' x4 x5, zR 2 305 18 [some (.ref 176), some (.int (nI p)), some (.int (nI g)), some (.int 0), u4, u5] [] σ = zR 2 305 2 [some (.ref 176), some (.int (nI (p + 1))), some (.int (nI g)), some (.int 5), x4, x5] [] σ' ∧ Sh σ' ∧ Un (fun r j => r = 246 ∨ (r = 234 ∧ 5 * p ≤ j ∧ j < 5 * p + 5)) σ σ' ∧ ∀ d, d < 5 → gI σ' 234 (5 * p + d) = nI (crt (grw f g) 5 d) := by
  have fb : ∀ d, d < 5 → f d ≤ 10000 := fun d hd => by have := sm5 f d hd; omega
  obtain ⟨⟨s1, x4, x5⟩, e1, k1, k2, k3⟩ := lp_run (F := fun i (u : zS × Option Value × Option Value) => zR 2 305 18 [some (.ref 176), some (.int (nI p)), some (.int (nI g)), some (.int (nI i)), u.2.1, u.2.2] [] u.1) (fun i u => Sh u.1 ∧ Un (fun r _ => r = 246) σ u.1 ∧ ∀ d, d < i → gI u.1 246 d = nI (grw f g d)) 5 (by
    rintro i ⟨s, u4, u5⟩ hi ⟨k1, k2, k3⟩
    have k1 : Sh s := k1
    have k2 : Un (fun r _ => r = 246) σ s := k2
    have ai1 := ai_nI (σ := s) (t := 32) (u := 48) (.inl (tg_234 k1)) (ln_234 k1) (show 5 * p + i < 100 by omega) (by omega)
    have aw := ai_nI (σ := s) (t := 32) (u := 32) (.inl (tg_246 k1)) (ln_246 k1) hi (by omega)
    have g1 : gI s 234 (5 * p + i) = nI (f i) := by rw [k2.i (by omega) (by omega) (by omega) (by omega)]; exact fA i hi
    have fi := fb i hi
    have ei : (5 : Int32) * nI p + nI i = nI (5 * p + i) := by rw [nI_mulL 5 p, nI_add]
    have fin : ∀ v : Int32, v = nI (grw f g i) → ∀ x y : Option Value, zR 2 305 18 [some (.ref 176), some (.int (nI p)), some (.int (nI g)), some (.int (nI i)), u4, u5] [] s = zR 2 305 18 [some (.ref 176), some (.int (nI p)), some (.int (nI g)), some (.int (nI (i + 1))), x, y] [] (sI s 246 i v) → ∃ g' : zS × Option Value × Option Value, zR 2 305 18 [some (.ref 176), some (.int (nI p)), some (.int (nI g)), some (.int (nI i)), u4, u5] [] s = zR 2 305 18 [some (.ref 176), some (.int (nI p)), some (.int (nI g)), some (.int (nI (i + 1))), g'.2.1, g'.2.2] [] g'.1 ∧ Sh g'.1 ∧ Un (fun r _ => r = 246) σ g'.1 ∧ ∀ d, d < i + 1 → gI g'.1 246 d = nI (grw f g d) := fun v hv x y e => by
      refine ⟨(sI s 246 i v, x, y), e, k1.sI (by omega), k2.trans (Un_sI rfl), fun d hd => ?_⟩
      show gI (sI s 246 i v) 246 d = _
      rw [gI_sI]
      by_cases q : d = i
      · rw [if_pos ⟨rfl, q⟩, hv, q]
      · rw [if_neg (fun y => q y.2)]; exact k3 d (by omega)
    by_cases q0 : i = 0
    · subst q0
      refine fin (nI (f 0) * (100 - nI g) / 100 + 0) ?_ (some (.int (nI (f 0)))) (some (.int 0)) ?_
      · rw [g_sub hg, g_mul fi (by omega), Int32.add_zero]
        rfl
      · rw [q_X12_year_18, if_neg (by decide), tg_176 k1, if_pos rfl, gR_176_73 k1, zeR_e, ei, if_pos ai1, if_pos (show nI 0 = 0 from rfl), if_pos rfl, gR_176_89 k1, zeR_e, if_neg (show ¬ nI 0 = 4 by decide), if_pos aw, zlt_e, ixn (by omega), ixn (by omega), g1, nI_1]
    · have a2 := ai_nI (σ := s) (t := 32) (u := 48) (.inl (tg_234 k1)) (ln_234 k1) (show 5 * p + i - 1 < 100 by omega) (by omega)
      have g2 : gI s 234 (5 * p + i - 1) = nI (f (i - 1)) := by
        rw [show 5 * p + i - 1 = 5 * p + (i - 1) by omega, k2.i (by omega) (by omega) (by omega) (by omega)]; exact fA (i - 1) (by omega)
      have e1 : nI (5 * p + i) - 1 = nI (5 * p + i - 1) := nI_subR (n := 1) (by omega)
      by_cases q4 : i = 4
      · refine fin (nI (f i) + nI (f (i - 1) * g / 100)) ?_ (some (.int (nI (f i)))) (some (.int (nI (f (i - 1) * g / 100)))) ?_
        · rw [nI_add]
          unfold grw
          rw [if_pos q4, if_neg q0, q4]
        · rw [q_X12_year_18, if_neg (show ¬ (5 : Int32) ≤ nI i from nI_ge (b := 5) hi (by omega)), tg_176 k1, if_pos rfl, gR_176_73 k1, zeR_e, ei, if_pos ai1, if_neg (nI_ne0 (by omega) (by omega)), if_pos rfl, zeR_e, e1, if_pos a2, ixn (show 5 * p + i - 1 < 2 ^ 31 by omega), g2, g_mul (fb _ (by omega)) hg, zli_e, if_pos rfl, gR_176_89 k1, zeR_e, if_pos (show nI i = 4 by rw [q4]; rfl), if_pos aw, zlt_e, ixn (show 5 * p + i < 2 ^ 31 by omega), ixn (show i < 2 ^ 31 by omega), g1, nI_1]
      · refine fin (nI (f i) * (100 - nI g) / 100 + nI (f (i - 1) * g / 100)) ?_ (some (.int (nI (f i)))) (some (.int (nI (f (i - 1) * g / 100)))) ?_
        · rw [g_sub hg, g_mul fi (by omega), nI_add]
          unfold grw
          rw [if_neg q4, if_neg q0]
        · rw [q_X12_year_18, if_neg (show ¬ (5 : Int32) ≤ nI i from nI_ge (b := 5) hi (by omega)), tg_176 k1, if_pos rfl, gR_176_73 k1, zeR_e, ei, if_pos ai1, if_neg (nI_ne0 (by omega) (by omega)), if_pos rfl, zeR_e, e1, if_pos a2, ixn (show 5 * p + i - 1 < 2 ^ 31 by omega), g2, g_mul (fb _ (by omega)) hg, zli_e, if_pos rfl, gR_176_89 k1, zeR_e, if_neg (show ¬ nI i = 4 from fun y => q4 ((nI_eq (b := 4) (by omega) (by omega)).mp y)), if_pos aw, zlt_e, ixn (show 5 * p + i < 2 ^ 31 by omega), ixn (show i < 2 ^ 31 by omega), g1, nI_1]) (σ, u4, u5) ⟨hS, Un.refl _ _, fun d hd => by omega⟩
  have k1 : Sh s1 := k1
  have k2 : Un (fun r _ => r = 246) σ s1 := k2
  obtain ⟨s2, d0, d1, d2, d3, d4⟩ := r_tak2 (T := 234) (off := 5 * p) (L := 100) (n := 5) (q := grw f g) k1 (by omega) (tg_234 k1) (ln_234 k1) (by omega) (by omega) k3 (grw_sum hf hg)
  refine ⟨s2, x4, x5, ?_, d1, (k2.mono (fun r j _ _ q => .inl q)).trans d2, d4⟩
  refine Eq.trans e1 ?_
  show zR 2 305 18 [some (.ref 176), some (.int (nI p)), some (.int (nI g)), some (.int (nI 5)), x4, x5] [] s1 = _
  rw [q_X12_year_18, if_pos (show (5 : Int32) ≤ nI 5 by decide), tg_176 k1, if_pos rfl, gR_176_73 k1, zeR_e, if_pos rfl, nI_mulL 5 p]
  refine Eq.trans (congrArg (fun x => zbV x _) d0) ?_
  rw [zbV_e, nI_1]
  rfl
theorem op_year (h : RR B σ c P S N M K np t n) : Al B σ c 175 [.ref 6] 305 [.ref 176] := by
  have hS := h.1
  have hP := h.2.1.1
  have hbb := HPb hP
  have p20 := (RR_pn h).1
  have p10 := (RR_pn h).2.1
  have p70 := (RR_pn h).2.2
  have m4 := (RR_hn h).2.1.2.1
  have h65 := h.2.1.2.2.2.1
  have yd : ∃ (ff : Nat → Nat → Nat) (gw sf : Nat → Nat), ∀ p, p < np → gw p ≤ 100 ∧ sf p < 4 ∧ ff p 0 + ff p 1 + ff p 2 + ff p 3 + ff p 4 = 10000 ∧ gI σ (116 + 3 * p) 0 = nI (sf p) ∧ gI σ 232 p = nI (sf p) ∧ gI σ (P + 24 + 2 * sf p) 3 = nI (gw p) ∧ gI σ 219 (4 + sf p) = nI (gw p) ∧ ∀ d, d < 5 → gI σ (117 + 3 * p) d = nI (ff p d) ∧ gI σ 234 (5 * p + d) = nI (ff p d) := by
    refine ⟨fun p d => ix (gI σ 234 (5 * p + d)), fun p => ix (gI σ 219 (4 + ix (gI σ 232 p))), fun p => ix (gI σ 232 p), fun p hp => ?_⟩
    obtain ⟨so, z, s1, -, -, ⟨a1, a2, -, -⟩, ⟨f, f1, f2⟩, -⟩ := h.2.2.2.2.2.2.2.2.1 p hp
    obtain ⟨-, -, ⟨g, g1, g2, g3⟩, -⟩ := h.2.2.2.2.2.1.2.2.2.2.2.1 so s1
    have es : ix (gI σ 232 p) = so := by rw [a2, ixn (by omega)]
    have eg : ix (gI σ 219 (4 + so)) = g := by rw [g3, ixn (by omega)]
    have ef : ∀ d, d < 5 → ix (gI σ 234 (5 * p + d)) = f d := fun d hd => by
      have := sm5 f d hd
      rw [(f2 d hd).2, ixn (by omega)]
    simp only [es, eg]
    refine ⟨g1, by omega, ?_, a1, a2, g2, g3, fun d hd => by rw [ef d hd]; exact f2 d hd⟩
    rw [ef 0 (by omega), ef 1 (by omega), ef 2 (by omega), ef 3 (by omega), ef 4 (by omega)]
    exact f1
  obtain ⟨ff, gw, sf, yd⟩ := yd
  obtain ⟨σ1, e1, k1, k2, k3, k4⟩ := lp_run (F := fun i (s : zS) => zR 3 175 2 [some (.ref 6), some (.int (nI i))] [] s) (fun i s => Sh s ∧ Un (fun r j => 116 ≤ r ∧ r < 176 ∧ r % 3 = 0) σ s ∧ (∀ p, p < i → ∀ d, d < 5 → gI s (117 + 3 * p) d = nI (crt (grw (ff p) (gw p)) 5 d)) ∧ ∀ p, i ≤ p → p < np → ∀ d, d < 5 → gI s (117 + 3 * p) d = nI (ff p d)) np (by
    rintro i s hi ⟨k1, k2, k3, k4⟩
    have i20 : i < 20 := by omega
    obtain ⟨y1, y2, y3, y4, y5, y6, y7, y8⟩ := yd i hi
    have e65 : gR s 6 5 = some P := by rw [k2.r (by omega) (by omega) (by omega) (by omega)]; exact h65
    have s10 : gI s 6 10 = nI np := by rw [k2.i (by omega) (by omega) (by omega) (by omega)]; exact p10
    have g0 : gI s (116 + 3 * i) 0 = nI (sf i) := by rw [k2.i (by omega) (by omega) (by omega) (by omega)]; exact y4
    have g3 : gI s (P + 24 + 2 * sf i) 3 = nI (gw i) := by rw [k2.i (by omega) (by omega) (by omega) (by omega)]; exact y6
    have ap := ai_nI (σ := s) (t := 69) (u := 69) (.inl (tg_104 k1)) (ln_104 k1) i20 (by omega)
    obtain ⟨s2, a1, a2, a3, a4⟩ := c_grow k1 i20 y1 y3 (k4 i (Nat.le_refl _) hi)
    refine ⟨s2, ?_, a2, k2.trans (a3.mono (fun r j _ _ q => by omega)), fun p hp d hd => ?_, fun p hp1 hp2 d hd => ?_⟩
    · rw [q_X11_year_2, tg_6 k1, if_pos rfl, s10, if_neg (nI_ge hi (by omega)), if_pos rfl, gR_6_9 k1, zeR_e, if_pos ap, ixn (by omega), gR_people k1 i20, zeR_e, if_pos rfl, zeR_e, if_pos ap, gR_people k1 i20, zeR_e, if_pos rfl, c_sortOf k1 hP e65 i20 y2 g0, zbR_e, tg_Psort k1 hP y2, if_pos rfl, tg_person k1 i20, if_pos rfl, g3, a1, zbV_e, nI_1]
    · by_cases q : p = i
      · subst q; exact a4 d hd
      · rw [a3.i (by omega) (by omega) (by omega) (by omega)]; exact k3 p (by omega) d hd
    · rw [a3.i (by omega) (by omega) (by omega) (by omega)]; exact k4 p (by omega) hp2 d hd) σ ⟨hS, Un.refl _ _, fun p hp => by omega, fun p _ hp d hd => ((yd p hp).2.2.2.2.2.2.2 d hd).1⟩
  have s10 : gI σ1 6 10 = nI np := by rw [k2.i (by omega) (by omega) (by omega) (by omega)]; exact p10
  obtain ⟨⟨σ2, u2, u3, u4, u5⟩, e2, r1, r2, r3, r4⟩ := lp_run (F := fun i (u : zS × Option Value × Option Value × Option Value × Option Value) => zR 2 305 2 [some (.ref 176), some (.int (nI i)), u.2.1, u.2.2.1, u.2.2.2.1, u.2.2.2.2] [] u.1) (fun i u => Sh u.1 ∧ Un (fun r j => r = 246 ∨ r = 234) σ1 u.1 ∧ (∀ p, p < i → ∀ d, d < 5 → gI u.1 234 (5 * p + d) = nI (crt (grw (ff p) (gw p)) 5 d)) ∧ ∀ p, i ≤ p → p < np → ∀ d, d < 5 → gI u.1 234 (5 * p + d) = nI (ff p d)) np (by
    rintro i ⟨s, u2, u3, u4, u5⟩ hi ⟨r1, r2, r3, r4⟩
    have r1 : Sh s := r1
    have r2 : Un (fun r j => r = 246 ∨ r = 234) σ1 s := r2
    have i20 : i < 20 := by omega
    obtain ⟨y1, y2, y3, y4, y5, y6, y7, y8⟩ := yd i hi
    have s70 : gI s 176 70 = nI np := by rw [r2.i (by omega) (by omega) (by omega) (by omega), k2.i (by omega) (by omega) (by omega) (by omega)]; exact p70
    have g0 : gI s 232 i = nI (sf i) := by rw [r2.i (by omega) (by omega) (by omega) (by omega), k2.i (by omega) (by omega) (by omega) (by omega)]; exact y5
    have g3 : gI s 219 (4 + sf i) = nI (gw i) := by rw [r2.i (by omega) (by omega) (by omega) (by omega), k2.i (by omega) (by omega) (by omega) (by omega)]; exact y7
    obtain ⟨s2, x4, x5, a1, a2, a3, a4⟩ := r_grow r1 i20 y1 y3 (r4 i (Nat.le_refl _) hi) u4 u5
    refine ⟨(s2, some (.int (nI (gw i))), some (.int 5), x4, x5), ?_, a2, r2.trans (a3.mono (fun r j _ _ q => by omega)), fun p hp d hd => ?_, fun p hp1 hp2 d hd => ?_⟩
    · show zR 2 305 2 [some (.ref 176), some (.int (nI i)), u2, u3, u4, u5] [] s = _
      rw [q_X12_year_2, tg_176 r1, if_pos rfl, s70, if_neg (nI_ge hi (by omega)), if_pos rfl, gR_176_52 r1, zeR_e, if_pos rfl, gR_176_71 r1, zeR_e, if_pos (ai_nI (.inl (tg_232 r1)) (ln_232 r1) i20 (by omega)), ixn (show i < 2 ^ 31 by omega), g0, nI_addL 4 (sf i), if_pos (ai_nI (.inl (tg_219 r1)) (ln_219 r1) (show 4 + sf i < 8 by omega) (by omega)), ixn (by omega), g3]
      exact a1
    · by_cases q : p = i
      · subst q; exact a4 d hd
      · show gI s2 234 (5 * p + d) = _
        rw [a3.i (by omega) (by omega) (by omega) (by omega)]; exact r3 p (by omega) d hd
    · show gI s2 234 (5 * p + d) = _
      rw [a3.i (by omega) (by omega) (by omega) (by omega)]; exact r4 p (by omega) hp2 d hd) (σ1, none, none, none, none) ⟨k1, Un.refl _ _, fun p hp => by omega, fun p _ hp d hd => by
      show gI σ1 234 (5 * p + d) = _
      rw [k2.i (by omega) (by omega) (by omega) (by omega)]; exact ((yd p hp).2.2.2.2.2.2.2 d hd).2⟩
  have r1 : Sh σ2 := r1
  have r2 : Un (fun r j => r = 246 ∨ r = 234) σ1 σ2 := r2
  have s70 : gI σ2 176 70 = nI np := by rw [r2.i (by omega) (by omega) (by omega) (by omega), k2.i (by omega) (by omega) (by omega) (by omega)]; exact p70
  have h2 : RR B σ2 c P S N M K np t n := RR_feet h ((k2.mono (fun r j _ _ q => by omega)).trans (r2.mono (fun r j _ _ q => by omega))) r1 (fun p hp => by
    obtain ⟨y1, y2, y3, -⟩ := yd p hp
    refine ⟨crt (grw (ff p) (gw p)) 5, ?_, fun d hd => ⟨?_, r3 p hp d hd⟩⟩
    · have := smN_crt (n := 5) (by omega) (grw_sum y3 y1)
      simp only [smN] at this
      omega
    · rw [r2.i (by omega) (by omega) (by omega) (by omega)]; exact k3 p hp d hd)
  refine ⟨nI np, σ1, σ2, ?_, k1, ?_, P, S, N, M, K, np, t, n, RR_mono h2 (by omega)⟩
  · rw [q_X11_year]
    refine Eq.trans e1 ?_
    rw [q_X11_year_2, tg_6 k1, if_pos rfl, s10, if_pos (nI_le (Nat.le_refl _) (by omega)), if_pos rfl]
  · rw [q_X12_year]
    refine Eq.trans e2 ?_
    show zR 2 305 2 [some (.ref 176), some (.int (nI np)), u2, u3, u4, u5] [] σ2 = _
    rw [q_X12_year_2, tg_176 r1, if_pos rfl, s70, if_pos (nI_le (Nat.le_refl _) (by omega)), if_pos rfl]
end
