/-! strangers: both answer alike -/
noncomputable def alb (σ : zS) (p q : Nat) : Bool := @decide (∃ j, j < 160 ∧ ¬ gI σ 242 (160 * p + j) ≤ 0 ∧ ¬ gI σ 242 (160 * q + j) ≤ 0) (Classical.propDecidable _)
def ssm (σ : zS) (al : Nat → Bool) (p k s : Nat) : Nat → Int32
  | 0 => 0
  | i + 1 => if ¬ i = p ∧ al i = true then ssm σ al p k s i + gI σ 242 (160 * i + 20 * k + s) else ssm σ al p k s i
def bst (v : Nat → Int32) : Nat → Nat
  | 0 => 99
  | i + 1 => if v i ≤ (if bst v i = 99 then 0 else v (bst v i)) then bst v i else i
section
variable {σ σ' σ1 σ2 : zS} {t : Nat → Nat} {B P S N M K np c n k p q i z s : Nat}
theorem alk (h : RR B σ c P S N M K np t n) (hp : p < np) (hq : q < np) : zM 40 [.ref (116 + 3 * p), .ref (116 + 3 * q)] σ = some (some (.int (bI (alb σ p q))), σ) ∧ zM 301 [.ref 176, .int (nI q), .int (nI p)] σ = some (some (.int (bI (alb σ p q))), σ) := by
  have hS := h.1
  have n20 := (RR_pn h).1
  have p20 : p < 20 := by omega
  have q20 : q < 20 := by omega
  obtain ⟨so, z, -, z1, z2, p4, -, -, -, p8⟩ := h.2.2.2.2.2.2.2.2.1 p hp
  obtain ⟨so', z', -, z1', z2', p4', -, -, -, p8'⟩ := h.2.2.2.2.2.2.2.2.1 q hq
  obtain ⟨c1, c0⟩ := c_alike hS p20 q20 ⟨z2, z1⟩ ⟨z2', z1'⟩ p4.2.2.1 p4'.2.2.1 p8 p8'
  obtain ⟨r1, r0⟩ := r_alike hS q20 p20
  have iff : (∃ l, l < 8 ∧ ∃ d, d < 5 ∧ hks σ p l (z - 2 + d) ∧ hks σ q l (z - 2 + d)) ↔ ∃ j, j < 160 ∧ ¬ gI σ 242 (160 * p + j) ≤ 0 ∧ ¬ gI σ 242 (160 * q + j) ≤ 0 := by
    constructor
    · rintro ⟨l, hl, d, hd, ⟨x1, x2⟩, ⟨-, y2⟩⟩
      refine ⟨20 * l + (z - 2 + d - 30), by omega, ?_, ?_⟩
      · rw [← Nat.add_assoc]; exact x2
      · rw [← Nat.add_assoc]; exact y2
    · rintro ⟨j, hj, x, y⟩
      have ej : j = 20 * (j / 20) + j % 20 := by omega
      have x' : ¬ gI σ 242 (160 * p + 20 * (j / 20) + j % 20) ≤ 0 := by rw [Nat.add_assoc, ← ej]; exact x
      have y' : ¬ gI σ 242 (160 * q + 20 * (j / 20) + j % 20) ≤ 0 := by rw [Nat.add_assoc, ← ej]; exact y
      have near : z ≤ j % 20 + 32 ∧ j % 20 + 28 ≤ z := by
        by_cases w : z ≤ j % 20 + 32 ∧ j % 20 + 28 ≤ z
        · exact w
        · exfalso
          rw [p8.2.2.2.1 (j / 20) (by omega) (j % 20) (by omega) w] at x'
          exact x' (by decide)
      refine ⟨j / 20, by omega, j % 20 + 30 - (z - 2), by omega, ?_⟩
      have es : z - 2 + (j % 20 + 30 - (z - 2)) = j % 20 + 30 := by omega
      rw [es]
      refine ⟨⟨by omega, ?_⟩, by omega, ?_⟩
      · unfold hk; rw [Nat.add_sub_cancel]; exact x'
      · unfold hk; rw [Nat.add_sub_cancel]; exact y'
  unfold alb
  by_cases w : ∃ j, j < 160 ∧ ¬ gI σ 242 (160 * p + j) ≤ 0 ∧ ¬ gI σ 242 (160 * q + j) ≤ 0
  · rw [@decide_eq_true _ (Classical.propDecidable _) w]
    refine ⟨c1 (iff.mpr w), r1 ?_⟩
    obtain ⟨j, a, b, d⟩ := w
    exact ⟨j, a, d, b⟩
  · rw [@decide_eq_false _ (Classical.propDecidable _) w]
    refine ⟨c0 (fun y => w (iff.mp y)), r0 ?_⟩
    rintro ⟨j, a, b, d⟩
    exact w ⟨j, a, d, b⟩
theorem c_ck (hS : Sh σ) (hi : i < 20) (hk : k < 8) (h1 : gI σ (116 + 3 * i) 1 = nI z) (hz : 30 ≤ z ∧ z ≤ 49) (hK : PK σ i z) : ∃ σ', zM 41 [.ref (116 + 3 * i), .int (nI k), .ref 115] σ = some (none, σ') ∧ Sh σ' ∧ Un (fun r j => r = 115) σ σ' ∧ ∀ s, s < 20 → gI σ' 115 s = gI σ 115 s + gI σ 242 (160 * i + 20 * k + s) := by
  obtain ⟨-, -, k1', k2', -⟩ := hK
  obtain ⟨⟨s1, u⟩, e1, k1, k2, k3⟩ := lp_run (F := fun e (u : zS × Option Value) => zR 2 41 2 [some (.ref (116 + 3 * i)), some (.int (nI k)), some (.ref 115), some (.int (nI e)), u.2] [] u.1) (fun e u => Sh u.1 ∧ Un (fun r j => r = 115) σ u.1 ∧ ∀ s, s < 20 → gI u.1 115 s = if z ≤ s + 32 ∧ s + 32 < z + e then gI σ 115 s + gI σ 242 (160 * i + 20 * k + s) else gI σ 115 s) 5 (by
    rintro e ⟨s, u⟩ he ⟨k1, k2, k3⟩
    have k1 : Sh s := k1
    have k2 : Un (fun r j => r = 115) σ s := k2
    have gz : gI s (116 + 3 * i) 1 = nI z := by rw [k2.i (by omega) (by omega) (by omega) (by omega)]; exact h1
    have zs := z_sz hz he
    by_cases q : 32 ≤ z + e ∧ z + e ≤ 51
    · have ei : nI z + nI e - 2 - 30 = nI (z + e - 32) := by
        rw [nI_add, nI_subR (n := 2) (by omega), nI_subR (n := 30) (by omega)]
        congr 1
      have ek : nI k * 5 + nI e = nI (5 * k + e) := by rw [nI_mulR 5 k, nI_add, Nat.mul_comm]
      have gk : gI s (118 + 3 * i) (5 * k + e) = gI σ 242 (160 * i + 20 * k + (z + e - 32)) := by
        rw [k2.i (by omega) (by omega) (by omega) (by omega), k1' k hk e he, if_pos q]
      have old := k3 (z + e - 32) (by omega)
      rw [if_neg (by omega)] at old
      have old : gI s 115 (z + e - 32) = gI σ 115 (z + e - 32) := old
      refine ⟨(sI s 115 (z + e - 32) (gI σ 115 (z + e - 32) + gI σ 242 (160 * i + 20 * k + (z + e - 32))), some (.int (nI z + nI e - 2))), ?_, k1.sI (by omega), k2.trans (Un_sI rfl), fun s' hs' => ?_⟩
      · show zR 2 41 2 [some (.ref (116 + 3 * i)), some (.int (nI k)), some (.ref 115), some (.int (nI e)), u] [] s = _
        rw [q_X4_countKept_2, if_neg (show ¬ (5 : Int32) ≤ nI e from nI_ge (b := 5) he (by omega)), tg_person k1 hi, if_pos rfl, gz, sz_c, zbI_e, if_pos (show 30 ≤ nI z + nI e - 2 ∧ nI z + nI e - 2 ≤ (49 : Int32) by rw [zs]; exact q), if_neg (by decide), ei, if_pos (ai_nI (.inl (tg_115 k1)) (ln_115 k1) (show z + e - 32 < 20 by omega) (by omega)), tg_person k1 hi, if_pos rfl, gR_pkept k1 hi, zeR_e, ek, if_pos (ai_nI (.inl (tg_pkept k1 hi)) (ln_pkept k1 hi) (show 5 * k + e < 40 by omega) (by omega)), if_pos (ai_nI (.inl (tg_115 k1)) (ln_115 k1) (show z + e - 32 < 20 by omega) (by omega)), zlt_e, ixn (by omega), ixn (by omega), gk, old, nI_1]
      · show gI (sI s 115 (z + e - 32) _) 115 s' = _
        rw [gI_sI]
        by_cases q2 : s' = z + e - 32
        · rw [if_pos ⟨rfl, q2⟩, if_pos (by omega), q2]
        · rw [if_neg (fun x => q2 x.2)]
          have := k3 s' hs'
          rw [show gI s 115 s' = if z ≤ s' + 32 ∧ s' + 32 < z + e then gI σ 115 s' + gI σ 242 (160 * i + 20 * k + s') else gI σ 115 s' from this]
          by_cases q3 : z ≤ s' + 32 ∧ s' + 32 < z + e
          · rw [if_pos q3, if_pos (by omega)]
          · rw [if_neg q3, if_neg (by omega)]
    · refine ⟨(s, some (.int (nI z + nI e - 2))), ?_, k1, k2, fun s' hs' => ?_⟩
      · show zR 2 41 2 [some (.ref (116 + 3 * i)), some (.int (nI k)), some (.ref 115), some (.int (nI e)), u] [] s = _
        rw [q_X4_countKept_2, if_neg (show ¬ (5 : Int32) ≤ nI e from nI_ge (b := 5) he (by omega)), tg_person k1 hi, if_pos rfl, gz, sz_c, zbI_e, if_neg (show ¬ (30 ≤ nI z + nI e - 2 ∧ nI z + nI e - 2 ≤ (49 : Int32)) by rw [zs]; exact q), if_pos rfl, nI_1]
      · show gI s 115 s' = _
        have := k3 s' hs'
        rw [show gI s 115 s' = if z ≤ s' + 32 ∧ s' + 32 < z + e then gI σ 115 s' + gI σ 242 (160 * i + 20 * k + s') else gI σ 115 s' from this]
        by_cases q3 : z ≤ s' + 32 ∧ s' + 32 < z + e
        · rw [if_pos q3, if_pos (by omega)]
        · rw [if_neg q3, if_neg (by omega)]) (σ, none) ⟨hS, Un.refl _ _, fun s hs => by rw [if_neg (by omega)]⟩
  refine ⟨s1, ?_, k1, k2, fun s hs => ?_⟩
  · rw [q_X4_countKept]
    refine Eq.trans e1 ?_
    show zR 2 41 2 [some (.ref (116 + 3 * i)), some (.int (nI k)), some (.ref 115), some (.int (nI 5)), u] [] s1 = _
    rw [q_X4_countKept_2, if_pos (show (5 : Int32) ≤ nI 5 by decide)]
  · have := k3 s hs
    rw [show gI s1 115 s = if z ≤ s + 32 ∧ s + 32 < z + 5 then gI σ 115 s + gI σ 242 (160 * i + 20 * k + s) else gI σ 115 s from this]
    by_cases q : z ≤ s + 32 ∧ s + 32 < z + 5
    · rw [if_pos q]
    · rw [if_neg q, k2' k hk s hs (by omega), Int32.add_zero]
theorem bst_le {v : Nat → Int32} : ∀ i, i ≤ 99 → bst v i = 99 ∨ bst v i < i
  | 0, _ => .inl rfl
  | i + 1, hi => by
    have := bst_le (v := v) i (by omega)
    by_cases q : v i ≤ (if bst v i = 99 then 0 else v (bst v i))
    · have e : bst v (i + 1) = bst v i := by show (if _ then _ else _) = _; rw [if_pos q]
      omega
    · have e : bst v (i + 1) = i := by show (if _ then _ else _) = _; rw [if_neg q]
      omega
theorem op_strangers (h : RR B σ c P S N M K np t n) (x y : Int32) : Al B σ c 173 [.ref 6, .int x, .int y] 303 [.ref 176, .int x, .int y] := by
  have hS := h.1
  have hP := h.2.1.1
  have p20 := (RR_pn h).1
  have n8 := (RR_hn h).1.2.1
  obtain ⟨zf, hz⟩ := RR_zf h
  rcases rng_no x (N := np) (by omega) with qx | ⟨p, hp, rfl⟩
  · refine Al_rd h (-1) ?_ ?_
    · rw [q_X11_strangers, tg_6 hS, if_pos rfl, RR_cP h, zbI_e, if_neg qx, if_pos rfl]
    · rw [q_X12_strangers, tg_176 hS, if_pos rfl, RR_rP h, zbI_e, if_neg qx, if_pos rfl]
  have qp := rng_ok hp (show np < 2 ^ 31 by omega)
  rcases rng_no y (N := N) (by omega) with qy | ⟨k, hk, rfl⟩
  · refine Al_rd h (-1) ?_ ?_
    · rw [q_X11_strangers, tg_6 hS, if_pos rfl, RR_cP h, zbI_e, if_pos qp, if_neg (by decide), tg_6 hS, if_pos rfl, RR_cL h, zbI_e, if_neg qy, if_pos rfl]
    · rw [q_X12_strangers, tg_176 hS, if_pos rfl, RR_rP h, zbI_e, if_pos qp, if_neg (by decide), tg_176 hS, if_pos rfl, RR_rL h, zbI_e, if_neg qy, if_pos rfl]
  have qk := rng_ok hk (show N < 2 ^ 31 by omega)
  have hp20 : p < 20 := by omega
  have hk8 : k < 8 := by omega
  obtain ⟨s0, f1, f2, f3, -⟩ := c_fill (α := σ) (A := 115) 0 (tg_115 hS) (ln_115 hS) (by omega)
  have S0 : Sh s0 := zM_sh rfl hS f1
  have u0 : Un (fun r j => r = 115) σ s0 := f2.mono (fun r j _ _ q => q.1)
  have eA : ∀ s', Un (fun r (j : Nat) => r = 115) σ s' → ∀ a b, alb s' a b = alb σ a b := fun s' us a b => by
    have e : ∀ j, gI s' 242 j = gI σ 242 j := fun j => us.iA (by omega) (by omega) (by rw [tg_242 hS]; omega) (by omega)
    have ee : (∃ j, j < 160 ∧ ¬ gI s' 242 (160 * a + j) ≤ 0 ∧ ¬ gI s' 242 (160 * b + j) ≤ 0) = (∃ j, j < 160 ∧ ¬ gI σ 242 (160 * a + j) ≤ 0 ∧ ¬ gI σ 242 (160 * b + j) ≤ 0) := by simp only [e]
    exact congrArg (fun p : Prop => @decide p (Classical.propDecidable p)) ee
  -- the class counts
  obtain ⟨σ1, e1, k1, k2, k3⟩ := lp_run (F := fun i (s : zS) => zR 3 173 16 [some (.ref 6), some (.int (nI p)), some (.int (nI k)), some (.int (nI i)), none, none] [] s) (fun i s => Sh s ∧ Un (fun r j => r = 115) σ s ∧ ∀ j, j < 20 → gI s 115 j = ssm σ (alb σ p) p k j i) np (by
    rintro i s hi ⟨k1, k2, k3⟩
    have i20 : i < 20 := by omega
    have ux : Un Xs σ s := k2.mono (fun r j _ _ q => by unfold Xs; omega)
    have hs' := RR_xs h ux k1
    have g10 : gI s 6 10 = nI np := (RR_pn hs').2.1
    obtain ⟨a1, -⟩ := alk hs' hp hi
    rw [eA s k2] at a1
    have es : ∀ j, ssm σ (alb σ p) p k j (i + 1) = if ¬ i = p ∧ alb σ p i = true then ssm σ (alb σ p) p k j i + gI σ 242 (160 * i + 20 * k + j) else ssm σ (alb σ p) p k j i := fun _ => rfl
    have ap := ai_nI (σ := s) (t := 69) (u := 69) (.inl (tg_104 k1)) (ln_104 k1) hp20 (by omega)
    have aq := ai_nI (σ := s) (t := 69) (u := 69) (.inl (tg_104 k1)) (ln_104 k1) i20 (by omega)
    by_cases q0 : i = p
    · refine ⟨s, ?_, k1, k2, fun j hj => by rw [es, if_neg (fun z => z.1 q0)]; exact k3 j hj⟩
      rw [q_X11_strangers_16, tg_6 k1, if_pos rfl, g10, if_neg (nI_ge hi (by omega)), if_pos (by rw [q0]), q_X11_strangers_41, nI_1]
    · have n0 : ¬ nI i = nI p := fun z => q0 ((nI_eq (by omega) (by omega)).mp z)
      cases qa : alb σ p i with
      | false =>
        rw [qa] at a1
        refine ⟨s, ?_, k1, k2, fun j hj => by rw [es, if_neg (fun z => absurd z.2 (by rw [qa]; decide))]; exact k3 j hj⟩
        rw [q_X11_strangers_16, tg_6 k1, if_pos rfl, g10, if_neg (nI_ge hi (by omega)), if_neg n0, if_pos rfl, gR_6_9 k1, zeR_e, if_pos ap, ixn (show p < 2 ^ 31 by omega), gR_people k1 hp20, zeR_e, if_pos rfl, zeR_e, if_pos aq, ixn (show i < 2 ^ 31 by omega), gR_people k1 i20, zeR_e, tg_person k1 hp20, if_pos rfl, a1, zbI_e, if_pos (by decide), q_X11_strangers_41, nI_1]
      | true =>
        rw [qa] at a1
        obtain ⟨so, z, -, z1, z2, p4, -, -, -, p8⟩ := hs'.2.2.2.2.2.2.2.2.1 i hi
        obtain ⟨s', b1, b2, b3, b4⟩ := c_ck k1 i20 hk8 p4.2.2.1 ⟨z1, z2⟩ p8
        refine ⟨s', ?_, b2, k2.trans b3, fun j hj => ?_⟩
        · rw [q_X11_strangers_16, tg_6 k1, if_pos rfl, g10, if_neg (nI_ge hi (by omega)), if_neg n0, if_pos rfl, gR_6_9 k1, zeR_e, if_pos ap, ixn (show p < 2 ^ 31 by omega), gR_people k1 hp20, zeR_e, if_pos rfl, zeR_e, if_pos aq, ixn (show i < 2 ^ 31 by omega), gR_people k1 i20, zeR_e, tg_person k1 hp20, if_pos rfl, a1, zbI_e, if_neg (by decide), tg_6 k1, if_pos rfl, gR_6_9 k1, zeR_e, if_pos aq, gR_people k1 i20, zeR_e, if_pos rfl, gR_6_18 k1, zeR_e, tg_person k1 i20, if_pos rfl, b1, zbV_e, q_X11_strangers_41, nI_1]
        · rw [es, if_pos ⟨q0, qa⟩, b4 j hj, k3 j hj, k2.iA (by omega) (by omega) (by rw [tg_242 hS]; omega) (by omega)]) s0 ⟨S0, u0, fun j hj => by rw [f3 j hj]; rfl⟩
  have ux : Un Xs σ σ1 := k2.mono (fun r j _ _ q => by unfold Xs; omega)
  have h' := RR_xs h ux k1
  have g10 : gI σ1 6 10 = nI np := (RR_pn h').2.1
  have g70 : gI σ1 176 70 = nI np := (RR_pn h').2.2
  -- the class finds the most
  have e2 := lp_seq (G := fun i => zR 3 173 49 [some (.ref 6), some (.int (nI p)), some (.int (nI k)), some (.int (if bst (fun j => ssm σ (alb σ p) p k j np) i = 99 then -1 else nI (30 + bst (fun j => ssm σ (alb σ p) p k j np) i))), some (.int (if bst (fun j => ssm σ (alb σ p) p k j np) i = 99 then 0 else ssm σ (alb σ p) p k (bst (fun j => ssm σ (alb σ p) p k j np) i) np)), some (.int (nI i))] [] σ1) 20 (fun i hi => by
    have es : bst (fun j => ssm σ (alb σ p) p k j np) (i + 1) = if ssm σ (alb σ p) p k i np ≤ (if bst (fun j => ssm σ (alb σ p) p k j np) i = 99 then 0 else ssm σ (alb σ p) p k (bst (fun j => ssm σ (alb σ p) p k j np) i) np) then bst (fun j => ssm σ (alb σ p) p k j np) i else i := rfl
    have ag := ai_nI (σ := σ1) (t := 32) (u := 48) (.inl (tg_115 k1)) (ln_115 k1) hi (by omega)
    rw [es]
    generalize bst (fun j => ssm σ (alb σ p) p k j np) i = w
    rw [q_X11_strangers_49, if_neg (show ¬ (20 : Int32) ≤ nI i from nI_ge (b := 20) hi (by omega)), tg_6 k1, if_pos rfl, gR_6_18 k1, zeR_e, if_pos ag, ixn (by omega), k3 i hi, nI_1]
    by_cases q : ssm σ (alb σ p) p k i np ≤ (if w = 99 then 0 else ssm σ (alb σ p) p k w np)
    · rw [if_pos q, if_pos q]
    · rw [if_neg q, if_neg q, if_pos rfl, zeR_e, if_pos ag, k3 i hi, if_neg (show ¬ i = 99 by omega), if_neg (show ¬ i = 99 by omega), nI_addL 30 i])
  -- the reference
  have inn : ∀ i, i < 20 → ∀ F1 F2 : Int32, zR 3 303 23 [some (.ref 176), some (.int (nI p)), some (.int (nI k)), some (.int F1), some (.int F2), some (.int (nI i)), some (.int 0), some (.int 0)] [] σ1 = zR 3 303 23 [some (.ref 176), some (.int (nI p)), some (.int (nI k)), some (.int F1), some (.int F2), some (.int (nI i)), some (.int (ssm σ (alb σ p) p k i np)), some (.int (nI np))] [] σ1 := fun i hi F1 F2 => by
    exact lp_seq (G := fun a => zR 3 303 23 [some (.ref 176), some (.int (nI p)), some (.int (nI k)), some (.int F1), some (.int F2), some (.int (nI i)), some (.int (ssm σ (alb σ p) p k i a)), some (.int (nI a))] [] σ1) np (fun a ha => by
      have a20 : a < 20 := by omega
      obtain ⟨-, a1⟩ := alk h' hp ha
      rw [eA σ1 k2] at a1
      have es : ssm σ (alb σ p) p k i (a + 1) = if ¬ a = p ∧ alb σ p a = true then ssm σ (alb σ p) p k i a + gI σ 242 (160 * a + 20 * k + i) else ssm σ (alb σ p) p k i a := rfl
      rw [q_X12_strangers_23, tg_176 k1, if_pos rfl, g70, if_neg (nI_ge ha (by omega)), es, nI_1]
      by_cases q0 : a = p
      · rw [if_pos (by rw [q0]), if_neg (fun z => z.1 q0)]
      · have n0 : ¬ nI a = nI p := fun z => q0 ((nI_eq (by omega) (by omega)).mp z)
        have ei : (160 : Int32) * nI a + 20 * nI k + nI i = nI (160 * a + 20 * k + i) := by rw [nI_mulL 160 a, nI_mulL 20 k, nI_add, nI_add]
        cases qa : alb σ p a with
        | false =>
          rw [qa] at a1
          rw [if_neg n0, if_pos rfl, a1, zbI_e, if_pos (by decide), if_neg (fun z => absurd z.2 (by decide))]
        | true =>
          rw [qa] at a1
          rw [if_neg n0, if_pos rfl, a1, zbI_e, if_neg (by decide), tg_176 k1, if_pos rfl, gR_176_81 k1, zeR_e, ei, if_pos (ai_nI (.inl (tg_242 k1)) (ln_242 k1) (show 160 * a + 20 * k + i < 3200 by omega) (by omega)), ixn (by omega), k2.iA (by omega) (by omega) (by rw [tg_242 hS]; omega) (by omega), zli_e, if_pos ⟨q0, rfl⟩])
  obtain ⟨⟨u6, u7⟩, e3, -⟩ := lp_run (F := fun i (u : Option Value × Option Value) => zR 3 303 16 [some (.ref 176), some (.int (nI p)), some (.int (nI k)), some (.int (if bst (fun j => ssm σ (alb σ p) p k j np) i = 99 then -1 else nI (30 + bst (fun j => ssm σ (alb σ p) p k j np) i))), some (.int (if bst (fun j => ssm σ (alb σ p) p k j np) i = 99 then 0 else ssm σ (alb σ p) p k (bst (fun j => ssm σ (alb σ p) p k j np) i) np)), some (.int (nI i)), u.1, u.2] [] σ1) (fun _ _ => True) 20 (by
    rintro i ⟨u6, u7⟩ hi -
    have es : bst (fun j => ssm σ (alb σ p) p k j np) (i + 1) = if ssm σ (alb σ p) p k i np ≤ (if bst (fun j => ssm σ (alb σ p) p k j np) i = 99 then 0 else ssm σ (alb σ p) p k (bst (fun j => ssm σ (alb σ p) p k j np) i) np) then bst (fun j => ssm σ (alb σ p) p k j np) i else i := rfl
    refine ⟨(some (.int (ssm σ (alb σ p) p k i np)), some (.int (nI np))), ?_, trivial⟩
    show zR 3 303 16 [some (.ref 176), some (.int (nI p)), some (.int (nI k)), some (.int (if bst (fun j => ssm σ (alb σ p) p k j np) i = 99 then -1 else nI (30 + bst (fun j => ssm σ (alb σ p) p k j np) i))), some (.int (if bst (fun j => ssm σ (alb σ p) p k j np) i = 99 then 0 else ssm σ (alb σ p) p k (bst (fun j => ssm σ (alb σ p) p k j np) i) np)), some (.int (nI i)), u6, u7] [] σ1 = _
    rw [es]
    generalize bst (fun j => ssm σ (alb σ p) p k j np) i = w
    rw [q_X12_strangers_16, if_neg (show ¬ (20 : Int32) ≤ nI i from nI_ge (b := 20) hi (by omega)), inn i hi, q_X12_strangers_23, tg_176 k1, if_pos rfl, g70, if_pos (nI_le (Nat.le_refl _) (by omega)), nI_1]
    by_cases q : ssm σ (alb σ p) p k i np ≤ (if w = 99 then 0 else ssm σ (alb σ p) p k w np)
    · rw [if_neg (Int32.not_lt.mpr q), if_pos q]
    · rw [if_pos (Int32.not_le.mp q), if_neg q, if_neg (show ¬ i = 99 by omega), if_neg (show ¬ i = 99 by omega), nI_addL 30 i]) (none, none) trivial
  refine ⟨(if bst (fun j => ssm σ (alb σ p) p k j np) 20 = 99 then -1 else nI (30 + bst (fun j => ssm σ (alb σ p) p k j np) 20)), σ1, σ1, ?_, k1, ?_, P, S, N, M, K, np, t, n, RR_mono h' (by omega)⟩
  · rw [q_X11_strangers, tg_6 hS, if_pos rfl, RR_cP h, zbI_e, if_pos qp, if_neg (by decide), tg_6 hS, if_pos rfl, RR_cL h, zbI_e, if_pos qk, if_neg (by decide), tg_6 hS, if_pos rfl, gR_6_18 hS, zeR_e, f1, zbV_e]
    refine Eq.trans e1 ?_
    rw [q_X11_strangers_16, tg_6 k1, if_pos rfl, g10, if_pos (nI_le (Nat.le_refl _) (by omega))]
    refine Eq.trans e2 ?_
    rw [q_X11_strangers_49, if_pos (show (20 : Int32) ≤ nI 20 by decide)]
  · rw [q_X12_strangers, tg_176 k1, if_pos rfl, RR_rP h', zbI_e, if_pos qp, if_neg (by decide), tg_176 k1, if_pos rfl, RR_rL h', zbI_e, if_pos qk, if_neg (by decide)]
    refine Eq.trans e3 ?_
    rw [q_X12_strangers_16, if_pos (show (20 : Int32) ≤ nI 20 by decide)]
end
