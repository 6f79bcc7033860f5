/-! boxes that can be sent: both alike -/
def wz (z b : Nat) : Nat → Nat
  | 0 => 0
  | e + 1 => if b / 2 ^ e % 2 = 0 then wz z b e else if 32 ≤ z + e ∧ z + e ≤ 51 then wz z b e + 2 ^ e else wz z b e
def bz (z b : Nat) : Nat → Bool
  | 0 => true
  | e + 1 => bz z b e && (decide (b / 2 ^ e % 2 = 0) || (decide (32 ≤ z + e) && decide (z + e ≤ 51)))
def pcs (b : Nat) : Nat → Nat
  | 0 => 0
  | e + 1 => pcs b e + b / 2 ^ e % 2
def BX (np N : Nat) (zf : Nat → Nat) (a l x : Int32) : Prop := ∃ p k b, p < np ∧ k < N ∧ 1 ≤ b ∧ b < 32 ∧ pc b ≤ 3 ∧ bz (zf p) b 5 = true ∧ a = nI p ∧ l = nI k ∧ x = nI b
def ZF (σ : zS) (np : Nat) (zf : Nat → Nat) : Prop := ∀ p, p < np → 30 ≤ zf p ∧ zf p ≤ 49 ∧ gI σ (116 + 3 * p) 1 = nI (zf p) ∧ gI σ 233 p = nI (zf p)
theorem wz_bz : ∀ b, b < 32 → ∀ z, z < 50 → decide (wz z b 5 = b) = bz z b 5 := by decide +kernel
theorem wz_or : ∀ e, e < 5 → ∀ v, v < 16 → v < 2 ^ e → nI v ||| (1 <<< (nI e &&& 31)) = nI (v + 2 ^ e) := by decide +kernel
theorem pcs_pc : ∀ b, b < 32 → pcs b 5 = pc b := by decide +kernel
theorem wz_lt (z b : Nat) : ∀ e, wz z b e < 2 ^ e := by
  intro e
  induction e with
  | zero => show 0 < 1; omega
  | succ e ih =>
    have e2 : 2 ^ (e + 1) = 2 ^ e + 2 ^ e := by rw [Nat.pow_succ]; omega
    by_cases q : b / 2 ^ e % 2 = 0
    · have e1 : wz z b (e + 1) = wz z b e := by show (if _ then _ else _) = _; rw [if_pos q]
      omega
    · by_cases q2 : 32 ≤ z + e ∧ z + e ≤ 51
      · have e1 : wz z b (e + 1) = wz z b e + 2 ^ e := by show (if _ then _ else _) = _; rw [if_neg q, if_pos q2]
        omega
      · have e1 : wz z b (e + 1) = wz z b e := by show (if _ then _ else _) = _; rw [if_neg q, if_neg q2]
        omega
theorem wz_pc : ∀ b, b < 32 → ∀ z, z < 50 → pc (wz z b 5) ≤ pc b ∧ bz z (wz z b 5) 5 = true := by decide +kernel
section
variable {σ σ' σ1 σ2 : zS} {zf : Nat → Nat} {B P S N M K np c n w b e y o d r p k so z : Nat} {t : Nat → Nat}
theorem bz_inz (h : bz z b 5 = true) : inz z b := by
  simp only [bz, Bool.and_eq_true, Bool.or_eq_true, decide_eq_true_eq, true_and] at h
  intro i hi hb
  obtain ⟨⟨⟨⟨h0, h1⟩, h2⟩, h3⟩, h4⟩ := h
  rcases (show i = 0 ∨ i = 1 ∨ i = 2 ∨ i = 3 ∨ i = 4 by omega) with rfl | rfl | rfl | rfl | rfl
  · omega
  · omega
  · omega
  · omega
  · omega
theorem inz_bz (h : inz z b) : bz z b 5 = true := by
  simp only [bz, Bool.and_eq_true, Bool.or_eq_true, decide_eq_true_eq, true_and]
  have g : ∀ i, i < 5 → b / 2 ^ i % 2 = 0 ∨ (32 ≤ z + i ∧ z + i ≤ 51) := fun i hi => by
    rcases (show b / 2 ^ i % 2 = 0 ∨ b / 2 ^ i % 2 = 1 by omega) with q | q
    · exact .inl q
    · exact .inr (h i hi q)
  exact ⟨⟨⟨⟨g 0 (by omega), g 1 (by omega)⟩, g 2 (by omega)⟩, g 3 (by omega)⟩, g 4 (by omega)⟩
theorem c_bitc (hb : b < 32) : zM 320 [.int (nI b)] σ = some (some (.int (nI (pc b))), σ) := by
  have h : ∀ b, b < 32 → zM 320 [.int (nI b)] (σ) = some (some (.int (nI (pc b))), σ) := by
    intro b hb
    rw [q_J6_bitCount_0f7a4]
    simp -implicitDefEqProofs only [zli_e]
    have : ∀ b, b < 32 → (fun a0 : Int32 => (fun v5 : Int32 => v5 &&& 63) ((fun v4 : Int32 => v4 + ((Int32.toUInt32 v4 >>> (Int32.toUInt32 16 &&& Int32.toUInt32 31)).toInt32)) ((fun v3 : Int32 => v3 + ((Int32.toUInt32 v3 >>> (Int32.toUInt32 8 &&& Int32.toUInt32 31)).toInt32)) ((fun v2 : Int32 => (v2 + ((Int32.toUInt32 v2 >>> (Int32.toUInt32 4 &&& Int32.toUInt32 31)).toInt32)) &&& 252645135) ((fun v1 : Int32 => (v1 &&& 858993459) + (((Int32.toUInt32 v1 >>> (Int32.toUInt32 2 &&& Int32.toUInt32 31)).toInt32) &&& 858993459)) (a0 - (((Int32.toUInt32 a0 >>> (Int32.toUInt32 1 &&& Int32.toUInt32 31)).toInt32) &&& 1431655765))))))) (nI b) = nI (pc b) := by decide +kernel
    have e := this b hb
    simp only at e
    rw [e]
  exact h b hb
theorem z_sz (hz : 30 ≤ z ∧ z ≤ 49) (he : e < 5) : (30 ≤ nI z + nI e - 2 ∧ nI z + nI e - 2 ≤ (49 : Int32)) = (32 ≤ z + e ∧ z + e ≤ 51) := by
  rw [nI_add, nI_subR (n := 2) (by omega)]
  apply propext
  have e1 : (30 : Int32).toInt = 30 := by decide
  have e2 : (49 : Int32).toInt = 49 := by decide
  rw [Int32.le_iff_toInt_le, Int32.le_iff_toInt_le, nI_toInt (by omega), e1, e2]
  omega
theorem c_within (hS : Sh σ) (hp : p < 20) (h1 : gI σ (116 + 3 * p) 1 = nI z) (hz : 30 ≤ z ∧ z ≤ 49) (hb : b < 32) : zM 36 [.ref (116 + 3 * p), .int (nI b)] σ = some (some (.int (nI (wz z b 5))), σ) := by
  have e := lp_seq (G := fun e => zR 2 36 4 [some (.ref (116 + 3 * p)), some (.int (nI b)), some (.int (nI (wz z b e))), some (.int (nI e))] [] σ) 5 (fun e he => by
    have l := wz_lt z b e
    have l16 : 2 ^ e ≤ 16 := by
      have : ∀ e, e < 5 → 2 ^ e ≤ 16 := by decide
      exact this e he
    rw [q_X4_withinSizes_4, if_neg (show ¬ (5 : Int32) ≤ nI e from nI_ge (b := 5) he (by omega)), c_inb hb (by omega), zbI_e, nI_1]
    rcases (show b / 2 ^ e % 2 = 0 ∨ b / 2 ^ e % 2 = 1 by omega) with q | q
    · have e1 : wz z b (e + 1) = wz z b e := by show (if _ then _ else _) = _; rw [if_pos q]
      rw [q, if_pos (by decide), e1]
    · have q' : ¬ b / 2 ^ e % 2 = 0 := by omega
      rw [q, if_neg (by decide), tg_person hS hp, if_pos rfl, h1, sz_c, zbI_e]
      by_cases q2 : 32 ≤ z + e ∧ z + e ≤ 51
      · have e1 : wz z b (e + 1) = wz z b e + 2 ^ e := by show (if _ then _ else _) = _; rw [if_neg q', if_pos q2]
        rw [if_pos (show 30 ≤ nI z + nI e - 2 ∧ nI z + nI e - 2 ≤ (49 : Int32) by rw [z_sz hz he]; exact q2), if_neg (by decide), e1, wz_or e he _ (by omega) l]
      · have e1 : wz z b (e + 1) = wz z b e := by show (if _ then _ else _) = _; rw [if_neg q', if_neg q2]
        rw [if_neg (show ¬ (30 ≤ nI z + nI e - 2 ∧ nI z + nI e - 2 ≤ (49 : Int32)) by rw [z_sz hz he]; exact q2), if_pos rfl, e1])
  rw [q_X4_withinSizes]
  refine Eq.trans e ?_
  rw [q_X4_withinSizes_4, if_pos (show (5 : Int32) ≤ nI 5 by decide)]
theorem c_can (hS : Sh σ) (hp : p < 20) (h1 : gI σ (116 + 3 * p) 1 = nI z) (hz : 30 ≤ z ∧ z ≤ 49) (hb1 : 1 ≤ b) (hb : b < 32) : zM 35 [.ref (116 + 3 * p), .int (nI b)] σ = some (some (.int (bI (decide (pc b ≤ 3) && bz z b 5))), σ) := by
  have hw := wz_bz b hb z (by omega)
  have wl := wz_lt z b 5
  have pb : pc b ≤ 5 := by unfold pc; omega
  rw [q_X4_canBeSent, if_neg (show ¬ nI b < 1 from nI_nlt (b := 1) hb1 (by omega)), if_neg (show ¬ (31 : Int32) < nI b from nI_nlt (a := 31) (by omega) (by omega)), c_bitc hb, zbI_e]
  by_cases q : pc b ≤ 3
  · rw [if_pos (show nI (pc b) ≤ 3 from nI_le (b := 3) q (by omega)), tg_person hS hp, if_pos rfl, c_within hS hp h1 hz hb, zbI_e, decide_eq_true q, Bool.true_and, ← hw]
    by_cases q2 : wz z b 5 = b
    · rw [if_pos (by rw [q2]), decide_eq_true q2]; rfl
    · rw [if_neg (fun y => q2 ((nI_eq (by omega) (by omega)).mp y)), decide_eq_false q2]; rfl
  · rw [if_neg (show ¬ nI (pc b) ≤ 3 from nI_ge (a := 3) (by omega) (by omega)), decide_eq_false q]; rfl
theorem r_pairs (hb : b < 32) : zM 248 [.int (nI b)] σ = some (some (.int (nI (pc b))), σ) := by
  have e := lp_seq (G := fun e => zR 1 248 4 [some (.int (nI b)), some (.int (nI (pcs b e))), some (.int (nI e))] [] σ) 5 (fun e he => by
    rw [q_X12_pairsOf_4, if_neg (show ¬ (5 : Int32) ≤ nI e from nI_ge (b := 5) he (by omega)), bit_sh b hb e (by omega), nI_1, nI_add]
    rfl)
  rw [q_X12_pairsOf]
  refine Eq.trans e ?_
  rw [q_X12_pairsOf_4, if_pos (show (5 : Int32) ≤ nI 5 by decide), pcs_pc b hb]
theorem r_bx24 (hS : Sh σ) (hp : p < 20) (h1 : gI σ 233 p = nI z) (hz : 30 ≤ z ∧ z ≤ 49) (hb : b < 32) (l : Int32) : zR 3 249 24 [some (.ref 176), some (.int (nI p)), some (.int l), some (.int (nI b)), some (.int 1), some (.int 0)] [] σ = some (some (.int (bI (bz z b 5))), σ) := by
  have e := lp_seq (G := fun e => zR 3 249 24 [some (.ref 176), some (.int (nI p)), some (.int l), some (.int (nI b)), some (.int (bI (bz z b e))), some (.int (nI e))] [] σ) 5 (fun e he => by
    have e1 : bz z b (e + 1) = (bz z b e && (decide (b / 2 ^ e % 2 = 0) || (decide (32 ≤ z + e) && decide (z + e ≤ 51)))) := rfl
    rw [q_X12_isBox_24, if_neg (show ¬ (5 : Int32) ≤ nI e from nI_ge (b := 5) he (by omega)), nI_1]
    by_cases q0 : bz z b e = true
    · rw [q0, if_neg (by decide), bit_sh b hb e (by omega)]
      rcases (show b / 2 ^ e % 2 = 0 ∨ b / 2 ^ e % 2 = 1 by omega) with q | q
      · rw [q, if_pos (by decide), e1, q0, decide_eq_true q]; rfl
      · have q' : ¬ b / 2 ^ e % 2 = 0 := by omega
        rw [q, if_neg (by decide), tg_176 hS, if_pos rfl, gR_176_72 hS, zeR_e, if_pos (ai_nI (.inl (tg_233 hS)) (ln_233 hS) hp (by omega)), ixn (by omega), h1, sz_r, zbI_e, e1, q0, decide_eq_false q']
        by_cases q2 : 32 ≤ z + e ∧ z + e ≤ 51
        · rw [if_pos (show 30 ≤ nI z + nI e - 2 ∧ nI z + nI e - 2 ≤ (49 : Int32) by rw [z_sz hz he]; exact q2), if_neg (by decide), decide_eq_true q2.1, decide_eq_true q2.2]; rfl
        · rw [if_neg (show ¬ (30 ≤ nI z + nI e - 2 ∧ nI z + nI e - 2 ≤ (49 : Int32)) by rw [z_sz hz he]; exact q2), if_pos rfl]
          have : (decide (32 ≤ z + e) && decide (z + e ≤ 51)) = false := by
            rw [Bool.and_eq_false_iff, decide_eq_false_iff_not, decide_eq_false_iff_not]
            omega
          rw [this]; rfl
    · have q1 : bz z b e = false := by simpa using q0
      rw [q1, if_pos (by decide), e1, q1]; rfl)
  refine Eq.trans e ?_
  rw [q_X12_isBox_24, if_pos (show (5 : Int32) ≤ nI 5 by decide), bI_fit, if_pos rfl]
theorem b_rng (x : Int32) : (¬ (1 ≤ x ∧ x ≤ 31) ∧ (x < 1 ∨ ¬ x < 1 ∧ 31 < x)) ∨ ∃ b, 1 ≤ b ∧ b < 32 ∧ x = nI b := by
  have e1 : (1 : Int32).toInt = 1 := by decide
  have e31 : (31 : Int32).toInt = 31 := by decide
  have e0 : (0 : Int32).toInt = 0 := rfl
  simp only [Int32.le_iff_toInt_le, Int32.lt_iff_toInt_lt, e1, e31]
  rcases pk_ix x (n := 32) (by omega) with q | q | ⟨b, hb, rfl⟩
  · left
    rw [Int32.lt_iff_toInt_lt] at q
    omega
  · left
    rw [Int32.le_iff_toInt_le, nI_toInt (by omega)] at q
    omega
  · rw [nI_toInt (by omega)]
    rcases Nat.eq_zero_or_pos b with q | q
    · left; omega
    · exact .inr ⟨b, by omega, hb, rfl⟩
theorem c_isBox (h : RR B σ c P S N M K np t n) (hz : ZF σ np zf) (a l x : Int32) : (BX np N zf a l x → zM 132 [.ref 6, .int a, .int l, .int x] σ = some (some (.int 1), σ)) ∧ (¬ BX np N zf a l x → zM 132 [.ref 6, .int a, .int l, .int x] σ = some (some (.int 0), σ)) := by
  have hS := h.1
  have p20 := (RR_pn h).1
  have n8 := (RR_hn h).1.2.1
  rcases rng_no a (N := np) (by omega) with q | ⟨p, hp, rfl⟩
  · refine ⟨fun ⟨p, _, _, hp, _, _, _, _, _, e, _, _⟩ => absurd (by rw [e]; exact rng_ok hp (by omega)) q, fun _ => ?_⟩
    rw [q_X11_isBox, tg_6 hS, if_pos rfl, RR_cP h, zbI_e, if_neg q, if_pos rfl]
  rcases rng_no l (N := N) (by omega) with q | ⟨k, hk, rfl⟩
  · refine ⟨fun ⟨_, k, _, _, hk, _, _, _, _, _, e, _⟩ => absurd (by rw [e]; exact rng_ok hk (by omega)) q, fun _ => ?_⟩
    rw [q_X11_isBox, tg_6 hS, if_pos rfl, RR_cP h, zbI_e, if_pos (rng_ok hp (by omega)), if_neg (by decide), tg_6 hS, if_pos rfl, RR_cL h, zbI_e, if_neg q, if_pos rfl]
  have hp20 : p < 20 := by omega
  have go : zM 132 [.ref 6, .int (nI p), .int (nI k), .int x] σ = zbI (zM 35 [.ref (116 + 3 * p), .int x] σ) (fun x5 σ5 => if x5 = 0 then (some (some (.int 0), σ5)) else (some (some (.int 1), σ5))) := by
    rw [q_X11_isBox, tg_6 hS, if_pos rfl, RR_cP h, zbI_e, if_pos (rng_ok hp (by omega)), if_neg (by decide), tg_6 hS, if_pos rfl, RR_cL h, zbI_e, if_pos (rng_ok hk (by omega)), if_neg (by decide), tg_6 hS, if_pos rfl, gR_6_9 hS, zeR_e, if_pos (ai_nI (.inl (tg_104 hS)) (ln_104 hS) hp20 (by omega)), ixn (by omega), gR_people hS hp20, zeR_e, tg_person hS hp20, if_pos rfl]
  rw [go]
  obtain ⟨z1, z2, z3, z4⟩ := hz p hp
  rcases b_rng x with ⟨q, q'⟩ | ⟨b, b1, b2, rfl⟩
  · refine ⟨fun ⟨_, _, b, _, _, b1, b2, _, _, _, _, e⟩ => absurd (by rw [e]; exact ⟨nI_le (a := 1) b1 (by omega), nI_le (b := 31) (by omega) (by omega)⟩) q, fun _ => ?_⟩
    rw [q_X4_canBeSent]
    rcases q' with q' | ⟨q1, q2⟩
    · rw [if_pos q', zbI_e, if_pos rfl]
    · rw [if_neg q1, if_pos q2, zbI_e, if_pos rfl]
  rw [c_can hS hp20 z3 ⟨z1, z2⟩ b1 b2, zbI_e]
  cases hq : (decide (pc b ≤ 3) && bz (zf p) b 5) with
  | true =>
    rw [Bool.and_eq_true, decide_eq_true_eq] at hq
    exact ⟨fun _ => by rw [if_neg (by decide)], fun q => absurd ⟨p, k, b, hp, hk, b1, b2, hq.1, hq.2, rfl, rfl, rfl⟩ q⟩
  | false =>
    refine ⟨fun ⟨p', k', b', hp', hk', b1', b2', y1, y2, e1, e2, e3⟩ => ?_, fun _ => by rw [if_pos (by decide)]⟩
    exfalso
    have ep := (nI_eq (by omega) (by omega)).mp e1
    have eb := (nI_eq (by omega) (by omega)).mp e3
    subst ep
    subst eb
    rw [decide_eq_true y1, y2] at hq
    exact absurd hq (by decide)
theorem r_isBoxG (hS : Sh σ) (p70 : gI σ 176 70 = nI np) (p20 : np ≤ 20) (n3 : gI σ 214 3 = nI N) (n8 : N ≤ 8) (hz : ∀ p, p < np → 30 ≤ zf p ∧ zf p ≤ 49 ∧ gI σ 233 p = nI (zf p)) (a l x : Int32) : (BX np N zf a l x → zM 249 [.ref 176, .int a, .int l, .int x] σ = some (some (.int 1), σ)) ∧ (¬ BX np N zf a l x → zM 249 [.ref 176, .int a, .int l, .int x] σ = some (some (.int 0), σ)) := by
  have rP := r_isPerson hS p70 (by omega)
  have rL := r_isLast hS n3 (by omega)
  have r31 := fun s => isInL (a := x) (x := 1) (y := 31) (X := 1) (Y := 31) (s := s) (by decide +kernel) (by decide +kernel)
  rcases rng_no a (N := np) (by omega) with q | ⟨p, hp, rfl⟩
  · refine ⟨fun ⟨p, _, _, hp, _, _, _, _, _, e, _, _⟩ => absurd (by rw [e]; exact rng_ok hp (by omega)) q, fun _ => ?_⟩
    rw [q_X12_isBox, tg_176 hS, if_pos rfl, rP, zbI_e, if_neg q, if_pos rfl]
  rcases rng_no l (N := N) (by omega) with q | ⟨k, hk, rfl⟩
  · refine ⟨fun ⟨_, k, _, _, hk, _, _, _, _, _, e, _⟩ => absurd (by rw [e]; exact rng_ok hk (by omega)) q, fun _ => ?_⟩
    rw [q_X12_isBox, tg_176 hS, if_pos rfl, rP, zbI_e, if_pos (rng_ok hp (by omega)), if_neg (by decide), tg_176 hS, if_pos rfl, rL, zbI_e, if_neg q, if_pos rfl]
  have hp20 : p < 20 := by omega
  obtain ⟨z1, z2, z4⟩ := hz p hp
  rw [q_X12_isBox, tg_176 hS, if_pos rfl, rP, zbI_e, if_pos (rng_ok hp (by omega)), if_neg (by decide), tg_176 hS, if_pos rfl, rL, zbI_e, if_pos (rng_ok hk (by omega)), if_neg (by decide), r31, zbI_e]
  rcases b_rng x with ⟨q, q'⟩ | ⟨b, b1, b2, rfl⟩
  · refine ⟨fun ⟨_, _, b, _, _, b1, b2, _, _, _, _, e⟩ => absurd (by rw [e]; exact ⟨nI_le (a := 1) b1 (by omega), nI_le (b := 31) (by omega) (by omega)⟩) q, fun _ => ?_⟩
    rw [if_neg q, if_pos rfl]
  have pb : pc b ≤ 5 := by unfold pc; omega
  rw [if_pos (show (1 : Int32) ≤ nI b ∧ nI b ≤ 31 from ⟨nI_le (a := 1) b1 (by omega), nI_le (b := 31) (by omega) (by omega)⟩), if_neg (by decide), q_X12_isBox_14, r_pairs b2, zbI_e]
  by_cases q : pc b ≤ 3
  · rw [if_pos (show nI (pc b) ≤ 3 from nI_le (b := 3) q (by omega)), r_bx24 hS hp20 z4 ⟨z1, z2⟩ b2]
    cases hq : bz (zf p) b 5 with
    | true => exact ⟨fun _ => rfl, fun y => absurd ⟨p, k, b, hp, hk, b1, b2, q, hq, rfl, rfl, rfl⟩ y⟩
    | false =>
      refine ⟨fun ⟨p', k', b', hp', hk', b1', b2', y1, y2, e1, e2, e3⟩ => ?_, fun _ => rfl⟩
      exfalso
      have ep := (nI_eq (by omega) (by omega)).mp e1
      have eb := (nI_eq (by omega) (by omega)).mp e3
      subst ep
      subst eb
      rw [y2] at hq
      exact absurd hq (by decide)
  · rw [if_neg (show ¬ nI (pc b) ≤ 3 from nI_ge (a := 3) (by omega) (by omega))]
    refine ⟨fun ⟨p', k', b', hp', hk', b1', b2', y1, y2, e1, e2, e3⟩ => ?_, fun _ => rfl⟩
    have eb := (nI_eq (by omega) (by omega)).mp e3
    subst eb
    exact absurd y1 q
theorem r_isBox (h : RR B σ c P S N M K np t n) (hz : ZF σ np zf) (a l x : Int32) : (BX np N zf a l x → zM 249 [.ref 176, .int a, .int l, .int x] σ = some (some (.int 1), σ)) ∧ (¬ BX np N zf a l x → zM 249 [.ref 176, .int a, .int l, .int x] σ = some (some (.int 0), σ)) := r_isBoxG h.1 (RR_pn h).2.2 (RR_pn h).1 (RR_hn h).1.2.2 (RR_hn h).1.2.1 (fun p hp => ⟨(hz p hp).1, (hz p hp).2.1, (hz p hp).2.2.2⟩) a l x
theorem RR_zf (h : RR B σ c P S N M K np t n) : ∃ zf, ZF σ np zf := by
  refine ⟨fun p => ix (gI σ 233 p), fun p hp => ?_⟩
  obtain ⟨so, z, -, z1, z2, ⟨-, -, y1, y2⟩, -⟩ := h.2.2.2.2.2.2.2.2.1 p hp
  have e : ix (gI σ 233 p) = z := by rw [y2, ixn (by omega)]
  show 30 ≤ ix (gI σ 233 p) ∧ ix (gI σ 233 p) ≤ 49 ∧ gI σ (116 + 3 * p) 1 = nI (ix (gI σ 233 p)) ∧ gI σ 233 p = nI (ix (gI σ 233 p))
  rw [e]
  exact ⟨z1, z2, y1, y2⟩
theorem ZF_xs (hz : ZF σ np zf) (h20 : np ≤ 20) (u : Un Xs σ σ') : ZF σ' np zf := fun p hp => by
  obtain ⟨z1, z2, z3, z4⟩ := hz p hp
  exact ⟨z1, z2, by rw [u.i (by omega) (by omega) (by omega) (nX_pe (by omega) (by omega))]; exact z3, by rw [u.i (by omega) (by omega) (by omega) (nX_hi (by omega) (by omega))]; exact z4⟩
end
