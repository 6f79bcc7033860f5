/-! rules reckoned: a rule run by the reference -/
section
variable {σ0 σ σ' : zS} {S' : List Int} {F : Nat → Int} {p l w m E c k z b C : Nat} {SS0 : List (List Nat × Nat)} {y : List Nat} {v : Int}
theorem wz_0 (z : Nat) : ∀ e, wz z 0 e = 0
  | 0 => rfl
  | e + 1 => by
    show (if 0 / 2 ^ e % 2 = 0 then wz z 0 e else if 32 ≤ z + e ∧ z + e ≤ 51 then wz z 0 e + 2 ^ e else wz z 0 e) = 0
    rw [if_pos (by rw [Nat.zero_div]), wz_0 z e]
theorem r_cut (hS : Sh σ) (hp : p < 20) (h1 : gI σ 233 p = nI z) (hz : 30 ≤ z ∧ z ≤ 49) (hb : b < 32) : zM 270 [.ref 176, .int (nI p), .int (nI b)] σ = some (some (.int (nI (wz z b 5))), σ) := by
  have ap := ai_nI (σ := σ) (t := 32) (u := 48) (.inl (tg_233 hS)) (ln_233 hS) hp (by omega)
  have e := lp_seq (G := fun e => zR 2 270 4 [some (.ref 176), some (.int (nI p)), some (.int (nI b)), some (.int (nI (wz z b e))), some (.int (nI e))] [] σ) 5 (fun e he => by
    have l := wz_lt z b e
    have l16 : 2 ^ e ≤ 16 := by
      have : ∀ e, e < 5 → 2 ^ e ≤ 16 := by decide
      exact this e he
    rw [q_X12_cut_4, if_neg (show ¬ (5 : Int32) ≤ nI e from nI_ge (b := 5) he (by omega)), bit_sh b hb e (by omega), nI_1]
    rcases (show b / 2 ^ e % 2 = 0 ∨ b / 2 ^ e % 2 = 1 by omega) with q | q
    · have e1 : wz z b (e + 1) = wz z b e := by show (if _ then _ else _) = _; rw [if_pos q]
      rw [q, if_neg (show ¬ nI 0 = (1 : Int32) by decide), e1]
    · have q' : ¬ b / 2 ^ e % 2 = 0 := by omega
      rw [q, if_pos (show nI 1 = (1 : Int32) by decide), tg_176 hS, if_pos rfl, gR_176_72 hS, zeR_e, if_pos ap, ixn (by omega), h1, sz_r, zbI_e]
      by_cases q2 : 32 ≤ z + e ∧ z + e ≤ 51
      · have e1 : wz z b (e + 1) = wz z b e + 2 ^ e := by show (if _ then _ else _) = _; rw [if_neg q', if_pos q2]
        rw [if_pos (show 30 ≤ nI z + nI e - 2 ∧ nI z + nI e - 2 ≤ (49 : Int32) by rw [z_sz hz he]; exact q2), if_neg (by decide), e1, wz_or e he _ (by omega) l]
      · have e1 : wz z b (e + 1) = wz z b e := by show (if _ then _ else _) = _; rw [if_neg q', if_neg q2]
        rw [if_neg (show ¬ (30 ≤ nI z + nI e - 2 ∧ nI z + nI e - 2 ≤ (49 : Int32)) by rw [z_sz hz he]; exact q2), if_pos rfl, e1])
  rw [q_X12_cut]
  refine Eq.trans e ?_
  rw [q_X12_cut_4, if_pos (show (5 : Int32) ≤ nI 5 by decide)]
theorem r_rl (hw : w < 160) (hE2 : E ≤ 6400) (hF : okF F) (hfa : (∀ τ, Sh τ → Un XPi σ0 τ → ∀ c, isF c = true → zM 269 [.ref 176, .int (nI p), .int (nI l), .int (nI c)] τ = some (some (.int (eI (F c))), τ))) : ∀ (cs : List Nat) (m : Nat) (σ : zS) (S : List Int) (u5 : Option Value), m + cs.length = E → (∀ j, j < cs.length → gI σ 225 (m + j) = nI (cs.getD j 0)) → (∀ c, c ∈ cs → c < 11000) → gI σ 231 w = nI E → Sh σ → Un XPi σ0 σ → RPi σ S → evL F 64 cs S = some S' → ∃ σ' w5, zR 3 268 8 [some (.ref 176), some (.int (nI p)), some (.int (nI l)), some (.int (nI w)), some (.int (nI m)), u5] [] σ = zR 3 268 8 [some (.ref 176), some (.int (nI p)), some (.int (nI l)), some (.int (nI w)), some (.int (nI E)), w5] [] σ' ∧ Sh σ' ∧ Un XPi σ σ' ∧ RPi σ' S'
  | [], m, σ, S, u5, hl, _, _, _, hS, _, hst, he => by
    have he : some S = some S' := he
    cases he
    have hl : m = E := hl
    subst hl
    exact ⟨σ, u5, rfl, hS, Un.refl _ _, hst⟩
  | c :: cs, m, σ, S, u5, hl, hj, hc, hE, hS, hu, hst, he => by
    have hl : m + (cs.length + 1) = E := hl
    cases h1 : ev1 F 64 c S with
    | none =>
      have he : (match ev1 F 64 c S with | none => none | some S1 => evL F 64 cs S1) = some S' := he
      rw [h1] at he
      cases he
    | some S1 =>
      have he : (match ev1 F 64 c S with | none => none | some S1 => evL F 64 cs S1) = some S' := he
      rw [h1] at he
      have h0 : gI σ 225 m = nI c := hj 0 (Nat.succ_pos _)
      obtain ⟨σ1, w5, e1, e2, e3, e4⟩ := r_stp (p := p) (l := l) (w := w) (m := m) hS hw (by omega) hE hE2 (by omega) h0 (hc c (List.mem_cons_self ..)) hF (hfa σ hS hu) hst h1 u5
      obtain ⟨σ2, v5, f1, f2, f3, f4⟩ := r_rl hw hE2 hF hfa cs (m + 1) σ1 S1 w5 (by omega) (fun j q => by
        have := hj (j + 1) (Nat.succ_lt_succ q)
        rw [e3.iA (by omega) (by omega) (by rw [tg_225 hS]; omega) (by unfold XPi; omega), show m + 1 + j = m + (j + 1) by omega]
        exact this) (fun c q => hc c (List.mem_cons_of_mem _ q)) (by
        rw [e3.iA (by omega) (by omega) (by rw [tg_231 hS]; omega) (by unfold XPi; omega)]; exact hE) e2 (hu.trans e3) e4 he
      exact ⟨σ2, v5, by rw [e1, f1], f2, e3.trans f3, f4⟩
theorem r_holds (hw : w < 160) (hE2 : C + y.length ≤ 6400) (hF : okF F) (hfa : (∀ τ, Sh τ → Un XPi σ0 τ → ∀ c, isF c = true → zM 269 [.ref 176, .int (nI p), .int (nI l), .int (nI c)] τ = some (some (.int (eI (F c))), τ))) (hS : Sh σ) (hu : Un XPi σ0 σ) (h0 : gI σ 230 w = nI C) (h1 : gI σ 231 w = nI (C + y.length)) (hj : ∀ j, j < y.length → gI σ 225 (C + j) = nI (y.getD j 0)) (hy : ∀ c, c ∈ y → c < 11000) (hv : okB v) (he : evL F 64 y [] = some [v]) : ∃ σ', zM 268 [.ref 176, .int (nI p), .int (nI l), .int (nI w)] σ = some (some (.int (if v = 1 then 1 else 0)), σ') ∧ Sh σ' ∧ Un XPi σ σ' := by
  have S1 : Sh (sI σ 176 88 0) := hS.sI (by omega)
  have u1 : Un XPi σ (sI σ 176 88 0) := Un_sI (.inr ⟨rfl, rfl⟩)
  have aw := ai_nI (σ := sI σ 176 88 0) (t := 32) (u := 48) (.inl (tg_230 S1)) (ln_230 S1) hw (by omega)
  have g0 : gI (sI σ 176 88 0) 230 w = nI C := by rw [gI_sI, if_neg (by omega)]; exact h0
  obtain ⟨σ2, w5, e1, e2, e3, e4⟩ := r_rl (p := p) (l := l) (w := w) hw hE2 hF hfa y C (sI σ 176 88 0) [] none rfl (fun j q => by rw [gI_sI, if_neg (by omega)]; exact hj j q) hy (by rw [gI_sI, if_neg (by omega)]; exact h1) S1 (hu.trans u1) ⟨by rw [gI_sI, if_pos ⟨rfl, rfl⟩]; rfl, by show 0 ≤ 64; omega, fun i hi => absurd hi (Nat.not_lt_zero i)⟩ he
  refine ⟨σ2, ?_, e2, u1.trans e3⟩
  have g1 : gI σ2 231 w = nI (C + y.length) := by
    rw [e3.iA (by omega) (by omega) (by rw [tg_231 S1]; omega) (by unfold XPi; omega), gI_sI, if_neg (by omega)]; exact h1
  have aw2 := ai_nI (σ := σ2) (t := 32) (u := 48) (.inl (tg_231 e2)) (ln_231 e2) hw (by omega)
  have a0 : ai σ2 36 36 245 0 = true := ai_nI (σ := σ2) (t := 36) (u := 36) (.inl (tg_245 e2)) (ln_245 e2) (k := 0) (by omega) (by omega)
  have gv : gL σ2 245 0 = eL v := e4.2.2 0 (Nat.succ_pos _)
  have ix0 : ix 0 = 0 := by decide
  have le : nI (C + y.length) ≤ nI (C + y.length) := Int32.le_refl _
  have fi : zR 3 268 8 [some (.ref 176), some (.int (nI p)), some (.int (nI l)), some (.int (nI w)), some (.int (nI (C + y.length))), w5] [] σ2 = some (some (.int (if v = 1 then 1 else 0)), σ2) := by
    rw [q_X12_holds_8, tg_176 e2, if_pos rfl, gR_176_68 e2, zeR_e, if_pos aw2, ixn (by omega), g1, if_pos le, if_pos rfl, gR_176_87 e2, zeR_e, if_pos a0, ix0, gv]
    by_cases q : v = 1
    · rw [if_pos (show lg_cmp (eL v) 1 = 0 by rw [cmp_eq, q]; decide +kernel), if_pos q]
    · have q0 : v = 0 := by
        rcases hv with z | z
        · exact z
        · exact absurd z q
      rw [if_neg (show ¬ lg_cmp (eL v) 1 = 0 by rw [cmp_eq, q0]; decide +kernel), if_neg q]
  rw [q_X12_holds, tg_176 hS, if_pos rfl, zlt_e, tg_176 S1, if_pos rfl, gR_176_67 S1, zeR_e, if_pos aw, ixn (by omega), g0, e1]
  exact fi
end
