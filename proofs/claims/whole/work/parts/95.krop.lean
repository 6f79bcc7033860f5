/-! the call rule: the theorem -/
def RQ (σ : zS) (c P S N M K np : Nat) : Prop := Sh σ ∧ Hs σ P S ∧ Ow σ ∧ HH σ P N M K ∧ HD σ P N c ∧ PN σ np ∧ (∀ p, p < np → Pe σ N M p) ∧ IM σ ∧ MS σ
def Xw (r j : Nat) : Prop := Xz r j ∨ r = 13 ∨ (225 ≤ r ∧ r < 232)
section
variable {σ σ' σ1 σ2 α α' β β' : zS} {X : Nat → Nat → Prop} {B P S N M K np c p k so z n : Nat} {t : Nat → Nat} {st : lx}
theorem nXw {r j : Nat} (h : ¬ Xz r j) (h1 : r ≠ 13) (h2 : ¬ (225 ≤ r ∧ r < 232)) : ¬ Xw r j := by
  intro q
  rcases q with q | q | q
  · exact h q
  · exact h1 q
  · exact h2 q
theorem RQ_ws (h : RQ σ c P S N M K np) (u : Un Xw σ σ') (hS' : Sh σ') : RQ σ' c P S N M K np := by
  obtain ⟨g1, g2, g4, g6, g7, g8, g9, g10, g11⟩ := h
  have hP := g2.1
  have hb := HPb hP
  have w : ∀ {r j}, ¬ Xs r j → (r ≠ 6 ∧ r ≠ 176 ∧ r ≠ 7 ∧ r ≠ 177 ∧ r ≠ 13 ∧ ¬ (225 ≤ r ∧ r < 232)) → ¬ Xw r j := fun a b => nXw (nXz a (by omega) (by omega) (by omega) (by omega)) (by omega) (by omega)
  have s6 : ∀ j, j ≠ 1 ∧ j ≠ 7 ∧ j ≠ 8 → ¬ Xw 6 j := fun j hj => nXw (nXz (nX_st (by omega)) (by omega) (by omega) (by omega) (by omega)) (by omega) (by omega)
  have s176 : ∀ j, (70 ≤ j ∧ j < 88) ∨ 88 < j → ¬ Xw 176 j := fun j hj => nXw (nXz (nX_rf (by omega)) (by omega) (by omega) (by omega) (by omega)) (by omega) (by omega)
  have lo : ∀ r j, 16 ≤ r → r < 105 → ¬ Xw r j := fun r j a b => w (nX_lo a b) (by omega)
  have pe : ∀ r j, 116 ≤ r → r < 176 → ¬ Xw r j := fun r j a b => w (nX_pe a b) (by omega)
  have hi : ∀ r j, 232 ≤ r → r < 245 → ¬ Xw r j := fun r j a b => w (nX_hi a b) (by omega)
  refine ⟨hS', Hs_un g2 u ⟨s6 _ (by omega), s6 _ (by omega)⟩, Ow_un g4 g1 u (fun r j a => by
    rcases a with rfl | a
    · exact w (nX_st (by omega)) (by omega)
    · exact w (nX_wd (by omega) (by omega)) (by omega)), ?_, HD_un g7 g1 hP u ⟨lo _ _ (by omega) (by omega), lo _ _ (by omega) (by omega), fun j => lo _ _ (by omega) (by omega)⟩ ⟨s176 _ (by omega), s176 _ (by omega), fun j => hi _ _ (by omega) (by omega), fun j => hi _ _ (by omega) (by omega)⟩, PN_un g8 u ⟨s6 _ (by omega), s176 _ (by omega)⟩, fun p hp => ?_, IM_un g10 g1 u ⟨w (nX_im (by omega)) (by omega), s176 _ (by omega), fun j => w (nX_im (by omega)) (by omega), fun j => w (nX_im (by omega)) (by omega)⟩, MS_un g11 u ⟨s6 _ (by omega), s176 _ (by omega), s6 _ (by omega), s176 _ (by omega)⟩⟩
  · obtain ⟨h1, h2, h3, h4, h5, h6, h7, h8, h9, h10⟩ := g6
    have n1 := h1.1.2.1
    have n2 := h1.2.1.2.1
    have n3 := h1.2.2.2.1
    exact ⟨HN_un h1 hP u (fun j _ _ => lo _ j (by omega) (by omega)) (fun j _ _ => w (nX_214 (by omega)) (by omega)), HF_un h2 hP u ⟨lo _ _ (by omega) (by omega), lo _ _ (by omega) (by omega)⟩ ⟨w (nX_223 (by omega)) (by omega), w (nX_223 (by omega)) (by omega)⟩, HC_un h3 hP u (lo _ _ (by omega) (by omega)) (w (nX_223 (by omega)) (by omega)), HPl_un h4 hP u (fun j _ => lo _ _ (by omega) (by omega)) (fun j _ _ => w (nX_222 (by omega)) (by omega)), fun k hk => HL_un (h5 k hk) (by omega) hP u (fun j _ => lo _ _ (by omega) (by omega)) ⟨w (nX_213 (by omega)) (by omega), w (nX_215 (by omega)) (by omega)⟩, fun k hk => HO_un (h6 k hk) (by omega) hP u (fun j => ⟨lo _ _ (by omega) (by omega), lo _ _ (by omega) (by omega)⟩) ⟨w (nX_213 (by omega)) (by omega), w (nX_218 (by omega) (by omega)) (by omega), w (nX_218 (by omega) (by omega)) (by omega), w (nX_218 (by omega) (by omega)) (by omega), fun d _ => w (nX_217 (by omega)) (by omega)⟩, fun k hk => HQ_un (h7 k hk) (by omega) hP u (fun j => ⟨lo _ _ (by omega) (by omega), lo _ _ (by omega) (by omega)⟩) ⟨w (nX_213 (by omega)) (by omega), fun d _ => w (nX_221 (by omega)) (by omega)⟩, fun k hk => HR_un (h8 k hk) (by omega) hP u (fun j => lo _ _ (by omega) (by omega)) (fun r _ => hi _ _ (by omega) (by omega)), fun k hk => HU_un (h9 k hk) (by omega) hP u (lo _ _ (by omega) (by omega)) (hi _ _ (by omega) (by omega)), HS_un h10 n1 g1 hP u (fun j => lo _ _ (by omega) (by omega)) (fun j _ => w (nX_224 (by omega)) (by omega))⟩
  · have hp20 : p < 20 := by have := g8.1; omega
    obtain ⟨so, z, h1, h2, h3, h4, h5, h6, h7, h8⟩ := g9 p hp
    exact ⟨so, z, h1, h2, h3, PA_un h4 hp20 u ⟨pe _ _ (by omega) (by omega), pe _ _ (by omega) (by omega), hi _ _ (by omega) (by omega), hi _ _ (by omega) (by omega)⟩, PF_un h5 hp20 g1 u ⟨fun d => pe _ _ (by omega) (by omega), fun d _ => hi _ _ (by omega) (by omega)⟩, PB_un h6 hp20 u ⟨pe _ _ (by omega) (by omega), pe _ _ (by omega) (by omega), hi _ _ (by omega) (by omega), hi _ _ (by omega) (by omega)⟩, PT_un h7 hp20 u ⟨pe _ _ (by omega) (by omega), hi _ _ (by omega) (by omega)⟩, PK_un h8 hp20 h3 g1 u ⟨pe _ _ (by omega) (by omega), pe _ _ (by omega) (by omega), hi _ _ (by omega) (by omega), hi _ _ (by omega) (by omega), fun j => pe _ _ (by omega) (by omega), fun j _ _ => hi _ _ (by omega) (by omega)⟩⟩
theorem RP_rq (h : RP σ c P S N M K np) : RQ σ c P S N M K np := by
  obtain ⟨a1, a2, a4, a6, a7, a8, a9, a10, a11, a12⟩ := h
  exact ⟨a1, a2, a4, a6, a7, a8, a9, a10, a11⟩
theorem RQ_rp (h : RQ σ c P S N M K np) (h2 : ∀ k, k < 3 → RUk σ k) : RP σ c P S N M K np := by
  obtain ⟨a1, a2, a4, a6, a7, a8, a9, a10, a11⟩ := h
  exact ⟨a1, a2, a4, a6, a7, a8, a9, a10, a11, h2⟩
/-- a new row, kept as rule k of the class: what it leaves -/
theorem cp_un (hS : Sh σ) {A m r : Nat} (hA : A < 253) : Un (fun r j => r = 13 ∧ j = k) σ (σ.1, (sR (cpN σ A m) 13 k (some r)).2) := by
  have hl := Sh_len hS
  refine ⟨rfl, fun r' j' a b _ d => ⟨?_, ?_, ?_⟩, fun r' j' a b => ?_⟩
  · exact cpN_I (A := A) (m := m) (by omega) (by omega)
  · exact cpN_L (A := A) (m := m) (by omega)
  · show (if r' = 13 ∧ j' = k then _ else gR (cpN σ A m) r' j') = _
    rw [if_neg d]
    exact cpN_R (by omega)
  · have := tg_lt b (by decide)
    exact cpN_I (A := A) (m := m) (by omega) (by omega)
theorem RQ_kd (h : RQ (σ.1, σ'.2) c P S N M K np) (hS : Sh σ') : RQ σ' c P S N M K np := by
  obtain ⟨a1, a2, a4, a6, a7, a8, a9, a10, a11⟩ := h
  exact ⟨hS, a2, a4, a6, a7, a8, a9, a10, a11⟩
theorem RUk_kd (h : RUk (σ.1, σ'.2) k) (hp : σ.1 <+: σ'.1) : RUk σ' k := by
  rcases h with h | ⟨r, SS, h1, h2, h3, h4, h5, h6, h7, h8, h9, h10, h11, h12⟩
  · exact .inl h
  · have hlt : r < σ.1.length := tg_lt (σ := (σ.1, σ'.2)) h3 (by decide)
    have e1 : tg σ' r = tg (σ.1, σ'.2) r := tg_pre (σ := (σ.1, σ'.2)) hp hlt
    have e2 : ln σ' r = ln (σ.1, σ'.2) r := ln_pre (σ := (σ.1, σ'.2)) hp hlt
    exact .inr ⟨r, SS, h1, h2, by rw [e1]; exact h3, by rw [e2]; exact h4, h5, h6, h7, h8, h9, h10, h11, h12⟩
theorem XV_s {r j : Nat} (h : XV r j) : Xs r j := .inr (.inr (.inr (.inr (.inr (.inr (.inl h))))))
theorem XD_s {r j : Nat} (h : XD r j) : Xs r j := by
  rcases h with h | h | h
  · exact .inl h
  · exact .inr (.inl ⟨h.1, .inl h.2⟩)
  · exact .inr (.inr (.inl h))
/-- both loops from the start of a rule's text, for any memory of the reference -/
theorem rl_go (hC : CS α t n (.inl (ru t n 5 0, 0))) (h12 : gI α 12 3 = 0) (hk : k < 3) (hS : Sh β) (hO : Ow β) (ht : ∀ j, j < 1600 → gI β 177 j = nI (t j)) (h1 : gI β 176 1 = nI n) : ∃ β0 α' β' st' c' u3', zM 203 [.ref 176] β = some (none, β0) ∧ Sh β0 ∧ Un (fun r j => r = 176 ∧ ((1 ≤ j ∧ j ≤ 6) ∨ j = 58 ∨ j = 60)) β β0 ∧ gI β0 176 1 = 0 ∧ zR 85 52 5 [some (.ref 12), some (.int (nI k)), some (.int 0), none] [] α = zR 85 52 45 [some (.ref 12), some (.int (nI k)), some (.int (nI c')), u3'] [] α' ∧ zR 10 234 18 [some (.ref 176), some (.int (nI k)), none, none, none] [] (sI β0 228 3 0) = zR 10 234 18 [some (.ref 176), some (.int (nI k)), none, none, none] [] β' ∧ CS α' t n st' ∧ RS β' t n st' ∧ Un XD α α' ∧ Un XV (sI β0 228 3 0) β' ∧ (lL st' = true → lE n st' = true ∧ c' ≤ 40 ∧ RSS α' β' c' (lp st')) := by
  obtain ⟨β0, b1, b2, b3, b4, b5, b6⟩ := r_begins hS hO hC.1.2.1 hC.1.2.2.1 ht h1
  have hS0 := RS_sh b2
  obtain ⟨α', β', st', c', u3', k1, k2, k3, k4, k5, k6, k7⟩ := J_rLoop (t := t) (n := n) k 40 0 α (sI β0 228 3 0) (.inl (ru t n 5 0, 0)) none none none none rfl hC (RS_sI b2 (by omega)) ⟨0, by omega, h12⟩ (fun _ => ⟨[], rfl, fun x hx => by simp at hx, ⟨h12, by decide, fun i hi => by simp [lc] at hi⟩, ⟨by rw [gI_sI, if_neg (by omega)]; exact b6, fun i hi => by simp [lc, flt] at hi⟩, fun i hi => by simp at hi, by rw [gI_sI, if_neg (by omega)]; exact b5, by rw [gI_sI, if_pos ⟨rfl, rfl⟩]; rfl, by simp [lc], by simp [lc]⟩)
  exact ⟨β0, α', β', st', c', u3', b1, hS0, b3, b4, k1, k2, k3, k4, k5, k6, k7⟩
/-- the reference's rule from the end of its loop -/
theorem r_rTail {c' : Nat} (hk : k < 3) (hR : RS β t n st) (hl : lL st = true → lE n st = true ∧ c' ≤ 40 ∧ RSS α β c' (lp st)) : (¬ lL st = true → zR 10 234 18 [some (.ref 176), some (.int (nI k)), none, none, none] [] β = some (some (.int (-1)), sI (sI β 176 7 (gI β 176 5)) 176 8 (gI β 176 6))) ∧ (lL st = true → ∃ SS β', SS.length = c' ∧ wfS SS ∧ DR α (lc SS) ∧ (lc SS).length < 1600 ∧ zR 10 234 18 [some (.ref 176), some (.int (nI k)), none, none, none] [] β = some (some (.int (nI c')), β') ∧ Sh β' ∧ Un (fun r j => XL r j ∨ XY k r j ∨ (r = 176 ∧ (j = 7 ∨ j = 8))) β β' ∧ gI β' 176 7 = 0 ∧ gI β' 176 8 = -1 ∧ gI β' 227 k = 1 ∧ gI β' 228 k = nI SS.length ∧ SR β' (40 * k) (1600 * k) SS ∧ ∀ i, i < (lr SS).length → gI β' 225 (1600 * k + i) = nI ((lr SS).getD i 0)) := by
  have hS := RS_sh hR
  constructor
  · intro hd
    rw [q_X12_rule_18]
    simp -implicitDefEqProofs only [tg_sI, ln_sI, tg_sL, ln_sL, tg_sR, ln_sR, tg_sC, ln_sC, ai_sI, ai_sL, gL_sI, gR_sI, gI_sL, gR_sL, gI_sR, gL_sR, gI_sI, gL_sL, gR_sR, zlt_e, zln_e, zli_e, zll_e, zbI_e, zbL_e, zbR_e, zbV_e, zeR_e, zeN_s, zeN_n, Nat.reduceEqDiff, and_self, and_true, true_and, and_false, false_and, ite_true, ite_false, reduceIte, tg_176 hS]
    rw [if_neg (dead_5 hR hd), if_neg (dead_5 hR hd)]
  · intro hv
    obtain ⟨s, e, rfl⟩ := lx_live hv
    obtain ⟨hE, h40, SS, j1, j2, j3, j4, j5, j6, j7, j8, j9⟩ := hl rfl
    have hns : ¬ s < n := by
      have : decide (n ≤ s) = true := hE
      have := of_decide_eq_true this
      omega
    have wl : Un XL β (sI β 176 2 (nI s)) := Un_sI ⟨rfl, .inl rfl⟩
    have hRl := RS_look hR
    have w8 : Un (fun r j => XL r j ∨ (r = 176 ∧ (j = 7 ∨ j = 8))) β (sI (sI (sI β 176 2 (nI s)) 176 7 0) 176 8 (-1)) := (wl.mono (fun r j _ _ q => .inl q)).trans ((Un_sI (.inr ⟨rfl, .inl rfl⟩)).trans (Un_sI (.inr ⟨rfl, .inr rfl⟩)))
    have hS8 : Sh (sI (sI (sI β 176 2 (nI s)) 176 7 0) 176 8 (-1)) := ((hS.sI (by omega)).sI (by omega)).sI (by omega)
    subst j1
    obtain ⟨β', m1, m2, m3, m4, m5, m6, m7⟩ := r_keep (u2 := none) (u3 := none) (u4 := none) hk hS8 (by rw [w8.i (by omega) (by omega) (by omega) (by unfold XL; omega)]; exact j7) h40 (SR_un j5 hS w8 (fun r j h1 h2 h3 q => by unfold XL at q; omega)) (Q2_un j4 hS w8 (by unfold XL; omega) (fun j _ => by unfold XL; omega)) j2 j9
    have h58 : gI (sI (sI (sI β 176 2 (nI s)) 176 7 0) 176 8 (-1)) 176 58 = nI SS.length := by
      rw [w8.i (by omega) (by omega) (by omega) (by unfold XL; omega)]; exact j6
    rw [h58] at m1
    refine ⟨SS, β', rfl, j2, j3, j9, ?_, m2, ?_, ?_, ?_, m4, m5, m6, m7⟩
    · rw [q_X12_rule_18]
      simp -implicitDefEqProofs only [tg_sI, ln_sI, tg_sL, ln_sL, tg_sR, ln_sR, tg_sC, ln_sC, ai_sI, ai_sL, gL_sI, gR_sI, gI_sL, gR_sL, gI_sR, gL_sR, gI_sI, gL_sL, gR_sR, zlt_e, zln_e, zli_e, zll_e, zbI_e, zbL_e, zbR_e, zbV_e, zeR_e, zeN_s, zeN_n, Nat.reduceEqDiff, and_self, and_true, true_and, and_false, false_and, ite_true, ite_false, reduceIte, tg_176 hS, live_5 hR rfl, r_look hR]
      rw [if_neg hns]
      have h6 : gI β 176 6 = -1 := hR.2.2.2.2.2
      simp -implicitDefEqProofs only [tg_sI, ln_sI, tg_sL, ln_sL, tg_sR, ln_sR, tg_sC, ln_sC, ai_sI, ai_sL, gL_sI, gR_sI, gI_sL, gR_sL, gI_sR, gL_sR, gI_sI, gL_sL, gR_sR, zlt_e, zln_e, zli_e, zll_e, zbI_e, zbL_e, zbR_e, zbV_e, zeR_e, zeN_s, zeN_n, Nat.reduceEqDiff, and_self, and_true, true_and, and_false, false_and, ite_true, ite_false, reduceIte, tg_176 hS, live_5 hR rfl, h6, gR_176_65 hS]
      rw [if_pos (show ai β 32 48 228 3 = true from ai_nI (k := 3) (.inl (tg_228 hS)) (ln_228 hS) (by omega) (by omega)), if_pos (ai_nI (.inl (tg_228 hS)) (ln_228 hS) (show k < 4 by omega) (by omega)), show ix (3 : Int32) = 3 from rfl, j7, ixn (by omega)]
      exact m1
    · exact (w8.mono (fun r j _ _ q => by
        rcases q with q | q
        · exact .inl q
        · exact .inr (.inr q))).trans (m3.mono (fun r j _ _ q => .inr (.inl q)))
    · rw [m3.i (by omega) (by omega) (by omega) (by unfold XY; omega), gI_sI, if_neg (by omega), gI_sI, if_pos ⟨rfl, rfl⟩]
    · rw [m3.i (by omega) (by omega) (by omega) (by unfold XY; omega), gI_sI, if_pos ⟨rfl, rfl⟩]
end
