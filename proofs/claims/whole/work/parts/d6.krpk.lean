/-! a person and a last change, all else stands -/
def XP (P p k : Nat) (r j : Nat) : Prop := (105 ≤ r ∧ r < 110) ∨ (112 ≤ r ∧ r < 116) ∨ (245 ≤ r ∧ r ≤ 251) ∨ (r = 176 ∧ j = 88) ∨ r = 15 ∨ (r = 12 ∧ j = 5) ∨ r = P + 6 ∨ (r = 224 ∧ 160 ≤ j) ∨ (r = P + 5 ∧ j = 2) ∨ r = P + 7 ∨ (r = 176 ∧ (j = 84 ∨ j = 83 ∨ j = 95)) ∨ r = 243 ∨ r = 244 ∨ (r = 116 + 3 * p ∧ 3 ≤ j ∧ j ≤ 6) ∨ r = 117 + 3 * p ∨ r = 118 + 3 * p ∨ ((236 ≤ r ∧ r ≤ 239) ∧ j = p) ∨ (r = 234 ∧ 5 * p ≤ j ∧ j < 5 * p + 5) ∨ (r = 242 ∧ 160 * p ≤ j ∧ j < 160 * p + 160) ∨ r = P + 9 + 2 * k ∨ (r = 235 ∧ 3 * k ≤ j ∧ j < 3 * k + 3) ∨ (r = 6 ∧ (j = 11 ∨ j = 12))
section
variable {σ σ' σ1 σ2 : zS} {s : Nat → Int32} {zf : Nat → Nat} {B P S N M K np c n b e y o d r p0 p k so z : Nat} {t : Nat → Nat}
theorem XP_xs {r j : Nat} (h : (105 ≤ r ∧ r < 110) ∨ (112 ≤ r ∧ r < 116) ∨ (245 ≤ r ∧ r ≤ 251)) : XP P p k r j := by
  rcases h with h | h | h
  · exact .inl h
  · exact .inr (.inl h)
  · exact .inr (.inr (.inl h))
theorem RR_pk (h : RR B σ c P S N M K np t n) (hp0 : p0 < np) (hk0 : k < N) (w : Un (XP P p0 k) σ σ') (hS' : Sh σ') (h1' : HS σ' P N) (h2' : HD σ' P N (c + 1)) (h3' : MS σ') (h4' : Pe σ' N M p0) (h5' : HR σ' P k) (h6' : ∃ m : Nat, m ≤ c + 1 ∧ gI σ' 236 p0 = nI m) : RR B σ' (c + 1) P S N M K np t n := by
  have hS := h.1
  have hP := h.2.1.1
  have hb := HPb hP
  obtain ⟨g1, g2, g3, g4, g5, ⟨h1, h2, h3, h4, h5, h6, h7, h8, h9, h10⟩, g7, g8, g9, g10, g11, g12, g13⟩ := h
  have n1 := h1.1.2.1
  have n2 := h1.2.1.2.1
  have n3 := h1.2.2.2.1
  have n4 := g8.1
  have w : Un (fun r j => (105 ≤ r ∧ r < 110) ∨ (112 ≤ r ∧ r < 116) ∨ (245 ≤ r ∧ r ≤ 251) ∨ (r = 176 ∧ j = 88) ∨ r = 15 ∨ (r = 12 ∧ j = 5) ∨ r = P + 6 ∨ (r = 224 ∧ 160 ≤ j) ∨ (r = P + 5 ∧ j = 2) ∨ r = P + 7 ∨ (r = 176 ∧ (j = 84 ∨ j = 83 ∨ j = 95)) ∨ r = 243 ∨ r = 244 ∨ (r = 116 + 3 * p0 ∧ 3 ≤ j ∧ j ≤ 6) ∨ r = 117 + 3 * p0 ∨ r = 118 + 3 * p0 ∨ ((236 ≤ r ∧ r ≤ 239) ∧ j = p0) ∨ (r = 234 ∧ 5 * p0 ≤ j ∧ j < 5 * p0 + 5) ∨ (r = 242 ∧ 160 * p0 ≤ j ∧ j < 160 * p0 + 160) ∨ r = P + 9 + 2 * k ∨ (r = 235 ∧ 3 * k ≤ j ∧ j < 3 * k + 3) ∨ (r = 6 ∧ (j = 11 ∨ j = 12))) σ σ' := w
  have hp020 : p0 < 20 := by omega
  have hk8 : k < 8 := by omega
  refine ⟨hS', Hs_un g2 w ⟨by omega, by omega⟩, Tp_un g3 g1 w ⟨fun j => by omega, fun j => by omega, by omega, by omega⟩, Ow_un g4 g1 w (fun r j a => by omega), Ft_un g5 w ⟨by omega, by omega, by omega, by omega⟩, ⟨HN_un h1 hP w (fun j _ _ => by omega) (fun j _ _ => by omega), HF_un h2 hP w ⟨by omega, by omega⟩ ⟨by omega, by omega⟩, HC_un h3 hP w (by omega) (by omega), HPl_un h4 hP w (fun j _ => by omega) (fun j _ _ => by omega), (fun k hk => HL_un (h5 k hk) (by omega) hP w (fun j _ => by omega) ⟨by omega, by omega⟩), (fun k hk => HO_un (h6 k hk) (by omega) hP w (fun j => ⟨by omega, by omega⟩) ⟨by omega, by omega, by omega, by omega, fun d _ => by omega⟩), (fun k hk => HQ_un (h7 k hk) (by omega) hP w (fun j => ⟨by omega, by omega⟩) ⟨by omega, fun d _ => by omega⟩), fun k' hk => ?_, (fun k hk => HU_un (h9 k hk) (by omega) hP w (by omega) (by omega)), h1'⟩, h2', PN_un g8 w ⟨by omega, by omega⟩, fun p hp => ?_, IM_un g10 g1 w ⟨by omega, by omega, fun j => by omega, fun j => by omega⟩, h3', (fun k hk => RUk_un (g12 k hk) hk g1 w ⟨by omega, by omega, by omega, fun r j a _ _ => by omega, fun j _ _ => by omega⟩), ⟨by rw [w.1]; have := g13.1; omega, by unfold zsl; rw [w.1]; have := g13.2.1; unfold zsl at this; omega, fun p hp => by
    by_cases q : p = p0
    · rw [q]; exact h6'
    · obtain ⟨m, y1, y2⟩ := g13.2.2 p hp
      refine ⟨m, by omega, ?_⟩
      rw [w.i (by omega) (by omega) (by omega) (by omega)]; exact y2⟩⟩
  · by_cases q : k' = k
    · subst q; exact h5'
    · exact HR_un (h8 k' hk) (by omega) hP w (fun j => by omega) (fun r _ => by omega)
  · by_cases q : p = p0
    · subst q; exact h4'
    · have hp20 : p < 20 := by omega
      obtain ⟨so, z, p1, p2, p3, p4, p5, p6, p7, p8⟩ := g9 p hp
      exact ⟨so, z, p1, p2, p3, PA_un p4 hp20 w ⟨by omega, by omega, by omega, by omega⟩, PF_un p5 hp20 g1 w ⟨fun d => by omega, fun d _ => by omega⟩, PB_un p6 hp20 w ⟨by omega, by omega, by omega, by omega⟩, PT_un p7 hp20 w ⟨by omega, by omega⟩, PK_un p8 hp20 p3 g1 w ⟨by omega, by omega, by omega, by omega, fun j => by omega, fun j _ _ => by omega⟩⟩
/-- counting of boxes by the class's own cells -/
theorem c_boxG (hS : Sh σ) (h10 : gI σ 6 10 = nI np) (p20 : np ≤ 20) : zM 122 [.ref 6] σ = some (some (.int (nI (cnt (fun k => !decide (gI σ (116 + 3 * k) 6 = 0)) np))), σ) := by
  have e := lp_seq (G := fun i => zR 2 122 4 [some (.ref 6), some (.int (nI (cnt (fun k => !decide (gI σ (116 + 3 * k) 6 = 0)) i))), some (.int (nI i))] [] σ) np (fun i hi => by
    have i20 : i < 20 := by omega
    rw [q_X11_countBoxesOut_4, tg_6 hS, if_pos rfl, h10, if_neg (nI_ge hi (by omega)), if_pos rfl, gR_6_9 hS, zeR_e, if_pos (ai_nI (.inl (tg_104 hS)) (ln_104 hS) i20 (by omega)), ixn (by omega), gR_people hS i20, zeR_e, tg_person hS i20, if_pos rfl, q_X4_hasBox, tg_person hS i20, if_pos rfl, cnt_s, nI_1 i]
    by_cases q : gI σ (116 + 3 * i) 6 = 0
    · rw [if_pos q, zbI_e, if_pos rfl, decide_eq_true q, if_neg (by decide)]
    · rw [if_neg q, zbI_e, if_neg (by decide), decide_eq_false q, if_pos (by decide)])
  rw [q_X11_countBoxesOut]
  refine Eq.trans e ?_
  rw [q_X11_countBoxesOut_4, tg_6 hS, if_pos rfl, h10, if_pos (nI_le (Nat.le_refl _) (by omega))]
theorem cnt_congr {f g : Nat → Bool} : ∀ n, (∀ i, i < n → f i = g i) → cnt f n = cnt g n
  | 0, _ => rfl
  | n + 1, h => by
    show cnt f n + (if f n = true then 1 else 0) = cnt g n + (if g n = true then 1 else 0)
    rw [cnt_congr n (fun i hi => h i (by omega)), h n (by omega)]
end
