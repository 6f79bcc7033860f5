/-! mean: both answer alike -/
section
variable {σ σ' σ1 σ2 : zS} {zf pl f g : Nat → Nat} {B P S N M K np c n w b e y o d r p k so z pr fa wi ch lv : Nat} {t : Nat → Nat}
theorem RR_md (h : RR B σ c P S N M K np t n) (hk : k < N) (hso : so < M) : ∃ pr fa wi ch lv, ch ≤ 99 ∧ lv ≤ 100 ∧ CM σ P k pr fa wi ∧ RM σ k pr fa wi ∧ gI σ P 10 = nI ch ∧ gI σ 223 5 = nI ch ∧ gI σ (P + 24 + 2 * so) 4 = nI lv ∧ gI σ 220 (4 + so) = nI lv := by
  obtain ⟨-, ⟨⟨fa, a1, a2, a3⟩, ⟨wi, b1, b2, b3⟩⟩, ⟨ch, c1, c2, c3⟩, -, h5, h6, -⟩ := h.2.2.2.2.2.1
  obtain ⟨-, pr, p1, p2, p3⟩ := h5 k hk
  obtain ⟨-, -, -, ⟨lv, l1, l2, l3⟩, -⟩ := h6 so hso
  exact ⟨pr, fa, wi, ch, lv, c1, l1, ⟨a2, b2, p2, a1, b1, p1⟩, ⟨a3, b3, p3, a1, b1, p1⟩, c2, c3, l2, l3⟩
theorem op_mean (h : RR B σ c P S N M K np t n) (a l x e : Int32) : Al B σ c 144 [.ref 6, .int a, .int l, .int x, .int e] 259 [.ref 176, .int a, .int l, .int x, .int e] := by
  have hS := h.1
  have hP := h.2.1.1
  have hb := HPb hP
  have p20 := (RR_pn h).1
  have n8 := (RR_hn h).1.2.1
  have h65 := h.2.1.2.2.2.1
  obtain ⟨zf, hz⟩ := RR_zf h
  by_cases hq : BX np N zf a l x
  · have hq' := hq
    obtain ⟨p, k, b, hp, hk, b1, b2, b3, b4, rfl, rfl, rfl⟩ := hq
    have hp20 : p < 20 := by omega
    have hk8 : k < 8 := by omega
    obtain ⟨so, pl, f, g, w, s1, s4, f1, g1, hc, hr⟩ := RR_wd h hp hk
    obtain ⟨pr, fa, wi, ch, lv, c99, l100, hm, hm2, hc1, hc2, hl1, hl2⟩ := RR_md h hk s1
    obtain ⟨σ1, e1, e2, e3⟩ := c_plain hS hP h65 hp20 hk8 s4 hc hm hc1 b1 b2 b3
    have ux : Un Xs σ σ1 := e3.mono (fun r j _ _ q => by unfold Xs; omega)
    have h' := RR_xs h ux e2
    have e65 : gR σ1 6 5 = some P := h'.2.1.2.2.2.1
    have hc1' : gI σ1 P 10 = nI ch := by rw [e3.i (by omega) (by omega) (by omega) (by omega)]; exact hc1
    have hc2' : gI σ1 223 5 = nI ch := by rw [e3.i (by omega) (by omega) (by omega) (by omega)]; exact hc2
    have hl1' : gI σ1 (P + 24 + 2 * so) 4 = nI lv := by rw [e3.i (by omega) (by omega) (by omega) (by omega)]; exact hl1
    have hl2' : gI σ1 220 (4 + so) = nI lv := by rw [e3.i (by omega) (by omega) (by omega) (by omega)]; exact hl2
    have hcx := CW_xs hc hP hp20 hk8 s4 ux
    have hrx := RW_xs hr hp20 hk8 s4 ux
    refine ⟨if e = 0 then mbv pl f g w pr fa wi ch b else odv (nI lv) (nI ch) (mbv pl f g w pr fa wi ch b), σ1, σ1, ?_, e2, ?_, P, S, N, M, K, np, t, n, RR_mono h' (by omega)⟩
    · rw [q_X11_mean, tg_6 hS, if_pos rfl, (c_isBox h hz _ _ _).1 hq', zbI_e, if_neg (by decide), tg_6 hS, if_pos rfl, e1, zbI_e]
      by_cases q : e = 0
      · rw [if_pos q, if_pos q]
      · rw [if_neg q, if_neg q, q_X11_mean_16, tg_6 e2, if_pos rfl, gR_6_9 e2, zeR_e, if_pos (ai_nI (.inl (tg_104 e2)) (ln_104 e2) hp20 (by omega)), ixn (by omega), gR_people e2 hp20, zeR_e, if_pos rfl, e65, zeR_e, tg_P e2 hP, if_pos rfl, if_pos rfl, hc1', c_ord e2 hP e65 hp20 s4 hcx.2.1 hl1', zbI_e]
    · rw [q_X12_mean, tg_176 e2, if_pos rfl, (r_isBox h' (ZF_xs hz p20 ux) _ _ _).1 hq', zbI_e, if_neg (by decide), tg_176 e2, if_pos rfl, r_meanOf e2 hp20 hk8 s4 hrx (RM_xs hm2 hk8 ux) hc2' c99 f1 g1 b1 b2 b3, zbI_e]
      by_cases q : e = 0
      · rw [if_pos q, if_pos q]
      · rw [if_neg q, if_neg q, tg_176 e2, if_pos rfl, r_ord e2 hp20 s4 hrx.2.1 hl2' hc2', zbI_e]
  · refine Al_rd h (-1000000000) ?_ ?_
    · rw [q_X11_mean, tg_6 hS, if_pos rfl, (c_isBox h hz a l x).2 hq, zbI_e, if_pos rfl]
    · rw [q_X12_mean, tg_176 hS, if_pos rfl, (r_isBox h hz a l x).2 hq, zbI_e, if_pos rfl]
end
