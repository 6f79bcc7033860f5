/-! rules reckoned: a rule run by the reference, as a whole -/
section
variable {σ0 σ σ' : zS} {F : Nat → Int} {p l k z : Nat} {SS0 : List (List Nat × Nat)}
theorem r_ru (hk : k < 3) (hp : p < 20) (hF : okF F) (hfa : (∀ τ, Sh τ → Un XPi σ0 τ → ∀ c, isF c = true → zM 269 [.ref 176, .int (nI p), .int (nI l), .int (nI c)] τ = some (some (.int (eI (F c))), τ))) (h0 : Sh σ0) (hw : wfS SS0) (h40 : SS0.length ≤ 40) (h16 : (lr SS0).length < 1600) (hn : gI σ0 228 k = nI SS0.length) (hR : SR σ0 (40 * k) (1600 * k) SS0) (hcd : ∀ i, i < (lr SS0).length → gI σ0 225 (1600 * k + i) = nI ((lr SS0).getD i 0)) (hz0 : gI σ0 233 p = nI z) (hz : 30 ≤ z ∧ z ≤ 49) : ∀ (SS P : List (List Nat × Nat)) (σ : zS), SS0 = P ++ SS → Sh σ → Un XPi σ0 σ → ∃ σ', zR 4 271 4 [some (.ref 176), some (.int (nI k)), some (.int (nI p)), some (.int (nI l)), some (.int (nI (40 * k + P.length)))] [] σ = some (some (.int (nI (wz z (rch F SS) 5))), σ') ∧ Sh σ' ∧ Un XPi σ σ'
  | [], P, σ, hL, hS, hu => by
    rw [List.append_nil] at hL
    have ak := ai_nI (σ := σ) (t := 32) (u := 48) (.inl (tg_228 hS)) (ln_228 hS) (k := k) (by omega) (by omega)
    have gn : gI σ 228 k = nI SS0.length := by rw [hu.i (by omega) (by omega) (by omega) (by unfold XPi; omega)]; exact hn
    have le : 40 * nI k + nI SS0.length ≤ nI (40 * k + P.length) := by
      rw [nI_mulL 40 k, nI_add, hL]
      exact Int32.le_refl _
    refine ⟨σ, ?_, hS, Un.refl _ _⟩
    show _ = some (some (Value.int (nI (wz z 0 5))), σ)
    rw [q_X12_ruled_4, tg_176 hS, if_pos rfl, gR_176_65 hS, zeR_e, if_pos ak, ixn (by omega), gn, if_pos le, wz_0]
    rfl
  | x :: SS, P, σ, hL, hS, hu => by
    have hlen : SS0.length = P.length + (SS.length + 1) := by rw [hL, List.length_append]; rfl
    have hx := hw x (by rw [hL]; exact List.mem_append_right _ (List.mem_cons_self ..))
    obtain ⟨v, v1, v2⟩ := eb_v hx.1 hF
    have ak := ai_nI (σ := σ) (t := 32) (u := 48) (.inl (tg_228 hS)) (ln_228 hS) (k := k) (by omega) (by omega)
    have gn : gI σ 228 k = nI SS0.length := by rw [hu.i (by omega) (by omega) (by omega) (by unfold XPi; omega)]; exact hn
    have le : ¬ 40 * nI k + nI SS0.length ≤ nI (40 * k + P.length) := by
      rw [nI_mulL 40 k, nI_add, nI_leI (by omega) (by omega)]
      omega
    have gx : SS0.getD P.length ([], 0) = x := by
      rw [hL, List.getD_eq_getElem?_getD, List.getElem?_append_right (Nat.le_refl _), Nat.sub_self]
      rfl
    have ho : off SS0 P.length = (lr P).length := by
      unfold off
      rw [hL, List.take_left']
      rfl
    obtain ⟨s1, s2, s3⟩ := hR P.length (by omega)
    rw [gx] at s1 s3
    rw [ho] at s2 s3
    have el : lr SS0 = lr P ++ (x.1 ++ lr SS) := by
      rw [hL]
      unfold lr
      rw [List.flatMap_append, List.flatMap_cons]
    have ell : (lr SS0).length = (lr P).length + (x.1.length + (lr SS).length) := by rw [el, List.length_append, List.length_append]
    obtain ⟨σ1, e1, e2, e3⟩ := r_holds (p := p) (l := l) (w := 40 * k + P.length) (C := 1600 * k + (lr P).length) (y := x.1) (by omega) (by omega) hF hfa hS hu (by
      rw [hu.iA (by omega) (by omega) (by rw [tg_230 h0]; omega) (by unfold XPi; omega)]; exact s2) (by
      rw [hu.iA (by omega) (by omega) (by rw [tg_231 h0]; omega) (by unfold XPi; omega)]; exact s3) (fun j q => by
      rw [hu.iA (by omega) (by omega) (by rw [tg_225 h0]; omega) (by unfold XPi; omega), Nat.add_assoc, hcd _ (by omega), el, gd_r, gd_l _ _ _ q]) hx.1.1 v1 v2
    by_cases q : v = 1
    · have aw := ai_nI (σ := σ1) (t := 32) (u := 48) (.inl (tg_229 e2)) (ln_229 e2) (k := 40 * k + P.length) (by omega) (by omega)
      have g1 : gI σ1 229 (40 * k + P.length) = nI x.2 := by
        rw [e3.iA (by omega) (by omega) (by rw [tg_229 hS]; omega) (by unfold XPi; omega), hu.iA (by omega) (by omega) (by rw [tg_229 h0]; omega) (by unfold XPi; omega)]; exact s1
      have gz : gI σ1 233 p = nI z := by
        rw [e3.i (by omega) (by omega) (by omega) (by unfold XPi; omega), hu.i (by omega) (by omega) (by omega) (by unfold XPi; omega)]; exact hz0
      have er : rch F (x :: SS) = x.2 := by
        show (if evL F 64 x.1 [] = some [1] then x.2 else rch F SS) = x.2
        rw [if_pos (by rw [v2, q])]
      refine ⟨σ1, ?_, e2, e3⟩
      rw [if_pos q] at e1
      rw [q_X12_ruled_4, tg_176 hS, if_pos rfl, gR_176_65 hS, zeR_e, if_pos ak, ixn (by omega), gn, if_neg le, if_pos rfl, e1, zbI_e, if_neg (show ¬ (1 : Int32) = 0 by decide), tg_176 e2, if_pos rfl, gR_176_66 e2, zeR_e, if_pos aw, if_pos rfl, ixn (by omega), g1, r_cut e2 hp gz hz hx.2.1, zbI_e, er]
    · obtain ⟨σ2, f1, f2, f3⟩ := r_ru hk hp hF hfa h0 hw h40 h16 hn hR hcd hz0 hz SS (P ++ [x]) σ1 (by rw [hL, List.append_assoc]; rfl) e2 (hu.trans e3)
      have q0 : v = 0 := by
        rcases v1 with z | z
        · exact z
        · exact absurd z q
      have er : rch F (x :: SS) = rch F SS := by
        show (if evL F 64 x.1 [] = some [1] then x.2 else rch F SS) = rch F SS
        rw [if_neg (by
          rw [v2, q0]
          intro z
          cases z)]
      have ep : 40 * k + P.length + 1 = 40 * k + (P ++ [x]).length := by
        rw [List.length_append]
        rfl
      refine ⟨σ2, ?_, f2, e3.trans f3⟩
      rw [if_neg q] at e1
      rw [q_X12_ruled_4, tg_176 hS, if_pos rfl, gR_176_65 hS, zeR_e, if_pos ak, ixn (by omega), gn, if_neg le, if_pos rfl, e1, zbI_e, if_pos rfl, nI_1, ep, f1, er]
end
