/-! how the own words are laid: the class's tokens -/
def owP : Nat → Nat × Nat
  | 0 => (0, 0)
  | i + 1 => match owP i with
    | (w, l) => if zTx.getD i 0 = 32 then (w + 1, 0) else if 6 ≤ l then (w, l) else (w, l + 1)
def owV : Nat → List (Nat × Nat × Int32)
  | 0 => [(8, 9, -1), (8, 7, -1)]
  | i + 1 => if zTx.getD i 0 = 32 then owV i else if 6 ≤ (owP i).2 then owV i else (9, (owP i).1, lkI (owV i) 9 (owP i).1 + ((zTx.getD i 0 - 97) + 1) * zPl.getD (owP i).2 0) :: owV i
section
variable {σ σ' : zS} {L : Nat} {xs : Nat → Int32} {fo : Option Nat} {n a r0 : Nat} {K : List (Nat × Nat)} {W : List (Nat × Nat × Int32)} {R : List (Nat × Nat × Nat)}
theorem owP_ok : ∀ i, i < 174 → (owP i).1 < 35 ∧ (owP i).2 ≤ 6 := by decide +kernel
theorem owP_s (i : Nat) : owP (i + 1) = if zTx.getD i 0 = 32 then ((owP i).1 + 1, 0) else if 6 ≤ (owP i).2 then owP i else ((owP i).1, (owP i).2 + 1) := rfl
theorem owT_ok : ∀ i, i < 174 → (Int32.toUInt32 (zTx.getD i 0 &&& 255) % 65536).toInt32 = zTx.getD i 0 ∧ zfit 5 (zTx.getD i 0) = true := by decide +kernel
theorem BS.pre (h : BS L xs fo n K W R σ) {r : Nat} {q : Nat × Nat} (hq : (zpre L)[r]? = some q) : kd σ r = some q := by
  show σ.1[r]? = some q
  rw [h.1.1, List.getElem?_append_left (List.getElem?_eq_some_iff.mp hq).1]
  exact hq
theorem b_char (h : BS L xs fo n K W R σ) {i : Nat} (hi : i < 174) : zM 329 [.ref 2, .int (nI i)] σ = some (some (.int (zTx.getD i 0)), σ) := by
  have t2 : tg σ 2 = 20 := tg_kd (h.pre (r := 2) rfl)
  have t3 : tg σ 3 = 49 := tg_kd (h.pre (r := 3) rfl)
  have l3 : ln σ 3 = 174 := ln_kd (h.pre (r := 3) rfl)
  have g21 : gI σ 2 1 = 0 := (h.2.1 2 1 (by omega)).1
  have g20 : gR σ 2 0 = some 3 := (h.2.1 2 0 (by omega)).2
  have g40 : gR σ 4 0 = fo := (h.2.1 4 0 (by omega)).2
  have g3 : gI σ 3 i = zTx.getD i 0 := (h.2.1 3 i (by omega)).1
  have e1 : zM 331 [.ref 2] σ = some (some (.int 1), σ) := by
    rw [q_J0_isLatin1_aae02, if_neg (by decide), t2, if_pos rfl, g21, if_pos rfl]
  have c0 : ¬ nI i < 0 := nI_nlt (b := 0) (by omega) (by omega)
  have c1 : nI i < Int32.ofNat 174 := nI_lt (b := 174) hi (by omega)
  have e2 : zM 332 [.int (nI i), .int (Int32.ofNat 174)] σ = some (none, σ) := by
    rw [q_J0_checkIndex_df160, g40]
    cases fo with
    | none => rw [zeN_n, q_J3_checkIndex_8e157_n, if_neg c0, if_pos c1, zbI_e]
    | some v => rw [zeN_s, q_J3_checkIndex_8e157, if_neg c0, if_pos c1, zbI_e]
  have a3 := ai_nI (σ := σ) (t := 33) (u := 49) (.inr t3) l3 hi (by omega)
  obtain ⟨o1, o2⟩ := owT_ok i hi
  rw [q_J0_charAt_5068e, t2, if_pos rfl, e1, zbI_e, if_neg (by decide), t2, if_pos rfl, g20, zeR_e, q_J1_charAt_3b067, t3, if_pos (by decide), l3, e2, zbV_e, if_pos a3, ixn (by omega), g3, o1, if_pos o2, zbI_e, if_pos o2]
theorem b_leng (h : BS L xs fo n K W R σ) : zM 328 [.ref 2] σ = some (some (.int (nI 174)), σ) := by
  have t2 : tg σ 2 = 20 := tg_kd (h.pre (r := 2) rfl)
  have t3 : tg σ 3 = 49 := tg_kd (h.pre (r := 3) rfl)
  have l3 : ln σ 3 = 174 := ln_kd (h.pre (r := 3) rfl)
  have g21 : gI σ 2 1 = 0 := (h.2.1 2 1 (by omega)).1
  have g20 : gR σ 2 0 = some 3 := (h.2.1 2 0 (by omega)).2
  have e1 : zM 330 [.ref 2] σ = some (some (.int 0), σ) := by
    rw [q_J0_coder_7d493, if_neg (by decide), t2, if_pos rfl, g21, if_pos (by decide)]
  rw [q_J0_length_8abf5, t2, if_pos rfl, g20, zeR_e, t3, if_pos (by decide), if_pos rfl, e1, zbI_e, l3, show (Int32.ofNat 174 >>> ((0 : Int32) &&& 31)) = nI 174 by decide +kernel]
theorem b_X10 (h : BS L xs fo 9 K [] R σ) (hk : kd σ 8 = some (11, 10)) : ∃ σ', zM 91 [.ref 8] σ = some (none, σ') ∧ BS L xs fo 11 ((K ++ [(32, 35)]) ++ [(33, 0)]) (owV 174) ((8, 1, 10) :: (8, 0, 9) :: R) σ' ∧ Ex 9 (fun r => r = 8) σ σ' := by
  have z1 : Jvm.Pilot.@@N@@.sz σ = 9 := h.sz
  have h1 : BS L xs fo 10 (K ++ [(32, 35)]) [] R (sN σ 32 35) := h.wN 32 35
  have k1 : kd (sN σ 32 35) 8 = some (11, 10) := kdN hk
  have h2 : BS L xs fo 10 (K ++ [(32, 35)]) [] ((8, 0, 9) :: R) (sR (sN σ 32 35) 8 0 (some 9)) := h1.wR ⟨by omega, by omega⟩ 0 9
  have k2 : kd (sR (sN σ 32 35) 8 0 (some 9)) 8 = some (11, 10) := k1
  have z2 : Jvm.Pilot.@@N@@.sz (sR (sN σ 32 35) 8 0 (some 9)) = 10 := h2.sz
  have h3 : BS L xs fo 11 ((K ++ [(32, 35)]) ++ [(33, 0)]) [] ((8, 0, 9) :: R) (sN (sR (sN σ 32 35) 8 0 (some 9)) 33 0) := h2.wN 33 0
  have k3 : kd (sN (sR (sN σ 32 35) 8 0 (some 9)) 33 0) 8 = some (11, 10) := kdN k2
  have k9 : kd (sN (sR (sN σ 32 35) 8 0 (some 9)) 33 0) 9 = some (32, 35) := kdN (kdNn h 32 35)
  obtain ⟨s6, q6⟩ : ∃ s6, s6 = sI (sI (sR (sN (sR (sN σ 32 35) 8 0 (some 9)) 33 0) 8 1 (some 10)) 8 7 (-1)) 8 9 (-1) := ⟨_, rfl⟩
  have h6 : BS L xs fo 11 ((K ++ [(32, 35)]) ++ [(33, 0)]) (owV 0) ((8, 1, 10) :: (8, 0, 9) :: R) s6 := by
    rw [q6]
    exact ((h3.wR (r := 8) ⟨by omega, by omega⟩ 1 10).wI (r := 8) ⟨by omega, by omega⟩ 7 (-1)).wI (r := 8) ⟨by omega, by omega⟩ 9 (-1)
  have k86 : kd s6 8 = some (11, 10) := by rw [q6]; exact k3
  have k96 : kd s6 9 = some (32, 35) := by rw [q6]; exact k9
  have ex6 : Ex 9 (fun r => r = 8) σ s6 := by
    rw [q6]
    exact Ex.trans (Ex.trans (Ex.trans (Ex.trans (Ex.trans (ExN h (fun r => r = 8) 32 35) (ExR 10 (E := fun r => r = 8) rfl 0 (some 9)) (by omega) (fun r _ y => y)) (ExN h2 (fun r => r = 8) 33 0) (by omega) (fun r _ y => y)) (ExR 11 (E := fun r => r = 8) rfl 1 (some 10)) (by omega) (fun r _ y => y)) (ExI 11 (fun r => r = 8) 8 7 (-1)) (by omega) (fun r _ y => y)) (ExI 11 (fun r => r = 8) 8 9 (-1)) (by omega) (fun r _ y => y)
  obtain ⟨⟨s7, u7⟩, e7, h7, k87, k97, ex7⟩ := lp_run (F := fun i (g : zS × Option Value) => zR 5 91 22 [some (.ref 8), some (.int (nI (owP i).1)), some (.int (nI (owP i).2)), some (.int (nI i)), g.2] [] g.1) (fun i g => BS L xs fo 11 ((K ++ [(32, 35)]) ++ [(33, 0)]) (owV i) ((8, 1, 10) :: (8, 0, 9) :: R) g.1 ∧ kd g.1 8 = some (11, 10) ∧ kd g.1 9 = some (32, 35) ∧ Ex 9 (fun r => r = 8) σ g.1) 174 (by
    rintro i ⟨g, u⟩ hi ⟨h7, k8, k9, ex⟩
    have h7 : BS L xs fo 11 ((K ++ [(32, 35)]) ++ [(33, 0)]) (owV i) ((8, 1, 10) :: (8, 0, 9) :: R) g := h7
    have k8 : kd g 8 = some (11, 10) := k8
    have k9 : kd g 9 = some (32, 35) := k9
    have ex : Ex 9 (fun r => r = 8) σ g := ex
    obtain ⟨o1, o2⟩ := owP_ok i hi
    have t2 : tg g 2 = 20 := tg_kd (h7.pre (r := 2) rfl)
    have go : zR 5 91 22 [some (.ref 8), some (.int (nI (owP i).1)), some (.int (nI (owP i).2)), some (.int (nI i)), u] [] g = if zTx.getD i 0 = 32 then zR 5 91 22 [some (.ref 8), some (.int (nI ((owP i).1 + 1))), some (.int 0), some (.int (nI (i + 1))), some (.int (zTx.getD i 0))] [] g else if 6 ≤ nI (owP i).2 then zR 5 91 22 [some (.ref 8), some (.int (nI (owP i).1)), some (.int (nI (owP i).2)), some (.int (nI (i + 1))), some (.int (zTx.getD i 0))] [] g else zR 5 91 43 [some (.ref 8), some (.int (nI (owP i).1)), some (.int (nI (owP i).2)), some (.int (nI i)), some (.int (zTx.getD i 0))] [] g := by
      rw [q_X10_init_22, t2, if_pos rfl, b_leng h7, zbI_e, if_neg (nI_ge hi (by omega)), if_neg (show ¬ (35 : Int32) ≤ nI (owP i).1 from nI_ge (b := 35) o1 (by omega)), t2, if_pos rfl, b_char h7 hi, zbI_e, nI_1, nI_1]
    have hs := owP_s i
    by_cases q1 : zTx.getD i 0 = 32
    · rw [if_pos q1] at hs
      have hv : owV (i + 1) = owV i := if_pos q1
      refine ⟨(g, some (.int (zTx.getD i 0))), ?_, by rw [hv]; exact h7, k8, k9, ex⟩
      show zR 5 91 22 [some (.ref 8), some (.int (nI (owP i).1)), some (.int (nI (owP i).2)), some (.int (nI i)), u] [] g = zR 5 91 22 [some (.ref 8), some (.int (nI (owP (i + 1)).1)), some (.int (nI (owP (i + 1)).2)), some (.int (nI (i + 1))), some (.int (zTx.getD i 0))] [] g
      rw [go, if_pos q1, hs]
      rfl
    · rw [if_neg q1] at hs go
      by_cases q2 : 6 ≤ (owP i).2
      · rw [if_pos q2] at hs
        have hv : owV (i + 1) = owV i := (if_neg q1).trans (if_pos q2)
        refine ⟨(g, some (.int (zTx.getD i 0))), ?_, by rw [hv]; exact h7, k8, k9, ex⟩
        show zR 5 91 22 [some (.ref 8), some (.int (nI (owP i).1)), some (.int (nI (owP i).2)), some (.int (nI i)), u] [] g = zR 5 91 22 [some (.ref 8), some (.int (nI (owP (i + 1)).1)), some (.int (nI (owP (i + 1)).2)), some (.int (nI (i + 1))), some (.int (zTx.getD i 0))] [] g
        rw [go, if_pos (show (6 : Int32) ≤ nI (owP i).2 from nI_le (a := 6) q2 (by omega)), hs]
      · rw [if_neg q2] at hs
        have hv : owV (i + 1) = (9, (owP i).1, lkI (owV i) 9 (owP i).1 + ((zTx.getD i 0 - 97) + 1) * zPl.getD (owP i).2 0) :: owV i := (if_neg q1).trans (if_neg q2)
        have a9 := ai_nI (σ := g) (t := 32) (u := 48) (.inl (tg_kd k9)) (ln_kd k9) o1 (by omega)
        have a9' := ai_nI (σ := g) (t := 32) (u := 32) (.inl (tg_kd k9)) (ln_kd k9) o1 (by omega)
        have a1 := ai_nI (σ := g) (t := 32) (u := 48) (.inr (tg_kd (h7.pre (r := 1) rfl))) (ln_kd (h7.pre (r := 1) rfl)) (show (owP i).2 < 6 by omega) (by omega)
        have g80 : gR g 8 0 = some 9 := h7.gr (by omega) 0
        have g9 : gI g 9 (owP i).1 = lkI (owV i) 9 (owP i).1 := h7.gi (by omega) _
        have g1 : gI g 1 (owP i).2 = zPl.getD (owP i).2 0 := (h7.2.1 1 _ (by omega)).1
        have x1 : ix (nI (owP i).1) = (owP i).1 := ixn (by omega)
        have x2 : ix (nI (owP i).2) = (owP i).2 := ixn (by omega)
        refine ⟨(sI g 9 (owP i).1 (lkI (owV i) 9 (owP i).1 + ((zTx.getD i 0 - 97) + 1) * zPl.getD (owP i).2 0), some (.int (zTx.getD i 0))), ?_, by rw [hv]; exact h7.wI ⟨by omega, by omega⟩ _ _, k8, k9, Ex.trans ex (ExI 9 (fun r => r = 8) 9 (owP i).1 _) (by omega) (fun r _ y => y)⟩
        show zR 5 91 22 [some (.ref 8), some (.int (nI (owP i).1)), some (.int (nI (owP i).2)), some (.int (nI i)), u] [] g = zR 5 91 22 [some (.ref 8), some (.int (nI (owP (i + 1)).1)), some (.int (nI (owP (i + 1)).2)), some (.int (nI (i + 1))), some (.int (zTx.getD i 0))] [] (sI g 9 (owP i).1 (lkI (owV i) 9 (owP i).1 + ((zTx.getD i 0 - 97) + 1) * zPl.getD (owP i).2 0))
        rw [go, if_neg (show ¬ (6 : Int32) ≤ nI (owP i).2 from nI_ge (b := 6) (by omega) (by omega)), q_X10_init_43, tg_kd k8, if_pos rfl, g80, zeR_e, if_pos a9, if_pos a1, if_pos a9', x1, x2, g9, g1, zlt_e, nI_1, nI_1, hs]) (s6, none) ⟨h6, k86, k96, ex6⟩
  refine ⟨s7, ?_, h7, ex7⟩
  have h7 : BS L xs fo 11 ((K ++ [(32, 35)]) ++ [(33, 0)]) (owV 174) ((8, 1, 10) :: (8, 0, 9) :: R) s7 := h7
  have t2 : tg s7 2 = 20 := tg_kd (h7.pre (r := 2) rfl)
  rw [q_X10_init, zln_e, zlt_e, z1, show ix (35 : Int32) = 35 from rfl, tg_kd k1, if_pos rfl, zlt_e, zln_e, zlt_e, z2, show ix (0 : Int32) = 0 from rfl, tg_kd k3, if_pos rfl, zlt_e, tg_sR, tg_kd k3, if_pos rfl, zlt_e, tg_sI, tg_sR, tg_kd k3, if_pos rfl, zlt_e, ← q6]
  refine Eq.trans e7 ?_
  show zR 5 91 22 [some (.ref 8), some (.int (nI (owP 174).1)), some (.int (nI (owP 174).2)), some (.int (nI 174)), u7] [] s7 = _
  rw [q_X10_init_22, t2, if_pos rfl, b_leng h7, zbI_e, if_pos (show nI 174 ≤ nI 174 from Int32.le_refl _)]
end
