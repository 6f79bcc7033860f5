/-! rules reckoned: a rule run by the class -/
def rch (F : Nat → Int) : List (List Nat × Nat) → Nat
  | [] => 0
  | x :: SS => if evL F 64 x.1 [] = some [1] then x.2 else rch F SS
section
variable {σ σ' : zS} {S' : List Int} {L : List Nat} {F : Nat → Int} {a b x : Int} {k r i c : Nat}
theorem gd_r (A B : List Nat) (j : Nat) : (A ++ B).getD (A.length + j) 0 = B.getD j 0 := by
  rw [List.getD_eq_getElem?_getD, List.getD_eq_getElem?_getD, List.getElem?_append_right (Nat.le_add_right _ _), Nat.add_sub_cancel_left]
theorem gd_l (A B : List Nat) (j : Nat) (h : j < A.length) : (A ++ B).getD j 0 = A.getD j 0 := by
  rw [List.getD_eq_getElem?_getD, List.getD_eq_getElem?_getD, List.getElem?_append_left h]
theorem c_rl (hk : k < 3) : ∀ (cs : List Nat) (i : Nat) (σ : zS) (S : List Int) (u4 u5 : Option Value), i + cs.length ≤ L.length → (∀ j, j < cs.length → L.getD (i + j) 0 = cs.getD j 0) → (∀ c, c ∈ cs → c < 11000) → Sh σ → CRo σ k r L → CFa σ F → CSt σ S → evL F 64 cs S = some S' → ∃ σ' w4 w5, zR 4 47 11 [some (.ref 12), some (.int (nI k)), some (.ref 114), some (.int (nI i)), u4, u5] [] σ = zR 4 47 11 [some (.ref 12), some (.int (nI k)), some (.ref 114), some (.int (nI (i + cs.length))), w4, w5] [] σ' ∧ Sh σ' ∧ Un XSt σ σ' ∧ CSt σ' S'
  | [], i, σ, S, u4, u5, _, _, _, hS, _, _, hst, he => by
    have he : some S = some S' := he
    cases he
    exact ⟨σ, u4, u5, rfl, hS, Un.refl _ _, hst⟩
  | c :: cs, i, σ, S, u4, u5, hl, hj, hc, hS, hr, hf, hst, he => by
    have hl : i + (cs.length + 1) ≤ L.length := hl
    cases h1 : ev1 F 64 c S with
    | none =>
      have he : (match ev1 F 64 c S with | none => none | some S1 => evL F 64 cs S1) = some S' := he
      rw [h1] at he
      cases he
    | some S1 =>
      have he : (match ev1 F 64 c S with | none => none | some S1 => evL F 64 cs S1) = some S' := he
      rw [h1] at he
      obtain ⟨σ1, w4, w5, e1, e2, e3, e4⟩ := c_stp (i := i) hS hk hr hf hst (by omega) (hj 0 (Nat.succ_pos _)) (hc c (List.mem_cons_self ..)) h1 u4 u5
      obtain ⟨σ2, v4, v5, f1, f2, f3, f4⟩ := c_rl hk cs (i + 1) σ1 S1 w4 w5 (by omega) (fun j q => by
        have := hj (j + 1) (Nat.succ_lt_succ q)
        rw [show i + 1 + j = i + (j + 1) by omega]
        exact this) (fun c q => hc c (List.mem_cons_of_mem _ q)) e2 (CRo_un hr hk e3) (CFa_un hf e3) e4 he
      refine ⟨σ2, v4, v5, ?_, f2, e3.trans f3, f4⟩
      rw [e1, f1, show i + 1 + cs.length = i + (c :: cs).length by
        show i + 1 + cs.length = i + (cs.length + 1)
        omega]
theorem eb_v (h : EB 24 L) (hF : okF F) : ∃ v, okB v ∧ evL F 64 L [] = some [v] := by
  obtain ⟨v, h1, h2⟩ := h.2 F 64 [] [] hF (by show 0 + 24 ≤ 64; omega)
  rw [List.append_nil] at h2
  exact ⟨v, h1, h2⟩
theorem c_ch (hk : k < 3) (hF : okF F) : ∀ (SS : List (List Nat × Nat)) (P : List Nat) (σ : zS) (u4 u5 : Option Value), wfS SS → L = P ++ lc SS → Sh σ → CRo σ k r L → CFa σ F → CSt σ [] → ∃ σ', zR 4 47 11 [some (.ref 12), some (.int (nI k)), some (.ref 114), some (.int (nI P.length)), u4, u5] [] σ = some (some (.int (nI (rch F SS))), σ') ∧ Sh σ' ∧ Un XSt σ σ'
  | [], P, σ, u4, u5, _, hL, hS, hr, _, _ => by
    have hL : L = P ++ [] := hL
    rw [List.append_nil] at hL
    obtain ⟨r1, r2, r3, r4, r5, r6⟩ := hr
    have a13 := ai_nI (σ := σ) (t := 80) (u := 80) (.inl (tg_13 hS)) (ln_13 hS) hk (by omega)
    have xk : ix (nI k) = k := ixn (by omega)
    have nl : Int32.ofNat (ln σ r) ≤ nI P.length := by
      rw [r3, hL]
      show nI P.length ≤ nI P.length
      exact Int32.le_refl _
    refine ⟨σ, ?_, hS, Un.refl _ _⟩
    rw [q_X6_choose_11]
    simp -implicitDefEqProofs only [tg_sI, ln_sI, tg_sL, ln_sL, tg_sR, ln_sR, tg_sC, ln_sC, ai_sI, ai_sL, gL_sI, gR_sI, gI_sL, gR_sL, gI_sR, gL_sR, gI_sI, gL_sL, gR_sR, zlt_e, zln_e, zli_e, zll_e, zbI_e, zbL_e, zbR_e, zbV_e, zeR_e, zeN_s, zeN_n, Nat.reduceEqDiff, and_self, and_true, true_and, and_false, false_and, ite_true, ite_false, reduceIte, tg_12 hS, gR_12_1 hS, a13, xk, r1, r2, if_pos nl, Nat.le_refl]
    rfl
  | x :: SS, P, σ, u4, u5, hw, hL, hS, hr, hf, hst => by
    have hx := hw x (List.mem_cons_self ..)
    obtain ⟨v, v1, v2⟩ := eb_v hx.1 hF
    have e0 : lc (x :: SS) = x.1 ++ ([20000 + x.2] ++ lc SS) := by
      unfold lc
      rw [List.flatMap_cons, List.append_assoc]
    rw [e0] at hL
    have hlen : L.length = P.length + (x.1.length + (1 + (lc SS).length)) := by
      rw [hL, List.length_append, List.length_append, List.length_append]
      rfl
    have h16 := hr.2.2.2.1
    obtain ⟨σ1, w4, w5, e1, e2, e3, e4⟩ := c_rl (L := L) (r := r) (F := F) (S' := [v]) hk x.1 P.length σ [] u4 u5 (by omega) (fun j q => by rw [hL, gd_r, gd_l _ _ _ q]) hx.1.1 hS hr hf hst v2
    have hr1 := CRo_un hr hk e3
    have hd := c_hd (i := P.length + x.1.length) (c := 20000 + x.2) e2 hk hr1 (by omega) (by rw [hL, gd_r, show x.1.length = x.1.length + 0 by omega, gd_r]; rfl) w4 w5
    have ec : cOf (20000 + x.2) = -40 - nI x.2 := by
      unfold cOf
      rw [if_pos (by omega), Nat.add_sub_cancel_left]
    have fc : ∀ b, b < 32 → -40 - nI b < 0 ∧ ¬ (-40) < -40 - nI b ∧ -40 - (-40 - nI b) = nI b := by decide +kernel
    obtain ⟨f1, f2, f3⟩ := fc x.2 hx.2.1
    obtain ⟨σ2, p1, p2, p3, p4⟩ := c_pp e2 e4
    rw [ec, if_pos f1, if_neg f2, p1, zbI_e, f3] at hd
    by_cases q : v = 1
    · refine ⟨σ2, ?_, p2, e3.trans p3⟩
      rw [e1, hd, if_neg (show ¬ eI v = 0 by rw [q]; decide +kernel)]
      show _ = some (some (Value.int (nI (if evL F 64 x.1 [] = some [1] then x.2 else rch F SS))), σ2)
      rw [if_pos (by rw [v2, q])]
    · have q0 : v = 0 := by
        rcases v1 with z | z
        · exact z
        · exact absurd z q
      obtain ⟨σ3, g1, g2, g3⟩ := c_ch hk hF SS (P ++ x.1 ++ [20000 + x.2]) σ2 (some (.int (-40 - nI x.2))) w5 (fun y hy => hw y (List.mem_cons_of_mem _ hy)) (by rw [hL, List.append_assoc, List.append_assoc]) p2 (CRo_un hr1 hk p3) (CFa_un (CFa_un hf e3) p3) p4
      refine ⟨σ3, ?_, g2, e3.trans (p3.trans g3)⟩
      have el : (P ++ x.1 ++ [20000 + x.2]).length = P.length + x.1.length + 1 := by
        rw [List.length_append, List.length_append]
        rfl
      rw [el] at g1
      rw [e1, hd, if_pos (show eI v = 0 by rw [q0]; decide +kernel), nI_1, g1]
      show _ = some (some (Value.int (nI (if evL F 64 x.1 [] = some [1] then x.2 else rch F SS))), σ3)
      rw [if_neg (by
        rw [v2, q0]
        intro z
        cases z)]
theorem c_thY (hS : Sh σ) (hk : k < 3) (h : gR σ 13 k = some r) : zM 45 [.ref 12, .int (nI k)] σ = some (some (.int 1), σ) := by
  have a13 := ai_nI (σ := σ) (t := 80) (u := 80) (.inl (tg_13 hS)) (ln_13 hS) hk (by omega)
  have fc : ∀ k, k < 3 → ¬ nI k < 0 ∧ ¬ 3 ≤ nI k := by decide +kernel
  rw [q_X6_isThere, if_neg (fc k hk).1, if_neg (fc k hk).2, tg_12 hS, if_pos rfl, gR_12_1 hS, zeR_e, if_pos a13, ixn (by omega), h, zeN_s]
theorem c_thN (hS : Sh σ) (hk : k < 3) (h : gR σ 13 k = none) : zM 45 [.ref 12, .int (nI k)] σ = some (some (.int 0), σ) := by
  have a13 := ai_nI (σ := σ) (t := 80) (u := 80) (.inl (tg_13 hS)) (ln_13 hS) hk (by omega)
  have fc : ∀ k, k < 3 → ¬ nI k < 0 ∧ ¬ 3 ≤ nI k := by decide +kernel
  rw [q_X6_isThere, if_neg (fc k hk).1, if_neg (fc k hk).2, tg_12 hS, if_pos rfl, gR_12_1 hS, zeR_e, if_pos a13, ixn (by omega), h, zeN_n]
theorem c_choose {SS : List (List Nat × Nat)} (hS : Sh σ) (hk : k < 3) (hF : okF F) (hw : wfS SS) (hr : CRo σ k r (lc SS)) (hf : CFa σ F) : ∃ σ', zM 47 [.ref 12, .int (nI k), .ref 114] σ = some (some (.int (nI (rch F SS))), σ') ∧ Sh σ' ∧ Un XSt σ σ' := by
  have S1 : Sh (sI σ 12 5 0) := hS.sI (by omega)
  have u1 : Un XSt σ (sI σ 12 5 0) := Un_sI (.inr ⟨rfl, rfl⟩)
  obtain ⟨σ', g1, g2, g3⟩ := c_ch (L := lc SS) (r := r) hk hF SS [] (sI σ 12 5 0) none none hw rfl S1 (CRo_un hr hk u1) (CFa_un hf u1) ⟨by rw [gI_sI, if_pos ⟨rfl, rfl⟩]; rfl, by show 0 ≤ 64; omega, fun i hi => absurd hi (Nat.not_lt_zero i)⟩
  refine ⟨σ', ?_, g2, u1.trans g3⟩
  rw [q_X6_choose, tg_12 hS, if_pos rfl, c_thY hS hk hr.1, zbI_e, if_neg (by decide), tg_12 hS, if_pos rfl, zlt_e]
  exact g1
end
