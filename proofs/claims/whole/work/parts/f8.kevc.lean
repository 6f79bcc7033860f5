/-! rules reckoned: a statement run by the class -/
def fx (c : Nat) : Nat := if c = 18 then 4 else if 30 ≤ c then c - 25 else c - 7
def CFa (σ : zS) (F : Nat → Int) : Prop := ∀ c, isF c = true → gI σ 114 (fx c) = eI (F c)
def CRo (σ : zS) (k r : Nat) (L : List Nat) : Prop := gR σ 13 k = some r ∧ tg σ r = 32 ∧ ln σ r = L.length ∧ L.length < 1600 ∧ 253 ≤ r ∧ ∀ i, i < L.length → gI σ r i = cOf (L.getD i 0)
section
variable {σ σ' : zS} {S S1 : List Int} {L : List Nat} {F : Nat → Int} {a b x : Int} {k r i c : Nat}
theorem c_rk (hc : (1 ≤ c ∧ c ≤ 6) ∨ (11 ≤ c ∧ c ≤ 13)) (ha : okN a) (hb : okN b) : zM 50 [.int (cOf c), .int (eI a), .int (eI b)] σ = some (some (.int (eI (opN c a b))), σ) := by
  rcases (show c = 1 ∨ c = 2 ∨ c = 3 ∨ c = 4 ∨ c = 5 ∨ c = 6 ∨ c = 11 ∨ c = 12 ∨ c = 13 by omega) with rfl | rfl | rfl | rfl | rfl | rfl | rfl | rfl | rfl
  · exact c_rk1 ha hb
  · exact c_rk2 ha hb
  · exact c_rk3 ha hb
  · exact c_rk4 ha hb
  · exact c_rk5 ha hb
  · exact c_rk6 ha hb
  · exact c_rk11 ha hb
  · exact c_rk12 ha hb
  · exact c_rk13 ha hb
theorem c_rkb (hc : c = 14 ∨ c = 15) (ha : okB a) (hb : okB b) : zM 50 [.int (cOf c), .int (eI a), .int (eI b)] σ = some (some (.int (eI (opN c a b))), σ) := by
  rcases hc with rfl | rfl
  · exact c_rk14 ha hb
  · exact c_rk15 ha hb
theorem eI_nat (n : Nat) : eI (n : Int) = nI n := by
  unfold eI nI
  exact Int32.ofInt_eq_ofNat
theorem CRo_un (h : CRo σ k r L) (hk : k < 3) (u : Un XSt σ σ') : CRo σ' k r L := by
  obtain ⟨h1, h2, h3, h4, h5, h6⟩ := h
  refine ⟨?_, ?_, ?_, h4, h5, fun i hi => ?_⟩
  · rw [u.r (by omega) (by omega) (by omega) (by unfold XSt; omega)]; exact h1
  · rw [tg_of1 u.1]; exact h2
  · rw [ln_of1 u.1]; exact h3
  · rw [u.2.2 r i h5 h2]; exact h6 i hi
theorem fx_lt : ∀ c, c < 33 → isF c = true → fx c < 8 := by decide +kernel
theorem isF_33 (h : isF c = true) : c < 33 := by
  have := of_decide_eq_true h
  omega
theorem CFa_un (h : CFa σ F) (u : Un XSt σ σ') : CFa σ' F := fun c hc => by
  have := fx_lt c (isF_33 hc) hc
  rw [u.i (by omega) (by omega) (by omega) (by unfold XSt; omega)]
  exact h c hc
theorem c_hd (hS : Sh σ) (hk : k < 3) (hr : CRo σ k r L) (hi : i < L.length) (hc : L.getD i 0 = c) (u4 u5 : Option Value) : zR 4 47 11 [some (.ref 12), some (.int (nI k)), some (.ref 114), some (.int (nI i)), u4, u5] [] σ = (if cOf c < 0 then (if (-40) < cOf c then (if (-20) < cOf c then (if cOf c = (-12) then zbI (zM 49 [.ref 12] σ) (fun x5 σ5 => if tg σ5 12 = 7 then zbV (zM 48 [.ref 12, .int (1 - x5)] σ5) (fun σ6 => zR 4 47 61 [some (.ref 12), some (.int (nI k)), some (.ref 114), some (.int (nI i)), some (.int (cOf c)), u5] [] σ6) else none) else zbI (zM 49 [.ref 12] σ) (fun x7 σ7 => zR 4 47 65 [some (.ref 12), some (.int (nI k)), some (.ref 114), some (.int (nI i)), some (.int (cOf c)), some (.int x7)] [] σ7)) else (if ai σ 32 48 114 ((-20) - cOf c) = true then zbV (zM 48 [.ref 12, .int (gI σ 114 (ix ((-20) - cOf c)))] σ) (fun σ8 => zR 4 47 11 [some (.ref 12), some (.int (nI k)), some (.ref 114), some (.int (nI i + 1)), some (.int (cOf c)), u5] [] σ8) else none)) else zbI (zM 49 [.ref 12] σ) (fun x9 σ9 => if x9 = 0 then zR 4 47 11 [some (.ref 12), some (.int (nI k)), some (.ref 114), some (.int (nI i + 1)), some (.int (cOf c)), u5] [] σ9 else some (some (.int ((-40) - cOf c)), σ9))) else zbV (zM 48 [.ref 12, .int (cOf c)] σ) (fun σ10 => zR 4 47 11 [some (.ref 12), some (.int (nI k)), some (.ref 114), some (.int (nI i + 1)), some (.int (cOf c)), u5] [] σ10)) := by
  obtain ⟨r1, r2, r3, r4, r5, r6⟩ := hr
  have hv : gI σ r i = cOf c := by rw [r6 i hi, hc]
  have a13 := ai_nI (σ := σ) (t := 80) (u := 80) (.inl (tg_13 hS)) (ln_13 hS) hk (by omega)
  have ar := ai_nI (σ := σ) (t := 32) (u := 48) (.inl r2) r3 hi (by omega)
  have xk : ix (nI k) = k := ixn (by omega)
  have xi : ix (nI i) = i := ixn (by omega)
  have nl : ¬ Int32.ofNat (ln σ r) ≤ nI i := by
    rw [r3]
    show ¬ nI L.length ≤ nI i
    rw [nI_leI (by omega) (by omega)]
    omega
  rw [q_X6_choose_11]
  simp -implicitDefEqProofs only [tg_sI, ln_sI, tg_sL, ln_sL, tg_sR, ln_sR, tg_sC, ln_sC, ai_sI, ai_sL, gL_sI, gR_sI, gI_sL, gR_sL, gI_sR, gL_sR, gI_sI, gL_sL, gR_sR, zlt_e, zln_e, zli_e, zll_e, zbI_e, zbL_e, zbR_e, zbV_e, zeR_e, zeN_s, zeN_n, Nat.reduceEqDiff, and_self, and_true, true_and, and_false, false_and, ite_true, ite_false, reduceIte, tg_12 hS, gR_12_1 hS, a13, xk, r1, r2, if_neg nl, ar, xi, hv, Nat.le_refl]
theorem c_stp (hS : Sh σ) (hk : k < 3) (hr : CRo σ k r L) (hf : CFa σ F) (hst : CSt σ S) (hi : i < L.length) (hc : L.getD i 0 = c) (hc2 : c < 11000) (he : ev1 F 64 c S = some S1) (u4 u5 : Option Value) : ∃ σ' w4 w5, zR 4 47 11 [some (.ref 12), some (.int (nI k)), some (.ref 114), some (.int (nI i)), u4, u5] [] σ = zR 4 47 11 [some (.ref 12), some (.int (nI k)), some (.ref 114), some (.int (nI (i + 1))), w4, w5] [] σ' ∧ Sh σ' ∧ Un XSt σ σ' ∧ CSt σ' S1 := by
  have hd := c_hd hS hk hr hi hc u4 u5
  unfold ev1 at he
  by_cases q1 : 1000 ≤ c
  · rw [if_pos q1] at he
    by_cases hl : S.length < 64
    · rw [if_pos hl] at he
      cases he
      obtain ⟨σ', p1, p2, p3, p4⟩ := c_psh ((c - 1000 : Nat) : Int) hS hst hl
      have e : cOf c = eI ((c - 1000 : Nat) : Int) := by
        unfold cOf
        rw [if_neg (by omega), if_pos q1, eI_nat]
      have n0 : ¬ cOf c < 0 := by
        rw [e, eI_nat, Int32.lt_iff_toInt_lt, nI_toInt (by omega)]
        have e0 : (0 : Int32).toInt = 0 := rfl
        omega
      refine ⟨σ', some (.int (cOf c)), u5, ?_, p2, p3, p4⟩
      rw [hd, if_neg n0, e, p1, zbV_e, nI_1]
    · rw [if_neg hl] at he
      cases he
  rw [if_neg q1] at he
  by_cases q2 : c = 17
  · rw [if_pos q2] at he
    by_cases hl : S.length < 64
    · rw [if_pos hl] at he
      cases he
      obtain ⟨σ', p1, p2, p3, p4⟩ := c_psh 1 hS hst hl
      have e : cOf c = eI 1 := by rw [q2]; decide +kernel
      have n0 : ¬ cOf c < 0 := by rw [q2]; decide +kernel
      refine ⟨σ', some (.int (cOf c)), u5, ?_, p2, p3, p4⟩
      rw [hd, if_neg n0, e, p1, zbV_e, nI_1]
    · rw [if_neg hl] at he
      cases he
  rw [if_neg q2] at he
  by_cases q3 : isF c = true
  · rw [if_pos q3] at he
    by_cases hl : S.length < 64
    · rw [if_pos hl] at he
      cases he
      obtain ⟨σ', p1, p2, p3, p4⟩ := c_psh (F c) hS hst hl
      have fc : ∀ c, c < 33 → isF c = true → cOf c < 0 ∧ (-40) < cOf c ∧ ¬ (-20) < cOf c ∧ (-20) - cOf c = nI (fx c) := by decide +kernel
      obtain ⟨f1, f2, f3, f4⟩ := fc c (isF_33 q3) q3
      have f8 := fx_lt c (isF_33 q3) q3
      refine ⟨σ', some (.int (cOf c)), u5, ?_, p2, p3, p4⟩
      rw [hd, if_pos f1, if_pos f2, if_neg f3, f4, if_pos (ai_nI (.inl (tg_114 hS)) (ln_114 hS) f8 (by omega)), ixn (by omega), hf c q3, p1, zbV_e, nI_1]
    · rw [if_neg hl] at he
      cases he
  rw [if_neg q3] at he
  cases S with
  | nil => cases he
  | cons b S2 =>
    dsimp only at he
    obtain ⟨σ5, o1, o2, o3, o4⟩ := c_pp hS hst
    by_cases q4 : c = 16
    · rw [if_pos q4] at he
      by_cases hb : b = 0 ∨ b = 1
      · rw [if_pos hb] at he
        cases he
        have l2 : S2.length + 1 ≤ 64 := hst.2.1
        obtain ⟨σ', p1, p2, p3, p4⟩ := c_psh (1 - b) o2 o4 (by omega)
        have fc : cOf 16 < 0 ∧ (-40) < cOf 16 ∧ (-20) < cOf 16 ∧ cOf 16 = (-12) := by decide +kernel
        rw [q4] at hd
        have e1 : 1 - eI b = eI (1 - b) := by
          rw [show (1 : Int32) = Int32.ofInt 1 by decide +kernel]
          exact (Int32.ofInt_sub 1 b).symm
        refine ⟨σ', some (.int (cOf 16)), u5, ?_, p2, o3.trans p3, p4⟩
        rw [hd, if_pos fc.1, if_pos fc.2.1, if_pos fc.2.2.1, if_pos fc.2.2.2, o1, zbI_e, tg_12 o2, if_pos rfl, e1, p1, zbV_e, q_X6_choose_61, nI_1]
      · rw [if_neg hb] at he
        cases he
    rw [if_neg q4] at he
    cases S2 with
    | nil => cases he
    | cons a S3 =>
      dsimp only at he
      have l2 : S3.length + 1 + 1 ≤ 64 := hst.2.1
      obtain ⟨σ6, y1, y2, y3, y4⟩ := c_pp o2 o4
      have fc : ∀ c, c < 16 → 1 ≤ c → isF c = false → cOf c < 0 ∧ (-40) < cOf c ∧ (-20) < cOf c ∧ ¬ cOf c = (-12) := by decide +kernel
      have fin : ∀ v : Int, zM 50 [.int (cOf c), .int (eI a), .int (eI b)] σ6 = some (some (.int (eI v)), σ6) → 1 ≤ c → c < 16 → ∃ σ' w4 w5, zR 4 47 11 [some (.ref 12), some (.int (nI k)), some (.ref 114), some (.int (nI i)), u4, u5] [] σ = zR 4 47 11 [some (.ref 12), some (.int (nI k)), some (.ref 114), some (.int (nI (i + 1))), w4, w5] [] σ' ∧ Sh σ' ∧ Un XSt σ σ' ∧ CSt σ' (v :: S3) := fun v ev c1 c2 => by
        obtain ⟨f1, f2, f3, f4⟩ := fc c c2 c1 (by cases q : isF c with
          | true => exact absurd q q3
          | false => rfl)
        obtain ⟨σ', p1, p2, p3, p4⟩ := c_psh v y2 y4 (by omega)
        refine ⟨σ', some (.int (cOf c)), some (.int (eI b)), ?_, p2, o3.trans (y3.trans p3), p4⟩
        rw [hd, if_pos f1, if_pos f2, if_pos f3, if_neg f4, o1, zbI_e, q_X6_choose_65, tg_12 o2, if_pos rfl, y1, zbI_e, ev, zbI_e, tg_12 y2, if_pos rfl, p1, zbV_e, nI_1]
      by_cases q5 : 1 ≤ c ∧ c < 14
      · rw [if_pos q5] at he
        by_cases hab : (-1000000 ≤ a ∧ a ≤ 1000000) ∧ (-1000000 ≤ b ∧ b ≤ 1000000)
        · rw [if_pos hab] at he
          cases he
          have q3' : ¬ ((7 ≤ c ∧ c ≤ 10) ∨ c = 18 ∨ (30 ≤ c ∧ c ≤ 32)) := fun z => q3 (decide_eq_true z)
          exact fin _ (c_rk (by omega) hab.1 hab.2) (by omega) (by omega)
        · rw [if_neg hab] at he
          cases he
      · rw [if_neg q5] at he
        by_cases hab : ((c = 14 ∨ c = 15) ∧ (a = 0 ∨ a = 1)) ∧ (b = 0 ∨ b = 1)
        · rw [if_pos hab] at he
          cases he
          exact fin _ (c_rkb hab.1.1 hab.1.2 hab.2) (by omega) (by omega)
        · rw [if_neg hab] at he
          cases he
end
