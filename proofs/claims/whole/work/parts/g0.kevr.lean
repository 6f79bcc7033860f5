/-! rules reckoned: a code run by the reference -/
section
variable {σ σ' : zS} {S S1 : List Int} {F : Nat → Int} {a b x : Int} {p l w m E c : Nat}
theorem r_jn (hc : (1 ≤ c ∧ c ≤ 6) ∨ (11 ≤ c ∧ c ≤ 13)) (hS : Sh σ) (h : RPi σ (b :: a :: S)) (ha : okN a) (hb : okN b) : ∃ σ', zM 267 [.ref 176, .int (nI c)] σ = some (none, σ') ∧ Sh σ' ∧ Un XPi σ σ' ∧ RPi σ' (opN c a b :: S) := by
  rcases (show c = 1 ∨ c = 2 ∨ c = 3 ∨ c = 4 ∨ c = 5 ∨ c = 6 ∨ c = 11 ∨ c = 12 ∨ c = 13 by omega) with rfl | rfl | rfl | rfl | rfl | rfl | rfl | rfl | rfl
  · rw [show nI 1 = (1 : Int32) by decide +kernel]; exact r_j1 hS h ha hb
  · rw [show nI 2 = (2 : Int32) by decide +kernel]; exact r_j2 hS h ha hb
  · rw [show nI 3 = (3 : Int32) by decide +kernel]; exact r_j3 hS h ha hb
  · rw [show nI 4 = (4 : Int32) by decide +kernel]; exact r_j4 hS h ha hb
  · rw [show nI 5 = (5 : Int32) by decide +kernel]; exact r_j5 hS h ha hb
  · rw [show nI 6 = (6 : Int32) by decide +kernel]; exact r_j6 hS h ha hb
  · rw [show nI 11 = (11 : Int32) by decide +kernel]; exact r_j11 hS h ha hb
  · rw [show nI 12 = (12 : Int32) by decide +kernel]; exact r_j12 hS h ha hb
  · rw [show nI 13 = (13 : Int32) by decide +kernel]; exact r_j13 hS h ha hb
theorem r_jb (hc : c = 14 ∨ c = 15) (hS : Sh σ) (h : RPi σ (b :: a :: S)) (ha : okB a) (hb : okB b) : ∃ σ', zM 267 [.ref 176, .int (nI c)] σ = some (none, σ') ∧ Sh σ' ∧ Un XPi σ σ' ∧ RPi σ' (opN c a b :: S) := by
  rcases hc with rfl | rfl
  · rw [show nI 14 = (14 : Int32) by decide +kernel]; exact r_j14 hS h ha hb
  · rw [show nI 15 = (15 : Int32) by decide +kernel]; exact r_j15 hS h ha hb
theorem r_hd (hS : Sh σ) (hw : w < 160) (hm : m < 6400) (hE : gI σ 231 w = nI E) (hE2 : E ≤ 6400) (hmE : m < E) (hc : gI σ 225 m = nI c) (u5 : Option Value) : zR 3 268 8 [some (.ref 176), some (.int (nI p)), some (.int (nI l)), some (.int (nI w)), some (.int (nI m)), u5] [] σ = (if nI c < 1000 then (if nI c = 17 then zbV (zM 266 [.ref 176, .long 1] σ) (fun σ4 => zR 3 268 8 [some (.ref 176), some (.int (nI p)), some (.int (nI l)), some (.int (nI w)), some (.int (nI m + 1)), some (.int (nI c))] [] σ4) else (if nI c = 16 then (if ai σ 36 36 245 ((gI σ 176 88) - 1) = true then (if ai σ 36 36 245 ((gI σ 176 88) - 1) = true then zR 3 268 8 [some (.ref 176), some (.int (nI p)), some (.int (nI l)), some (.int (nI w)), some (.int (nI m + 1)), some (.int (nI c))] [] (sL σ 245 (ix ((gI σ 176 88) - 1)) (1 - (gL σ 245 (ix ((gI σ 176 88) - 1))))) else none) else none) else (zbI (zM 188 [.long (Int32.toInt64 (nI c)), .long 7, .long 10] σ) (fun x8 σ8 => if x8 = 0 then (if nI c = 18 then (zR 3 268 71 [some (.ref 176), some (.int (nI p)), some (.int (nI l)), some (.int (nI w)), some (.int (nI m)), some (.int (nI c))] [] σ8) else (zR 3 268 65 [some (.ref 176), some (.int (nI p)), some (.int (nI l)), some (.int (nI w)), some (.int (nI m)), some (.int (nI c))] [] σ8)) else (zR 3 268 71 [some (.ref 176), some (.int (nI p)), some (.int (nI l)), some (.int (nI w)), some (.int (nI m)), some (.int (nI c))] [] σ8))))) else zbV (zM 266 [.ref 176, .long (Int32.toInt64 (nI c - 1000))] σ) (fun σ9 => zR 3 268 8 [some (.ref 176), some (.int (nI p)), some (.int (nI l)), some (.int (nI w)), some (.int (nI m + 1)), some (.int (nI c))] [] σ9)) := by
  have aw := ai_nI (σ := σ) (t := 32) (u := 48) (.inl (tg_231 hS)) (ln_231 hS) hw (by omega)
  have am := ai_nI (σ := σ) (t := 32) (u := 48) (.inl (tg_225 hS)) (ln_225 hS) hm (by omega)
  have xw : ix (nI w) = w := ixn (by omega)
  have xm : ix (nI m) = m := ixn (by omega)
  have nl : ¬ nI E ≤ nI m := by
    rw [nI_leI (by omega) (by omega)]
    omega
  rw [q_X12_holds_8]
  simp -implicitDefEqProofs only [tg_sI, ln_sI, tg_sL, ln_sL, tg_sR, ln_sR, tg_sC, ln_sC, ai_sI, ai_sL, gL_sI, gR_sI, gI_sL, gR_sL, gI_sR, gL_sR, gI_sI, gL_sL, gR_sR, zlt_e, zln_e, zli_e, zll_e, zbI_e, zbL_e, zbR_e, zbV_e, zeR_e, zeN_s, zeN_n, Nat.reduceEqDiff, and_self, and_true, true_and, and_false, false_and, ite_true, ite_false, reduceIte, tg_176 hS, gR_176_68 hS, gR_176_59 hS, gR_176_87 hS, aw, xw, hE, if_neg nl, am, xm, hc]
theorem r_stp (hS : Sh σ) (hw : w < 160) (hm : m < 6400) (hE : gI σ 231 w = nI E) (hE2 : E ≤ 6400) (hmE : m < E) (hc : gI σ 225 m = nI c) (hc2 : c < 11000) (hF : okF F) (hfa : ∀ c, isF c = true → zM 269 [.ref 176, .int (nI p), .int (nI l), .int (nI c)] σ = some (some (.int (eI (F c))), σ)) (hst : RPi σ S) (he : ev1 F 64 c S = some S1) (u5 : Option Value) : ∃ σ' w5, zR 3 268 8 [some (.ref 176), some (.int (nI p)), some (.int (nI l)), some (.int (nI w)), some (.int (nI m)), u5] [] σ = zR 3 268 8 [some (.ref 176), some (.int (nI p)), some (.int (nI l)), some (.int (nI w)), some (.int (nI (m + 1))), w5] [] σ' ∧ Sh σ' ∧ Un XPi σ σ' ∧ RPi σ' S1 := by
  have hd := r_hd (p := p) (l := l) hS hw hm hE hE2 hmE hc u5
  have i7 : zM 188 [.long (nI c).toInt64, .long 7, .long 10] σ = some (some (.int (if 7 ≤ nI c ∧ nI c ≤ 10 then 1 else 0)), σ) := isInL (by decide +kernel) (by decide +kernel)
  have i30 : zM 188 [.long (nI c).toInt64, .long 30, .long 32] σ = some (some (.int (if 30 ≤ nI c ∧ nI c ≤ 32 then 1 else 0)), σ) := isInL (by decide +kernel) (by decide +kernel)
  unfold ev1 at he
  by_cases q1 : 1000 ≤ c
  · rw [if_pos q1] at he
    by_cases hl : S.length < 64
    · rw [if_pos hl] at he
      cases he
      obtain ⟨σ', p1, p2, p3, p4⟩ := r_pt ((c - 1000 : Nat) : Int) hS hst hl
      have n0 : ¬ nI c < 1000 := by
        rw [nI_ltR (n := 1000) (by omega) (by omega)]
        omega
      have e : (nI c - 1000).toInt64 = eL ((c - 1000 : Nat) : Int) := by
        rw [nI_subR (n := 1000) q1, ← eI_nat, e64 (by unfold okN; omega)]
      refine ⟨σ', some (.int (nI c)), ?_, p2, p3, p4⟩
      rw [hd, if_neg n0, e, p1, zbV_e, nI_1]
    · rw [if_neg hl] at he
      cases he
  rw [if_neg q1] at he
  have l0 : nI c < 1000 := by
    rw [nI_ltR (n := 1000) (by omega) (by omega)]
    omega
  rw [if_pos l0] at hd
  by_cases q2 : c = 17
  · rw [if_pos q2] at he
    by_cases hl : S.length < 64
    · rw [if_pos hl] at he
      cases he
      obtain ⟨σ', p1, p2, p3, p4⟩ := r_pt 1 hS hst hl
      rw [← litu] at p1
      refine ⟨σ', some (.int (nI c)), ?_, p2, p3, p4⟩
      rw [hd, if_pos (show nI c = 17 by rw [q2]; decide +kernel), p1, zbV_e, nI_1]
    · rw [if_neg hl] at he
      cases he
  rw [if_neg q2] at he
  have n17 : ¬ nI c = 17 := fun z => q2 ((nI_eq (a := c) (b := 17) (by omega) (by omega)).mp z)
  rw [if_neg n17] at hd
  by_cases q3 : isF c = true
  · rw [if_pos q3] at he
    by_cases hl : S.length < 64
    · rw [if_pos hl] at he
      cases he
      obtain ⟨σ', p1, p2, p3, p4⟩ := r_pt (F c) hS hst hl
      have fc : ∀ c, c < 33 → isF c = true → ¬ nI c = 16 ∧ ((7 ≤ nI c ∧ nI c ≤ 10) ∨ (¬ (7 ≤ nI c ∧ nI c ≤ 10) ∧ (nI c = 18 ∨ (¬ nI c = 18 ∧ 30 ≤ nI c ∧ nI c ≤ 32)))) := by decide +kernel
      obtain ⟨f1, f2⟩ := fc c (isF_33 q3) q3
      have fin : zR 3 268 71 [some (.ref 176), some (.int (nI p)), some (.int (nI l)), some (.int (nI w)), some (.int (nI m)), some (.int (nI c))] [] σ = zR 3 268 8 [some (.ref 176), some (.int (nI p)), some (.int (nI l)), some (.int (nI w)), some (.int (nI (m + 1))), some (.int (nI c))] [] σ' := by
        rw [q_X12_holds_71, tg_176 hS, if_pos rfl, hfa c q3, zbI_e, tg_176 hS, if_pos rfl, e64 (hF c q3), p1, zbV_e, nI_1]
      refine ⟨σ', some (.int (nI c)), ?_, p2, p3, p4⟩
      rw [hd, if_neg f1, i7, zbI_e]
      rcases f2 with f2 | ⟨f2, f3 | ⟨f3, f4⟩⟩
      · rw [if_pos f2, if_neg (show ¬ (1 : Int32) = 0 by decide)]
        exact fin
      · rw [if_neg f2, if_pos rfl, if_pos f3]
        exact fin
      · rw [if_neg f2, if_pos rfl, if_neg f3, q_X12_holds_65, i30, zbI_e, if_pos f4, if_neg (show ¬ (1 : Int32) = 0 by decide)]
        exact fin
    · rw [if_neg hl] at he
      cases he
  rw [if_neg q3] at he
  cases S with
  | nil => cases he
  | cons b S2 =>
    dsimp only at he
    by_cases q4 : c = 16
    · rw [if_pos q4] at he
      by_cases hb : b = 0 ∨ b = 1
      · rw [if_pos hb] at he
        cases he
        have l2 : S2.length + 1 ≤ 64 := hst.2.1
        obtain ⟨n1, n2, n3, n4, n5⟩ := r_nt hS hst
        refine ⟨_, some (.int (nI c)), ?_, hS.sL, Un_sL (.inl rfl), n1⟩
        rw [hd, if_pos (show nI c = 16 by rw [q4]; decide +kernel), n5, n3, if_pos n4, if_pos n4, ixn (by omega), n2, nI_1]
      · rw [if_neg hb] at he
        cases he
    rw [if_neg q4] at he
    cases S2 with
    | nil => cases he
    | cons a S3 =>
      dsimp only at he
      have fc1 : ∀ c, c < 16 → isF c = false → ¬ (7 ≤ nI c ∧ nI c ≤ 10) := by decide +kernel
      have fc2 : ∀ c, c < 16 → ¬ nI c = 16 ∧ ¬ nI c = 18 := by decide +kernel
      have fc3 : ∀ c, c < 16 → ¬ (30 ≤ nI c ∧ nI c ≤ 32) := by decide +kernel
      have fin : ∀ v : Int, (∃ σ', zM 267 [.ref 176, .int (nI c)] σ = some (none, σ') ∧ Sh σ' ∧ Un XPi σ σ' ∧ RPi σ' (v :: S3)) → 1 ≤ c → c < 16 → ∃ σ' w5, zR 3 268 8 [some (.ref 176), some (.int (nI p)), some (.int (nI l)), some (.int (nI w)), some (.int (nI m)), u5] [] σ = zR 3 268 8 [some (.ref 176), some (.int (nI p)), some (.int (nI l)), some (.int (nI w)), some (.int (nI (m + 1))), w5] [] σ' ∧ Sh σ' ∧ Un XPi σ σ' ∧ RPi σ' (v :: S3) := fun v ev c1 c2 => by
        have f2 := fc1 c c2 (by cases q : isF c with
          | true => exact absurd q q3
          | false => rfl)
        obtain ⟨f1, f3⟩ := fc2 c c2
        have f4 := fc3 c c2
        obtain ⟨σ', p1, p2, p3, p4⟩ := ev
        refine ⟨σ', some (.int (nI c)), ?_, p2, p3, p4⟩
        rw [hd, if_neg f1, i7, zbI_e, if_neg f2, if_pos rfl, if_neg f3, q_X12_holds_65, i30, zbI_e, if_neg f4, if_pos rfl, tg_176 hS, if_pos rfl, p1, zbV_e, nI_1]
      by_cases q5 : 1 ≤ c ∧ c < 14
      · rw [if_pos q5] at he
        by_cases hab : (-1000000 ≤ a ∧ a ≤ 1000000) ∧ (-1000000 ≤ b ∧ b ≤ 1000000)
        · rw [if_pos hab] at he
          cases he
          have q3' : ¬ ((7 ≤ c ∧ c ≤ 10) ∨ c = 18 ∨ (30 ≤ c ∧ c ≤ 32)) := fun z => q3 (decide_eq_true z)
          exact fin _ (r_jn (by omega) hS hst hab.1 hab.2) (by omega) (by omega)
        · rw [if_neg hab] at he
          cases he
      · rw [if_neg q5] at he
        by_cases hab : ((c = 14 ∨ c = 15) ∧ (a = 0 ∨ a = 1)) ∧ (b = 0 ∨ b = 1)
        · rw [if_pos hab] at he
          cases he
          exact fin _ (r_jb hab.1.1 hS hst hab.1.2 hab.2) (by omega) (by omega)
        · rw [if_neg hab] at he
          cases he
end
