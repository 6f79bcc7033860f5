/-! the class's readers behind a fault -/
section
variable {t : Nat → Nat} {n : Nat} {α α' α1 β β0 β' β1 γ : zS} {st st1 : lx} {L W p : List Nat} {c O b f : Nat}
theorem dead_x (hd : ¬ lL st = true) : lw t n st = 35 ∧ ls t n st = 256 ∧ lN_ t n st = false ∧ lE n st = true := by
  match st, hd with
  | .inl _, hd => exact absurd rfl hd
  | .inr _, _ => exact ⟨rfl, rfl, rfl, rfl⟩
theorem lf_dead (hd : ¬ lL st = true) (a b : Nat) : lf st a b = st := by
  match st, hd with
  | .inl _, hd => exact absurd rfl hd
  | .inr _, _ => rfl
theorem lW_dead (hd : ¬ lL st = true) (c : Nat) : lW t n c st = st := by
  match st, hd with
  | .inl _, hd => exact absurd rfl hd
  | .inr q, _ =>
    unfold lW
    split <;> rfl
theorem lG_dead2 (hd : ¬ lL st = true) (c : Nat) : lG t n c st = st := by
  match st, hd with
  | .inl _, hd => exact absurd rfl hd
  | .inr q, _ =>
    unfold lG
    split <;> rfl
theorem d_64 (x : Int32) (hd : ¬ lL st = true) (hO : O ≤ 6) (h : CZ t n α α1 st L) : ∃ α', zM 64 [.ref 12, .int (nI O), .int x] α1 = some (none, α') ∧ CZ t n α α' st L := by
  obtain ⟨h1, h2, h3, -⟩ := dead_x (t := t) (n := n) hd
  obtain ⟨α2, a1, a2⟩ := c_failHere h.1 (f := 1) (by decide) (by decide)
  have a1 : zM 107 [.ref 8, .int 1] α1 = some (none, α2) := a1
  rw [lf_dead hd] at a2
  refine ⟨α2, ?_, z_tok h rfl (by decide +kernel) a1 a2 (fun z => z)⟩
  rw [c_brNo (s := 0) (e := 0) x hO h.1 (by omega), a1]
  rfl
theorem d_63 (hd : ¬ lL st = true) (hO : O ≤ 6) (h : CZ t n α α1 st L) : ∃ α', zM 63 [.ref 12, .int (nI O)] α1 = some (none, α') ∧ CZ t n α α' st L := by
  obtain ⟨h1, h2, h3, -⟩ := dead_x (t := t) (n := n) hd
  have hS := CS_sh h.1
  have ho := c_own h.1
  have hN := c_atNumber h.1
  rw [h1] at ho
  rw [h3] at hN
  obtain ⟨α2, a1, a2⟩ := d_64 0 hd hO h
  refine ⟨α2, ?_, a2⟩
  rw [q_X6_readPart]
  simp -implicitDefEqProofs only [tg_sI, ln_sI, tg_sL, ln_sL, tg_sR, ln_sR, tg_sC, ln_sC, ai_sI, ai_sL, gL_sI, gR_sI, gI_sL, gR_sL, gI_sR, gL_sR, gI_sI, gL_sL, gR_sR, zlt_e, zln_e, zli_e, zll_e, zbI_e, zbL_e, zbR_e, zbV_e, zeR_e, zeN_s, zeN_n, Nat.reduceEqDiff, and_self, and_true, true_and, and_false, false_and, ite_true, ite_false, reduceIte, tg_12 hS, gR_12_0 hS, rk63 (show O < 2 ^ 31 by omega), rk64 (show O < 2 ^ 31 by omega), rk104, rk102, rk97, rk110, rk53, bif_lt (show 1 < 6 + 10 * (7 - O) by omega), bif_lt (show 2 < 6 + 10 * (7 - O) by omega), bif_lt (show 3 < 6 + 10 * (7 - O) by omega), bif_lt (show 5 + 10 * (7 - O) < 6 + 10 * (7 - O) by omega), tg_8 hS, ho, hN]
  rw [if_pos (show ((if false = true then 1 else 0 : Int32) = 0) by decide), if_pos (show owJ 35 < 25 by decide), if_neg (show ¬ owJ 35 = 33 by decide), if_neg (show ¬ owJ 35 = 34 by decide), a1]
  simp -implicitDefEqProofs only [tg_sI, ln_sI, tg_sL, ln_sL, tg_sR, ln_sR, tg_sC, ln_sC, ai_sI, ai_sL, gL_sI, gR_sI, gI_sL, gR_sL, gI_sR, gL_sR, gI_sI, gL_sL, gR_sR, zlt_e, zln_e, zli_e, zll_e, zbI_e, zbL_e, zbR_e, zbV_e, zeR_e, zeN_s, zeN_n, Nat.reduceEqDiff, and_self, and_true, true_and, and_false, false_and, ite_true, ite_false, reduceIte, q_X6_readPart_59]
theorem d_62 (hd : ¬ lL st = true) (hO : O ≤ 6) (h : CZ t n α α1 st L) : ∃ α', zM 62 [.ref 12, .int (nI O)] α1 = some (none, α') ∧ CZ t n α α' st L := by
  obtain ⟨h1, h2, h3, -⟩ := dead_x (t := t) (n := n) hd
  have hS := CS_sh h.1
  obtain ⟨α2, a1, a2⟩ := d_63 hd hO h
  have hS2 := CS_sh a2.1
  have s1 : zM 103 [.ref 8, .int 42] α2 = _ := c_atSign a2.1 (c := 42) (by decide)
  have s2 : zM 103 [.ref 8, .int 47] α2 = _ := c_atSign a2.1 (c := 47) (by decide)
  rw [h2, if_neg (by decide)] at s1 s2
  refine ⟨α2, ?_, a2⟩
  rw [q_X6_readProduct]
  simp -implicitDefEqProofs only [tg_sI, ln_sI, tg_sL, ln_sL, tg_sR, ln_sR, tg_sC, ln_sC, ai_sI, ai_sL, gL_sI, gR_sI, gI_sL, gR_sL, gI_sR, gL_sR, gI_sI, gL_sL, gR_sR, zlt_e, zln_e, zli_e, zll_e, zbI_e, zbL_e, zbR_e, zbV_e, zeR_e, zeN_s, zeN_n, Nat.reduceEqDiff, and_self, and_true, true_and, and_false, false_and, ite_true, ite_false, reduceIte, tg_12 hS, rk62 (show O < 2 ^ 31 by omega), rk63 (show O < 2 ^ 31 by omega), bif_lt (show 6 + 10 * (7 - O) < 7 + 10 * (7 - O) by omega), a1, q_X6_readProduct_5, rk103, bif_lt (show 1 < 7 + 10 * (7 - O) by omega), tg_12 hS2, gR_12_0 hS2, tg_8 hS2, s1, s2]
  rw [if_neg (by decide)]
theorem d_61 (hd : ¬ lL st = true) (hO : O ≤ 6) (h : CZ t n α α1 st L) : ∃ α', zM 61 [.ref 12, .int (nI O)] α1 = some (none, α') ∧ CZ t n α α' st L := by
  obtain ⟨h1, h2, h3, -⟩ := dead_x (t := t) (n := n) hd
  have hS := CS_sh h.1
  obtain ⟨α2, a1, a2⟩ := d_62 hd hO h
  have hS2 := CS_sh a2.1
  have s1 : zM 103 [.ref 8, .int 43] α2 = _ := c_atSign a2.1 (c := 43) (by decide)
  have s2 : zM 103 [.ref 8, .int 45] α2 = _ := c_atSign a2.1 (c := 45) (by decide)
  rw [h2, if_neg (by decide)] at s1 s2
  refine ⟨α2, ?_, a2⟩
  rw [q_X6_readSum]
  simp -implicitDefEqProofs only [tg_sI, ln_sI, tg_sL, ln_sL, tg_sR, ln_sR, tg_sC, ln_sC, ai_sI, ai_sL, gL_sI, gR_sI, gI_sL, gR_sL, gI_sR, gL_sR, gI_sI, gL_sL, gR_sR, zlt_e, zln_e, zli_e, zll_e, zbI_e, zbL_e, zbR_e, zbV_e, zeR_e, zeN_s, zeN_n, Nat.reduceEqDiff, and_self, and_true, true_and, and_false, false_and, ite_true, ite_false, reduceIte, tg_12 hS, rk61 (show O < 2 ^ 31 by omega), rk62 (show O < 2 ^ 31 by omega), bif_lt (show 7 + 10 * (7 - O) < 8 + 10 * (7 - O) by omega), a1, q_X6_readSum_5, rk103, bif_lt (show 1 < 8 + 10 * (7 - O) by omega), tg_12 hS2, gR_12_0 hS2, tg_8 hS2, s1, s2]
  rw [if_neg (by decide)]
theorem d_60 (hd : ¬ lL st = true) (hO : O ≤ 6) (h : CZ t n α α1 st L) : ∃ α', zM 60 [.ref 12, .int (nI O)] α1 = some (none, α') ∧ CZ t n α α' st L := by
  obtain ⟨h1, h2, h3, -⟩ := dead_x (t := t) (n := n) hd
  have hS := CS_sh h.1
  obtain ⟨α2, a1, a2⟩ := d_61 hd hO h
  have hS2 := CS_sh a2.1
  have s1 : zM 103 [.ref 8, .int 60] α2 = _ := c_atSign a2.1 (c := 60) (by decide)
  have s2 : zM 103 [.ref 8, .int 62] α2 = _ := c_atSign a2.1 (c := 62) (by decide)
  rw [h2, if_neg (by decide)] at s1 s2
  obtain ⟨α3, b1, b2⟩ := c_takeSign a2.1 (c := 61) (by decide)
  have b1 : zM 109 [.ref 8, .int 61] α2 = some (none, α3) := b1
  rw [lG_dead2 hd] at b2
  have b3 := z_tok a2 rfl (by decide +kernel) b1 b2 (fun z => z)
  obtain ⟨α4, c1, c2⟩ := d_61 hd hO b3
  obtain ⟨α5, d1, d2⟩ := z_put (c := 13) c2 (fun z => absurd z hd)
  have d1 : zM 53 [.ref 12, .int (-9)] α4 = some (none, α5) := d1
  have hS3 := CS_sh b3.1
  have hS4 := CS_sh c2.1
  refine ⟨α5, ?_, CZ_L d2 (fun z => absurd z hd)⟩
  rw [q_X6_readComparison]
  simp -implicitDefEqProofs only [tg_sI, ln_sI, tg_sL, ln_sL, tg_sR, ln_sR, tg_sC, ln_sC, ai_sI, ai_sL, gL_sI, gR_sI, gI_sL, gR_sL, gI_sR, gL_sR, gI_sI, gL_sL, gR_sR, zlt_e, zln_e, zli_e, zll_e, zbI_e, zbL_e, zbR_e, zbV_e, zeR_e, zeN_s, zeN_n, Nat.reduceEqDiff, and_self, and_true, true_and, and_false, false_and, ite_true, ite_false, reduceIte, tg_12 hS, rk60 (show O < 2 ^ 31 by omega), rk61 (show O < 2 ^ 31 by omega), bif_lt (show 8 + 10 * (7 - O) < 9 + 10 * (7 - O) by omega), a1, rk103, rk109, rk53, bif_lt (show 1 < 9 + 10 * (7 - O) by omega), bif_lt (show 3 < 9 + 10 * (7 - O) by omega), tg_12 hS2, gR_12_0 hS2, tg_8 hS2, s1, s2, b1, q_X6_readComparison_31, tg_12 hS3, c1, tg_12 hS4, d1]
theorem d_58 (hd : ¬ lL st = true) (hO : O ≤ 6) (h : CZ t n α α1 st L) : ∃ α', zM 58 [.ref 12, .int (nI O)] α1 = some (none, α') ∧ CZ t n α α' st L := by
  obtain ⟨h1, h2, h3, -⟩ := dead_x (t := t) (n := n) hd
  have hS := CS_sh h.1
  have s1 : zM 105 [.ref 8, .int 24] α1 = _ := c_atWord h.1 (w := 24) (by decide)
  have s2 : zM 105 [.ref 8, .int 23] α1 = _ := c_atWord h.1 (w := 23) (by decide)
  have s3 : zM 103 [.ref 8, .int 91] α1 = _ := c_atSign h.1 (c := 91) (by decide)
  rw [h1, if_neg (by decide)] at s1 s2
  rw [h2, if_neg (by decide)] at s3
  obtain ⟨α2, a1, a2⟩ := d_60 hd hO h
  refine ⟨α2, ?_, a2⟩
  rw [q_X6_readFact]
  simp -implicitDefEqProofs only [tg_sI, ln_sI, tg_sL, ln_sL, tg_sR, ln_sR, tg_sC, ln_sC, ai_sI, ai_sL, gL_sI, gR_sI, gI_sL, gR_sL, gI_sR, gL_sR, gI_sI, gL_sL, gR_sR, zlt_e, zln_e, zli_e, zll_e, zbI_e, zbL_e, zbR_e, zbV_e, zeR_e, zeN_s, zeN_n, Nat.reduceEqDiff, and_self, and_true, true_and, and_false, false_and, ite_true, ite_false, reduceIte, tg_12 hS, gR_12_0 hS, tg_8 hS, rk58 (show O < 2 ^ 31 by omega), rk60 (show O < 2 ^ 31 by omega), rk105, rk103, bif_lt (show 1 < 10 + 10 * (7 - O) by omega), bif_lt (show 2 < 10 + 10 * (7 - O) by omega), bif_lt (show 9 + 10 * (7 - O) < 10 + 10 * (7 - O) by omega), s1, s2, s3, a1, q_X6_readFact_52]
theorem d_57 (hd : ¬ lL st = true) (hO : O ≤ 6) (h : CZ t n α α1 st L) : ∃ α', zM 57 [.ref 12, .int (nI O)] α1 = some (none, α') ∧ CZ t n α α' st L := by
  obtain ⟨h1, h2, h3, -⟩ := dead_x (t := t) (n := n) hd
  have hS := CS_sh h.1
  obtain ⟨α2, a1, a2⟩ := d_58 hd hO h
  have hS2 := CS_sh a2.1
  have s1 : zM 105 [.ref 8, .int 22] α2 = _ := c_atWord a2.1 (w := 22) (by decide)
  rw [h1, if_neg (by decide)] at s1
  refine ⟨α2, ?_, a2⟩
  rw [q_X6_readBoth]
  simp -implicitDefEqProofs only [tg_sI, ln_sI, tg_sL, ln_sL, tg_sR, ln_sR, tg_sC, ln_sC, ai_sI, ai_sL, gL_sI, gR_sI, gI_sL, gR_sL, gI_sR, gL_sR, gI_sI, gL_sL, gR_sR, zlt_e, zln_e, zli_e, zll_e, zbI_e, zbL_e, zbR_e, zbV_e, zeR_e, zeN_s, zeN_n, Nat.reduceEqDiff, and_self, and_true, true_and, and_false, false_and, ite_true, ite_false, reduceIte, tg_12 hS, rk57 (show O < 2 ^ 31 by omega), rk58 (show O < 2 ^ 31 by omega), bif_lt (show 10 + 10 * (7 - O) < 11 + 10 * (7 - O) by omega), a1, q_X6_readBoth_5, rk105, bif_lt (show 2 < 11 + 10 * (7 - O) by omega), tg_12 hS2, gR_12_0 hS2, tg_8 hS2, s1]
  rw [if_neg (by decide)]
theorem d_56 (hd : ¬ lL st = true) (hO : O ≤ 6) (h : CZ t n α α1 st L) : ∃ α', zM 56 [.ref 12, .int (nI O)] α1 = some (none, α') ∧ CZ t n α α' st L := by
  obtain ⟨h1, h2, h3, -⟩ := dead_x (t := t) (n := n) hd
  have hS := CS_sh h.1
  obtain ⟨α2, a1, a2⟩ := d_57 hd hO h
  have hS2 := CS_sh a2.1
  have s1 : zM 105 [.ref 8, .int 21] α2 = _ := c_atWord a2.1 (w := 21) (by decide)
  rw [h1, if_neg (by decide)] at s1
  refine ⟨α2, ?_, a2⟩
  rw [q_X6_readTest]
  simp -implicitDefEqProofs only [tg_sI, ln_sI, tg_sL, ln_sL, tg_sR, ln_sR, tg_sC, ln_sC, ai_sI, ai_sL, gL_sI, gR_sI, gI_sL, gR_sL, gI_sR, gL_sR, gI_sI, gL_sL, gR_sR, zlt_e, zln_e, zli_e, zll_e, zbI_e, zbL_e, zbR_e, zbV_e, zeR_e, zeN_s, zeN_n, Nat.reduceEqDiff, and_self, and_true, true_and, and_false, false_and, ite_true, ite_false, reduceIte, tg_12 hS, rk56 (show O < 2 ^ 31 by omega), rk57 (show O < 2 ^ 31 by omega), bif_lt (show 11 + 10 * (7 - O) < 12 + 10 * (7 - O) by omega), a1, q_X6_readTest_5, rk105, bif_lt (show 2 < 12 + 10 * (7 - O) by omega), tg_12 hS2, gR_12_0 hS2, tg_8 hS2, s1]
  rw [if_neg (by decide)]
end
