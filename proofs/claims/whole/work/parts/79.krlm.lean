/-! min and max, both at once -/
section
variable {t : Nat → Nat} {n : Nat} {α α' α1 β β0 β' β1 γ : zS} {st st1 : lx} {L W p : List Nat} {c O b f κ : Nat} {was : Int32} {u1 u2 u3 u4 : Option Value}
/-- the sign that closes, both -/
theorem j_close {s e m : Nat} {X : List Nat} (hC : CZ t n α α1 (.inl (s, e)) X) (h : SV t n β0 β (.inl (s, e)) (W ++ [m] ++ p.reverse) (O + 1) L b) (hs : sm (W ++ [m] ++ p.reverse) L) (hX : L ++ p = X) (hl : ls t n (.inl (s, e)) ≠ 42 ∧ ls t n (.inl (s, e)) ≠ 47 ∧ ls t n (.inl (s, e)) ≠ 43 ∧ ls t n (.inl (s, e)) ≠ 45) (hm : m = 20 ∨ m = 23 ∨ m = 24) (hb : b ≤ W.length) (hp : ∀ x, x ∈ p → x < 20) : ∃ α2, zM 109 [.ref 8, .int 41] α1 = some (none, α2) ∧ CZ t n α α2 (lG t n 41 (.inl (s, e))) X ∧ (¬ lL (lG t n 41 (.inl (s, e))) = true → ∃ β', KB was u1 β = some (none, β') ∧ SD t n β0 β' (lG t n 41 (.inl (s, e)))) ∧ (lL (lG t n 41 (.inl (s, e))) = true → s < lp (lG t n 41 (.inl (s, e))) ∧ ∃ β', KB was u1 β = KB was u1 β' ∧ SV t n β0 β' (lG t n 41 (.inl (s, e))) W O (X ++ (if m = 20 then [] else if m = 23 then [5] else [6])) b) := by
  have h16 := h.1.1.2.1
  obtain ⟨α2, a1, a2⟩ := c_takeSign hC.1 (c := 41) (by decide)
  have a1 : zM 109 [.ref 8, .int 41] α1 = some (none, α2) := a1
  refine ⟨α2, a1, z_tok hC rfl (by decide +kernel) a1 a2 (fun _ => rfl), fun hd => ?_, fun hv => ?_⟩
  · by_cases q : ls t n (.inl (s, e)) = 41
    · exact absurd (by unfold lG; rw [if_pos q]; rfl) hd
    · have e1 : lG t n 41 (.inl (s, e)) = .inr (1, s) := by unfold lG; rw [if_neg q]; rfl
      rw [e1]
      exact kb_open h hs hl q hm hb hp h16
  · by_cases q : ls t n (.inl (s, e)) = 41
    · have e1 : lG t n 41 (.inl (s, e)) = la t n (.inl (s, e)) := by unfold lG; rw [if_pos q]
      obtain ⟨hsn, hk3, -⟩ := ls_of (c := 41) (by decide) q
      rw [e1]
      refine ⟨la_pos hsn (by omega), ?_⟩
      obtain ⟨β', k1, k2⟩ := kb_close (was := was) (u1 := u1) h hs q hm hb hp
      rw [hX] at k2
      exact ⟨β', k1, k2⟩
    · have e1 : lG t n 41 (.inl (s, e)) = .inr (1, s) := by unfold lG; rw [if_neg q]; rfl
      rw [e1] at hv
      cases hv
theorem W_mark (W : List Nat) (m b : Nat) (hm : isM m) (hb : b ≤ W.length) : (W ++ [m]).length = b ∨ ∃ W1 m', W ++ [m] = W1 ++ [m'] ∧ isM m' ∧ b ≤ W1.length := .inr ⟨W, m, rfl, hm, hb⟩
theorem lx_live {st : lx} (h : lL st = true) : ∃ s e, st = .inl (s, e) := by
  match st, h with
  | .inl (s, e), _ => exact ⟨s, e, rfl⟩
  | .inr _, h => cases h
theorem lst_app (W : List Nat) (x d : Nat) (h : x ≠ d) : (W ++ [x]).getLast? ≠ some d := by
  rw [List.getLast?_concat]
  simpa using h
/-- from the class's min or max to the bracket -/
theorem c_mm {s e w O : Nat} (hO : O ≤ 6) (hC : CS α t n (.inl (s, e))) (hw : lw t n (.inl (s, e)) = w) (h : w = 33 ∨ w = 34) (ha : zM 97 [.ref 8] α = some (none, α1)) (hS1 : Sh α1) : zM 63 [.ref 12, .int (nI O)] α = zbV (zM 64 [.ref 12, .int (nI O), .int 1] α1) (fun σ3 => if tg σ3 12 = 7 then zbV (zM 53 [.ref 12, .int (cOf (w - 28))] σ3) (fun σ => some (none, σ)) else none) := by
  have hS := CS_sh hC
  have ho := c_own hC
  rw [hw] at ho
  have hN := c_atNumber hC
  rw [(own_not (t := t) (n := n) (s := s) (e := e) (by omega)).2] at hN
  rw [q_X6_readPart]
  simp -implicitDefEqProofs only [tg_sI, ln_sI, tg_sL, ln_sL, tg_sR, ln_sR, tg_sC, ln_sC, ai_sI, ai_sL, gL_sI, gR_sI, gI_sL, gR_sL, gI_sR, gL_sR, gI_sI, gL_sL, gR_sR, zlt_e, zln_e, zli_e, zll_e, zbI_e, zbL_e, zbR_e, zbV_e, zeR_e, zeN_s, zeN_n, Nat.reduceEqDiff, and_self, and_true, true_and, and_false, false_and, ite_true, ite_false, reduceIte, tg_12 hS, gR_12_0 hS, rk63 (show O < 2 ^ 31 by omega), rk104, rk102, rk97, rk110, rk53, bif_lt (show 1 < 6 + 10 * (7 - O) by omega), bif_lt (show 2 < 6 + 10 * (7 - O) by omega), bif_lt (show 3 < 6 + 10 * (7 - O) by omega), tg_8 hS, ho, hN]
  rw [if_pos (show ((if false = true then 1 else 0 : Int32) = 0) by decide)]
  rcases h with rfl | rfl
  · rw [if_neg (show ¬ owJ 33 < 25 by decide), if_pos (show 32 < owJ 33 by decide), if_pos (show owJ 33 = 33 by decide), q_X6_readPart_39]
    simp -implicitDefEqProofs only [tg_sI, ln_sI, tg_sL, ln_sL, tg_sR, ln_sR, tg_sC, ln_sC, ai_sI, ai_sL, gL_sI, gR_sI, gI_sL, gR_sL, gI_sR, gL_sR, gI_sI, gL_sL, gR_sR, zlt_e, zln_e, zli_e, zll_e, zbI_e, zbL_e, zbR_e, zbV_e, zeR_e, zeN_s, zeN_n, Nat.reduceEqDiff, and_self, and_true, true_and, and_false, false_and, ite_true, ite_false, reduceIte, tg_12 hS, gR_12_0 hS, tg_8 hS, rk97, rk64 (show O < 2 ^ 31 by omega), rk53, bif_lt (show 1 < 6 + 10 * (7 - O) by omega), bif_lt (show 2 < 6 + 10 * (7 - O) by omega), bif_lt (show 5 + 10 * (7 - O) < 6 + 10 * (7 - O) by omega), ha, tg_12 hS1, q_X6_readPart_59]
    rfl
  · rw [if_neg (show ¬ owJ 34 < 25 by decide), if_pos (show 32 < owJ 34 by decide), if_neg (show ¬ owJ 34 = 33 by decide), if_pos (show owJ 34 = 34 by decide), q_X6_readPart_39]
    simp -implicitDefEqProofs only [tg_sI, ln_sI, tg_sL, ln_sL, tg_sR, ln_sR, tg_sC, ln_sC, ai_sI, ai_sL, gL_sI, gR_sI, gI_sL, gR_sL, gI_sR, gL_sR, gI_sI, gL_sL, gR_sR, zlt_e, zln_e, zli_e, zll_e, zbI_e, zbL_e, zbR_e, zbV_e, zeR_e, zeN_s, zeN_n, Nat.reduceEqDiff, and_self, and_true, true_and, and_false, false_and, ite_true, ite_false, reduceIte, tg_12 hS, gR_12_0 hS, tg_8 hS, rk97, rk64 (show O < 2 ^ 31 by omega), rk53, bif_lt (show 1 < 6 + 10 * (7 - O) by omega), bif_lt (show 2 < 6 + 10 * (7 - O) by omega), bif_lt (show 5 + 10 * (7 - O) < 6 + 10 * (7 - O) by omega), ha, tg_12 hS1, q_X6_readPart_59]
    rfl
theorem J_mm {s e w O b : Nat} (hκ : 6 ≤ κ) (hJ : Jsum t n f κ) (hf : n ≤ s + (f + 1)) (hC : CS α t n (.inl (s, e))) (hD : DR α L) (hR : RS β t n (.inl (s, e))) (hQ : SQ β W O L b) (hO : O ≤ 6) (hb : b ≤ W.length) (hL : L.length + W.length + κ ≤ s) (hW : ∀ i, W.getD i 0 < 1000) (hw : lw t n (.inl (s, e)) = w) (q4 : w = 33 ∨ w = 34) : ∃ α' st' toks, zM 63 [.ref 12, .int (nI O)] α = some (none, α') ∧ CZ t n α α' st' (L ++ toks) ∧ (¬ lL st' = true → ∃ β', KA was u2 u3 u4 β = some (none, β') ∧ SD t n β β' st') ∧ (lL st' = true → EN (1 + 3 * (6 - O)) toks ∧ (L ++ toks).length + W.length + κ ≤ lp st' ∧ s < lp st' ∧ ∃ u1 β', KA was u2 u3 u4 β = KB was u1 β' ∧ SV t n β β' st' W O (L ++ toks) b) := by
  have hS := CS_sh hC
  have h16 := hC.1.2.1
  have hsn : s ≤ n := hC.2.1.1
  have hs : sm W L := sm_of (by omega) hsn h16 hW
  have h5 := own_no5 (t := t) (n := n) (s := s) (e := e) (by omega)
  obtain ⟨α1, a1, a2⟩ := c_advW hC (by omega)
  have z1 : CZ t n α α1 (la t n (.inl (s, e))) L := z_tok (CZ_0 hC hD) rfl (by decide +kernel) a1 a2 (fun _ => rfl)
  have hp := la_pos (t := t) (n := n) (s := s) (e := e) h5.1 h5.2
  obtain ⟨m1, m2⟩ := ka_mm (was := was) (u2 := u2) (u3 := u3) (u4 := u4) hR hQ hs hO hw q4
  rw [c_mm hO hC hw q4 a1 (CS_sh a2)]
  obtain ⟨s2, e2, hla⟩ : ∃ s2 e2, la t n (.inl (s, e)) = .inl (s2, e2) := ⟨_, _, rfl⟩
  rw [hla] at a2 z1 hp m1 m2
  have hp : s < s2 := hp
  -- the end behind a fault, whatever the class still puts
  have fin : ∀ {st3 : lx} {α3 : zS} {L3 : List Nat}, ¬ lL st3 = true → CZ t n α α3 st3 L3 → ∃ α4, (if tg α3 12 = 7 then zbV (zM 53 [.ref 12, .int (cOf (w - 28))] α3) (fun σ => some (none, σ)) else none) = some (none, α4) ∧ CZ t n α α4 st3 (L ++ []) := by
    intro st3 α3 L3 hd hz
    obtain ⟨α4, p1, p2⟩ := z_put (c := w - 28) hz (fun z => absurd z hd)
    refine ⟨α4, ?_, CZ_L p2 (fun z => absurd z hd)⟩
    rw [tg_12 (CS_sh hz.1), if_pos rfl, p1]
    rfl
  by_cases l40 : ls t n (.inl (s2, e2)) = 40
  · obtain ⟨e1, e2'⟩ := c_enter hO a2 (.inr (by omega))
    obtain ⟨m3, m4⟩ := m2 l40
    by_cases h6 : O = 6
    · obtain ⟨α2, b1, b2, b3⟩ := e2' h6
      have b2 : CS α2 t n (.inr (4, s2)) := b2
      have z2 : CZ t n α α2 (.inr (4, s2)) L := by
        refine ⟨b2, z1.2.1.trans (b3.mono (fun r j _ _ q => .inl q)), ?_, fun q => by cases q⟩
        obtain ⟨k, hk, hk2⟩ := z1.2.2.1
        exact ⟨k, hk, by rw [b3.i (by omega) (by omega) (by omega) (by omega)]; exact hk2⟩
      obtain ⟨α4, p1, p2⟩ := fin (fun q => by cases q) z2
      refine ⟨α4, .inr (4, s2), [], ?_, p2, fun _ => m4 h6, fun q => by cases q⟩
      rw [c_brFull 1 h6 a2 l40 b1]
      exact p1
    · obtain ⟨α2, b1, b2, b3⟩ := e1 (by omega)
      obtain ⟨u2', u3', u4', β1, k1, k2⟩ := m3 (by omega)
      have hD2 : DR α2 L := DR_un (z1.2.2.2 rfl) (CS_sh a2) b3 (fun j => by omega) (by omega)
      have z2 : CZ t n α α2 (la t n (.inl (s2, e2))) L := ⟨b2, z1.2.1.trans (b3.mono (fun r j _ _ q => .inl q)), ⟨_, hD2.2.1, hD2.1⟩, fun _ => hD2⟩
      obtain ⟨hsn2, hk3, -⟩ := ls_of (c := 40) (by decide) l40
      have hp2 : s2 < tkS t n s2 := la_pos (t := t) (n := n) (s := s2) (e := e2) hsn2 (by omega)
      rw [c_brIn 1 (by omega) a2 l40 b1 (CS_sh b2), k1]
      obtain ⟨α3, st3, x1, d1, d2, d3, d4⟩ := hJ α2 β1 _ _ (O + 1) b (W ++ [w - 12]) L was u2' u3' u4' (by omega) b2 hD2 k2.1 k2.2.2 (by omega) (by simp; omega) (gD_app hW (by omega)) (W_mark W (w - 12) b (by unfold isM; omega) hb) (fun d h1 h4 => lst_app W (w - 12) d (by omega))
      have z3 := CZ_t z2 d2
      have hS3 := CS_sh z3.1
      rw [d1]
      simp -implicitDefEqProofs only [tg_sI, ln_sI, tg_sL, ln_sL, tg_sR, ln_sR, tg_sC, ln_sC, ai_sI, ai_sL, gL_sI, gR_sI, gI_sL, gR_sL, gI_sR, gL_sR, gI_sI, gL_sL, gR_sR, zlt_e, zln_e, zli_e, zll_e, zbI_e, zbL_e, zbR_e, zbV_e, zeR_e, zeN_s, zeN_n, Nat.reduceEqDiff, and_self, and_true, true_and, and_false, false_and, ite_true, ite_false, reduceIte, tg_12 hS3, gR_12_0 hS3, tg_8 hS3]
      rw [if_neg (by decide)]
      obtain ⟨α4, g1, g2⟩ := c_takeSign z3.1 (c := 44) (by decide)
      have g1 : zM 109 [.ref 8, .int 44] α3 = some (none, α4) := g1
      have z4 := z_tok z3 rfl (by decide +kernel) g1 g2 (fun z => lG_live z)
      have hS4 := CS_sh g2
      rw [g1]
      simp -implicitDefEqProofs only [tg_sI, ln_sI, tg_sL, ln_sL, tg_sR, ln_sR, tg_sC, ln_sC, ai_sI, ai_sL, gL_sI, gR_sI, gI_sL, gR_sL, gI_sR, gL_sR, gI_sI, gL_sL, gR_sR, zlt_e, zln_e, zli_e, zll_e, zbI_e, zbL_e, zbR_e, zbV_e, zeR_e, zeN_s, zeN_n, Nat.reduceEqDiff, and_self, and_true, true_and, and_false, false_and, ite_true, ite_false, reduceIte, tg_12 hS4]
      -- dead behind the comma
      have fin2 : ¬ lL (lG t n 44 st3) = true → ∃ α7, zbV (zbV (zM 61 [.ref 12, .int (nI (O + 1))] α4) (fun σ1 => if tg σ1 12 = 7 then zeR none (gR σ1 12 0) (fun q2 => if tg σ1 q2 = 11 then zbV (zM 109 [.ref q2, .int 41] σ1) (fun σ3 => some (none, σ3)) else none) else none)) (fun σ3 => if tg σ3 12 = 7 then zbV (zM 53 [.ref 12, .int (cOf (w - 28))] σ3) (fun σ => some (none, σ)) else none) = some (none, α7) ∧ CZ t n α α7 (lG t n 44 st3) (L ++ []) := by
        intro hd
        obtain ⟨α5, h1, h2⟩ := d_61 (O := O + 1) hd (by omega) z4
        have hS5 := CS_sh h2.1
        obtain ⟨α6, h3, h4⟩ := c_takeSign h2.1 (c := 41) (by decide)
        have h3 : zM 109 [.ref 8, .int 41] α5 = some (none, α6) := h3
        rw [lG_dead2 hd 41] at h4
        have z6 := z_tok h2 rfl (by decide +kernel) h3 h4 (fun z => z)
        obtain ⟨α7, p1, p2⟩ := fin hd z6
        refine ⟨α7, ?_, p2⟩
        rw [h1]
        simp -implicitDefEqProofs only [tg_sI, ln_sI, tg_sL, ln_sL, tg_sR, ln_sR, tg_sC, ln_sC, ai_sI, ai_sL, gL_sI, gR_sI, gI_sL, gR_sL, gI_sR, gL_sR, gI_sI, gL_sL, gR_sR, zlt_e, zln_e, zli_e, zll_e, zbI_e, zbL_e, zbR_e, zbV_e, zeR_e, zeN_s, zeN_n, Nat.reduceEqDiff, and_self, and_true, true_and, and_false, false_and, ite_true, ite_false, reduceIte, tg_12 hS5, gR_12_0 hS5, tg_8 hS5, h3]
        exact p1
      by_cases hl : lL st3 = true
      · obtain ⟨s3, e3, rfl⟩ := lx_live hl
        obtain ⟨f1, f2, f3, f4, p, L', u1, β2, f5, f6, f7, f8⟩ := d4 hl
        have f2 : (L ++ x1).length + (W ++ [w - 12]).length + κ ≤ s3 := f2
        have f3 : tkS t n s2 < s3 := f3
        have hs3n : s3 ≤ n := d2.1.2.1.1
        have hsm : sm (W ++ [w - 12] ++ p.reverse) L' := by
          refine ⟨?_, gD_rev (gD_app hW (by omega)) p f8⟩
          have := congrArg List.length f7
          simp at this f2 ⊢
          omega
        have f6' := SV_t k2 f6
        obtain ⟨c1, c2⟩ := kb_comma (was := was) (u1 := u1) f6' hsm f4 (by omega) hb (fun x hx => by have := f8 x hx; omega)
        rw [f5]
        by_cases l44 : ls t n (.inl (s3, e3)) = 44
        · obtain ⟨β3, v1, v2⟩ := c1 l44
          have hla3 : lG t n 44 (.inl (s3, e3)) = la t n (.inl (s3, e3)) := by unfold lG; rw [if_pos l44]
          rw [hla3] at z4 g2
          obtain ⟨hsn3, hk33, -⟩ := ls_of (c := 44) (by decide) l44
          have hp3 : s3 < tkS t n s3 := la_pos (t := t) (n := n) (s := s3) (e := e3) hsn3 (by omega)
          rw [f7] at v2
          rw [v1]
          obtain ⟨α5, st5, x2, h1, h2, h3, h4⟩ := hJ α4 β3 _ _ (O + 1) b (W ++ [w - 12 + 2]) (L ++ x1) was none none none (by omega) g2 (z4.2.2.2 rfl) v2.1 v2.2.2 (by omega) (by simp at f2 ⊢; omega) (gD_app hW (by omega)) (W_mark W (w - 12 + 2) b (by unfold isM; omega) hb) (fun d h1 h4 => lst_app W (w - 12 + 2) d (by omega))
          have z5 := CZ_t z4 h2
          have hS5 := CS_sh z5.1
          rw [h1]
          simp -implicitDefEqProofs only [tg_sI, ln_sI, tg_sL, ln_sL, tg_sR, ln_sR, tg_sC, ln_sC, ai_sI, ai_sL, gL_sI, gR_sI, gI_sL, gR_sL, gI_sR, gL_sR, gI_sI, gL_sL, gR_sR, zlt_e, zln_e, zli_e, zll_e, zbI_e, zbL_e, zbR_e, zbV_e, zeR_e, zeN_s, zeN_n, Nat.reduceEqDiff, and_self, and_true, true_and, and_false, false_and, ite_true, ite_false, reduceIte, tg_12 hS5, gR_12_0 hS5, tg_8 hS5]
          by_cases hl5 : lL st5 = true
          · obtain ⟨s5, e5, rfl⟩ := lx_live hl5
            obtain ⟨j1, j2, j3, j4, p5, L5, u5, β5, j5, j6, j7, j8⟩ := h4 hl5
            have j2 : (L ++ x1 ++ x2).length + (W ++ [w - 12 + 2]).length + κ ≤ s5 := j2
            have j3 : tkS t n s3 < s5 := j3
            have hs5n : s5 ≤ n := h2.1.2.1.1
            have hsm5 : sm (W ++ [w - 12 + 2] ++ p5.reverse) L5 := by
              refine ⟨?_, gD_rev (gD_app hW (by omega)) p5 j8⟩
              have := congrArg List.length j7
              simp at this j2 ⊢
              omega
            have j6' := SV_t v2 j6
            obtain ⟨α6, y1, y2, y3, y4⟩ := j_close (was := was) (u1 := u5) z5 j6' hsm5 j7 j4 (by omega) hb (fun x hx => by have := j8 x hx; omega)
            have hlen : (L ++ x1 ++ x2).length < 1600 := by simp at j2 ⊢; omega
            obtain ⟨α7, p1, p2⟩ := z_put (c := w - 28) y2 (fun _ => hlen)
            rw [y1, j5]
            simp -implicitDefEqProofs only [tg_sI, ln_sI, tg_sL, ln_sL, tg_sR, ln_sR, tg_sC, ln_sC, ai_sI, ai_sL, gL_sI, gR_sI, gI_sL, gR_sL, gI_sR, gL_sR, gI_sI, gL_sL, gR_sR, zlt_e, zln_e, zli_e, zll_e, zbI_e, zbL_e, zbR_e, zbV_e, zeR_e, zeN_s, zeN_n, Nat.reduceEqDiff, and_self, and_true, true_and, and_false, false_and, ite_true, ite_false, reduceIte, tg_12 (CS_sh y2.1), p1]
            refine ⟨α7, _, x1 ++ (x2 ++ [w - 28]), rfl, CZ_L p2 (fun _ => by simp), y3, fun hv => ?_⟩
            obtain ⟨y5, β6, y6, y7⟩ := y4 hv
            refine ⟨EN_bin (h1 := 3 + 3 * (6 - (O + 1))) (h2 := 3 + 3 * (6 - (O + 1))) f1 j1 (by omega) (by omega) (by omega), ?_, by omega, u5, β6, y6, ?_⟩
            · simp at j2 ⊢
              omega
            · have e9 : L ++ x1 ++ x2 ++ (if w - 12 + 2 = 20 then [] else if w - 12 + 2 = 23 then [5] else [6]) = L ++ (x1 ++ (x2 ++ [w - 28])) := by
                rcases q4 with rfl | rfl <;> simp
              rw [e9] at y7
              exact y7
          · obtain ⟨α6, g5, g6⟩ := c_takeSign z5.1 (c := 41) (by decide)
            have g5 : zM 109 [.ref 8, .int 41] α5 = some (none, α6) := g5
            rw [lG_dead2 hl5] at g6
            have z6 := z_tok z5 rfl (by decide +kernel) g5 g6 (fun z => z)
            obtain ⟨α7, p1, p2⟩ := fin hl5 z6
            obtain ⟨β', k3, k4⟩ := h3 hl5
            rw [g5]
            exact ⟨α7, st5, [], p1, p2, fun _ => ⟨β', k3, SD_t v2 k4⟩, fun z => absurd z hl5⟩
        · have hla3 : lG t n 44 (.inl (s3, e3)) = .inr (1, s3) := by unfold lG; rw [if_neg l44]; rfl
          rw [hla3] at fin2
          obtain ⟨α7, p1, p2⟩ := fin2 (fun q => by cases q)
          exact ⟨α7, _, [], p1, p2, fun _ => c2 l44, fun q => by cases q⟩
      · rw [lG_dead2 hl] at fin2
        obtain ⟨α7, p1, p2⟩ := fin2 hl
        obtain ⟨β', k3, k4⟩ := d3 hl
        exact ⟨α7, st3, [], p1, p2, fun _ => ⟨β', k3, SD_t k2 k4⟩, fun z => absurd z hl⟩
  · obtain ⟨α2, b1, b2⟩ := c_failHere a2 (f := 1) (by decide) (by decide)
    have b1 : zM 107 [.ref 8, .int 1] α1 = some (none, α2) := b1
    have b2 : CS α2 t n (.inr (1, s2)) := b2
    have z2 := z_tok z1 rfl (by decide +kernel) b1 b2 (fun q => by cases q)
    obtain ⟨α4, p1, p2⟩ := fin (fun q => by cases q) z2
    refine ⟨α4, .inr (1, s2), [], ?_, p2, fun _ => m1 l40, fun q => by cases q⟩
    rw [c_brNo (s := s) (e := e) 1 hO a2 l40, b1]
    exact p1
end
