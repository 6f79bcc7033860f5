/-! parts, products, sums, both at once: the theorems -/
section
variable {t : Nat → Nat} {n : Nat} {α α' α1 β β0 β' β1 γ : zS} {st st1 : lx} {L W p : List Nat} {c O b f κ : Nat} {was : Int32} {u1 u2 u3 u4 : Option Value}
theorem fcW_F {w : Nat} (h : 25 ≤ w ∧ w ≤ 32) : isF (fcW w) = true := by
  rcases (show w = 25 ∨ w = 26 ∨ w = 27 ∨ w = 28 ∨ w = 29 ∨ w = 30 ∨ w = 31 ∨ w = 32 by omega) with rfl | rfl | rfl | rfl | rfl | rfl | rfl | rfl <;> rfl
theorem J_part (hκ : 6 ≤ κ) (hJ : Jsum t n f κ) : Jpart t n (f + 1) κ := by
  intro α β s e O b W L was u2 u3 u4 hf hC hD hR hQ hO hb hL hW
  have hS := CS_sh hC
  have h16 := hC.1.2.1
  have hsn : s ≤ n := hC.2.1.1
  have hs : sm W L := sm_of (by omega) hsn h16 hW
  have h35 := lw_le (t := t) (n := n) (.inl (s, e))
  by_cases q1 : 25 ≤ lw t n (.inl (s, e)) ∧ lw t n (.inl (s, e)) ≤ 32
  · -- a fact
    have hno := own_not (t := t) (n := n) (s := s) (e := e) (by omega)
    have h5 := own_no5 (t := t) (n := n) (s := s) (e := e) (by omega)
    obtain ⟨α', a1, a2⟩ := c_word hO hC hD (by omega) rfl q1
    obtain ⟨β', b1, b2⟩ := ka_fact (was := was) (u2 := u2) (u3 := u3) (u4 := u4) hR hQ hs rfl (by omega) q1
    have hp := la_pos (t := t) (n := n) (s := s) (e := e) h5.1 h5.2
    exact ⟨α', _, _, a1, a2, fun hd => absurd rfl hd, fun _ => ⟨EN_fact (fcW_F q1) (by omega), by simp; omega, hp, none, β', b1, b2⟩⟩
  by_cases q2 : lN_ t n (.inl (s, e)) = true
  · -- a number
    have hno := num_not q2
    obtain ⟨α', v, hv, a1, a2, a3⟩ := c_num hO hC hD (by omega) q2
    obtain ⟨b1, b2⟩ := ka_num (was := was) (u2 := u2) (u3 := u3) (u4 := u4) hR hQ hs (by omega) (by omega)
    refine ⟨α', _, _, a1, a2, b2, fun hl => ?_⟩
    obtain ⟨β', k1, k2⟩ := b1 hl
    have hp := lp_lU hl
    rw [← a3 hl] at k2
    exact ⟨EN_num hv (by omega), by simp; omega, hp, none, β', k1, k2⟩
  have q2 : lN_ t n (.inl (s, e)) = false := by simpa using q2
  by_cases q3 : ls t n (.inl (s, e)) = 40
  · -- a bracket
    have hno := sgn_not (by decide) q3
    obtain ⟨hsn', hk3, -⟩ := ls_of (c := 40) (by decide) q3
    rw [c_toBracket hO hC q2 (by omega)]
    obtain ⟨e1, e2⟩ := c_enter hO hC (.inr (by omega))
    obtain ⟨o1, o2⟩ := ka_open (was := was) (u2 := u2) (u3 := u3) (u4 := u4) hR hQ hs hO q3
    by_cases h6 : O = 6
    · obtain ⟨α1, a1, a2, a3⟩ := e2 h6
      obtain ⟨β', b1, b2⟩ := o2 h6
      have a2 : CS α1 t n (.inr (4, s)) := a2
      refine ⟨α1, .inr (4, s), [], ?_, ?_, fun _ => ⟨β', b1, b2⟩, fun q => by cases q⟩
      · rw [c_brFull 0 h6 hC q3 a1]
        rfl
      · refine ⟨a2, a3.mono (fun r j _ _ q => .inl q), ⟨L.length, by omega, ?_⟩, fun q => by cases q⟩
        rw [a3.i (by omega) (by omega) (by omega) (by omega)]; exact hD.1
    · obtain ⟨α1, a1, a2, a3⟩ := e1 (by omega)
      obtain ⟨u2', β1, b1, b2⟩ := o1 (by omega)
      have hD1 : DR α1 L := DR_un hD hS a3 (fun j => by omega) (by omega)
      have hp := la_pos (t := t) (n := n) (s := s) (e := e) hsn' (by omega)
      rw [c_brIn 0 (by omega) hC q3 a1 (CS_sh a2), b1]
      obtain ⟨α2, st2, toks, d1, d2, d3, d4⟩ := hJ α1 β1 _ _ (O + 1) b (W ++ [20]) L was u2' u3 u4 (by have : s < tkS t n s := hp; omega) a2 hD1 b2.1 b2.2.2 (by omega) (by have : s < tkS t n s := hp; simp; omega) (gD_app hW (by omega)) (W_mark W 20 b (by unfold isM; omega) hb) (fun d h1 h4 => lst_app W 20 d (by omega))
      have hS2 := CS_sh d2.1
      have d2' : CZ t n α α2 st2 (L ++ toks) := ⟨d2.1, (a3.mono (fun r j _ _ q => .inl q)).trans d2.2.1, d2.2.2.1, d2.2.2.2⟩
      rw [d1]
      simp -implicitDefEqProofs only [tg_sI, ln_sI, tg_sL, ln_sL, tg_sR, ln_sR, tg_sC, ln_sC, ai_sI, ai_sL, gL_sI, gR_sI, gI_sL, gR_sL, gI_sR, gL_sR, gI_sI, gL_sL, gR_sR, zlt_e, zln_e, zli_e, zll_e, zbI_e, zbL_e, zbR_e, zbV_e, zeR_e, zeN_s, zeN_n, Nat.reduceEqDiff, and_self, and_true, true_and, and_false, false_and, ite_true, ite_false, reduceIte, tg_12 hS2, gR_12_0 hS2, tg_8 hS2]
      by_cases hl : lL st2 = true
      · obtain ⟨s2, e2', rfl⟩ := lx_live hl
        obtain ⟨f1, f2, f3, f4, p, L', u1, β2, f5, f6, f7, f8⟩ := d4 hl
        have hs2n : s2 ≤ n := d2.1.2.1.1
        have f2 : (L ++ toks).length + (W ++ [20]).length + κ ≤ s2 := f2
        have f3 : tkS t n s < s2 := f3
        have hp' : s < tkS t n s := hp
        have hsm : sm (W ++ [20] ++ p.reverse) L' := by
          refine ⟨?_, gD_rev (gD_app hW (by omega)) p f8⟩
          have := congrArg List.length f7
          simp at this f2 ⊢
          omega
        have f6' := SV_t b2 f6
        obtain ⟨α3, g1, g2, g3, g4⟩ := j_close (was := was) (u1 := u1) d2' f6' hsm f7 f4 (.inl rfl) hb (fun x hx => by have := f8 x hx; omega)
        rw [g1, f5]
        refine ⟨α3, _, toks, rfl, g2, g3, fun hv => ?_⟩
        obtain ⟨k1, β3, k2, k3⟩ := g4 hv
        refine ⟨EN_mono f1 (by omega), ?_, by omega, u1, β3, k2, by simpa using k3⟩
        simp at f2 ⊢
        omega
      · obtain ⟨α3, g1, g2⟩ := c_takeSign d2.1 (c := 41) (by decide)
        have g1 : zM 109 [.ref 8, .int 41] α2 = some (none, α3) := g1
        rw [lG_dead2 hl] at g2
        obtain ⟨β', k1, k2⟩ := d3 hl
        rw [g1]
        exact ⟨α3, st2, toks, rfl, z_tok d2' rfl (by decide +kernel) g1 g2 (fun z => z), fun _ => ⟨β', k1, SD_t b2 k2⟩, fun z => absurd z hl⟩
  by_cases q4 : lw t n (.inl (s, e)) = 33 ∨ lw t n (.inl (s, e)) = 34
  · exact J_mm hκ hJ hf hC hD hR hQ hO hb hL hW rfl q4
  · -- nothing of all that
    have hno : lU t n 0 9999 (.inl (s, e)) = .inr (1, s) := lU_no q2 0 9999
    obtain ⟨b1, b2⟩ := ka_num (was := was) (u2 := u2) (u3 := u3) (u4 := u4) hR hQ hs q3 (by omega)
    rw [hno] at b2
    obtain ⟨α1, a1, a2⟩ := c_failHere hC (f := 1) (by decide) (by decide)
    have a1 : zM 107 [.ref 8, .int 1] α = some (none, α1) := a1
    have a2 : CS α1 t n (.inr (1, s)) := a2
    refine ⟨α1, .inr (1, s), [], ?_, z_tok (CZ_0 hC (by rw [List.append_nil]; exact hD)) rfl (by decide +kernel) a1 a2 (fun q => by cases q), fun hd => b2 hd, fun q => by cases q⟩
    rw [c_toBracket hO hC q2 (by omega), c_brNo (s := s) (e := e) 0 hO hC q3, a1]
    rfl
end
