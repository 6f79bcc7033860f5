/-! the best box: the reference finds it -/
section
variable {σ σ' σ1 σ2 : zS} {s : Nat → Int32} {zf pl f g t' : Nat → Nat} {B P S M K np c A R N w b e y o d r p k so n z pr fa wi ch lv : Nat} {t : Nat → Nat}
theorem r_stock (hS : Sh σ) (hp : p < 20) (hk : k < 8) (h1 : gI σ 233 p = nI z) (hz : 30 ≤ z ∧ z ≤ 49) (hb : b < 32) (hi : inz z b) (hs : ∀ j, j < 20 → gI σ 224 (160 + (20 * k + j)) = s j) : zM 261 [.ref 176, .int (nI p), .int (nI k), .int (nI b)] σ = some (some (.int (bI (stq s z b 5))), σ) := by
  have e := lp_seq (G := fun e => zR 2 261 4 [some (.ref 176), some (.int (nI p)), some (.int (nI k)), some (.int (nI b)), some (.int (bI (stq s z b e))), some (.int (nI e))] [] σ) 5 (fun e he => by
    have e1 : stq s z b (e + 1) = (stq s z b e && (decide (b / 2 ^ e % 2 = 0) || decide (1 ≤ s (z + e - 32)))) := rfl
    rw [q_X12_isInStock_4, if_neg (show ¬ (5 : Int32) ≤ nI e from nI_ge (b := 5) he (by omega)), nI_1, e1]
    cases q0 : stq s z b e with
    | true =>
      rw [if_neg (by decide), bit_sh b hb e (by omega), Bool.true_and]
      rcases (show b / 2 ^ e % 2 = 0 ∨ b / 2 ^ e % 2 = 1 by omega) with q | q
      · rw [q, if_pos (by decide), decide_eq_true rfl, Bool.true_or]; rfl
      · have rg := hi e he q
        have ex : (160 : Int32) + 20 * nI k + (nI z + nI e - 2) - 30 = nI (160 + (20 * k + (z + e - 32))) := by
          rw [nI_mulL 20 k, nI_addL 160 (20 * k), nI_add, nI_subR (n := 2) (by omega), nI_add, nI_subR (n := 30) (by omega)]
          congr 1
          omega
        rw [q, if_neg (by decide), tg_176 hS, if_pos rfl, gR_176_57 hS, zeR_e, if_pos rfl, gR_176_72 hS, zeR_e, if_pos (ai_nI (.inl (tg_233 hS)) (ln_233 hS) hp (by omega)), if_pos rfl, ixn (by omega), h1, q_X12_stockAt, zbI_e, ex, if_pos (ai_nI (.inl (tg_224 hS)) (ln_224 hS) (show 160 + (20 * k + (z + e - 32)) < 320 by omega) (by omega)), ixn (by omega), hs _ (by omega), decide_eq_false (show ¬ 1 = 0 by omega), Bool.false_or]
        have le1 : (s (z + e - 32) ≤ 0) = ¬ (1 ≤ s (z + e - 32)) := by
          have e1 : (1 : Int32).toInt = 1 := by decide
          have e0 : (0 : Int32).toInt = 0 := rfl
          rw [Int32.le_iff_toInt_le, Int32.le_iff_toInt_le, e1, e0]
          apply propext
          omega
        by_cases q2 : 1 ≤ s (z + e - 32)
        · rw [if_neg (by rw [le1]; exact fun y => y q2), decide_eq_true q2]; rfl
        · rw [if_pos (by rw [le1]; exact q2), decide_eq_false q2]; rfl
    | false => rw [if_pos (by decide), Bool.false_and]; rfl)
  rw [q_X12_isInStock]
  refine Eq.trans e ?_
  rw [q_X12_isInStock_4, if_pos (show (5 : Int32) ≤ nI 5 by decide), bI_fit, if_pos rfl]
theorem r_best (hS : Sh σ) (p70 : gI σ 176 70 = nI np) (p20 : np ≤ 20) (n3 : gI σ 214 3 = nI N) (n8 : N ≤ 8) (hz' : ∀ p, p < np → 30 ≤ zf p ∧ zf p ≤ 49 ∧ gI σ 233 p = nI (zf p)) (hp : p < np) (hk : k < N) (hso : so < 4) (hr : RW σ p k so pl f g w) (hm : RM σ k pr fa wi) (hch : gI σ 223 5 = nI ch) (c99 : ch ≤ 99) (hf : f 0 + f 1 + f 2 + f 3 + f 4 = 10000) (hg : g 0 + g 1 + g 2 = 10000) (hs : ∀ j, j < 20 → gI σ 224 (160 + (20 * k + j)) = s j) : zM 262 [.ref 176, .int (nI p), .int (nI k)] σ = some (some (.int (nI (rrs (okb s (zf p)) (fun b => (mbv pl f g w pr fa wi ch b).toInt) 3))), σ) := by
  have hp20 : p < 20 := by omega
  have hk8 : k < 8 := by omega
  obtain ⟨z1, z2, z4⟩ := hz' p hp
  have inn : ∀ m, 1 ≤ m → m ≤ 3 → ∀ s0, (s0 = 0 ∨ (1 ≤ s0 ∧ s0 ≤ 31 ∧ okb s (zf p) s0 = true)) → ∀ v7 : Option Value, ∃ x7, zR 7 262 11 [some (.ref 176), some (.int (nI p)), some (.int (nI k)), some (.int (nI s0)), some (.int (if s0 = 0 then 0 else mbv pl f g w pr fa wi ch s0)), some (.int (nI m)), some (.int 1), v7] [] σ = zR 7 262 6 [some (.ref 176), some (.int (nI p)), some (.int (nI k)), some (.int (nI (rps (okb s (zf p)) (fun b => (mbv pl f g w pr fa wi ch b).toInt) m s0 31))), some (.int (if rps (okb s (zf p)) (fun b => (mbv pl f g w pr fa wi ch b).toInt) m s0 31 = 0 then 0 else mbv pl f g w pr fa wi ch (rps (okb s (zf p)) (fun b => (mbv pl f g w pr fa wi ch b).toInt) m s0 31))), some (.int (nI (m + 1))), some (.int 32), x7] [] σ := fun m m1 m3 s0 hs0 v7 => by
    obtain ⟨x7, e1, -⟩ := lp_run (F := fun i (u : Option Value) => zR 7 262 11 [some (.ref 176), some (.int (nI p)), some (.int (nI k)), some (.int (nI (rps (okb s (zf p)) (fun b => (mbv pl f g w pr fa wi ch b).toInt) m s0 i))), some (.int (if rps (okb s (zf p)) (fun b => (mbv pl f g w pr fa wi ch b).toInt) m s0 i = 0 then 0 else mbv pl f g w pr fa wi ch (rps (okb s (zf p)) (fun b => (mbv pl f g w pr fa wi ch b).toInt) m s0 i))), some (.int (nI m)), some (.int (nI (i + 1))), u] [] σ) (fun _ _ => True) 31 (by
      rintro i u hi -
      have es1 : rps (okb s (zf p)) (fun b => (mbv pl f g w pr fa wi ch b).toInt) m s0 (i + 1) = if pc (i + 1) = m ∧ okb s (zf p) (i + 1) = true then (if rps (okb s (zf p)) (fun b => (mbv pl f g w pr fa wi ch b).toInt) m s0 i = 0 then i + 1 else if (mbv pl f g w pr fa wi ch (rps (okb s (zf p)) (fun b => (mbv pl f g w pr fa wi ch b).toInt) m s0 i)).toInt < (mbv pl f g w pr fa wi ch (i + 1)).toInt then i + 1 else rps (okb s (zf p)) (fun b => (mbv pl f g w pr fa wi ch b).toInt) m s0 i) else rps (okb s (zf p)) (fun b => (mbv pl f g w pr fa wi ch b).toInt) m s0 i := rfl
      have xin := rps_in (n := m) (v := fun b => (mbv pl f g w pr fa wi ch b).toInt) hs0 i (by omega)
      show ∃ g', zR 7 262 11 [some (.ref 176), some (.int (nI p)), some (.int (nI k)), some (.int (nI (rps (okb s (zf p)) (fun b => (mbv pl f g w pr fa wi ch b).toInt) m s0 i))), some (.int (if rps (okb s (zf p)) (fun b => (mbv pl f g w pr fa wi ch b).toInt) m s0 i = 0 then 0 else mbv pl f g w pr fa wi ch (rps (okb s (zf p)) (fun b => (mbv pl f g w pr fa wi ch b).toInt) m s0 i))), some (.int (nI m)), some (.int (nI (i + 1))), u] [] σ = _ ∧ True
      rw [es1]
      generalize rps (okb s (zf p)) (fun b => (mbv pl f g w pr fa wi ch b).toInt) m s0 i = x at xin ⊢
      have x31 : x ≤ 31 := by omega
      have b1 : 1 ≤ i + 1 := by omega
      have b2 : i + 1 < 32 := by omega
      have p1 := pc_lt5 (i + 1)
      have n32 : ¬ (32 : Int32) ≤ nI (i + 1) := nI_ge (b := 32) (by omega) (by omega)
      rw [q_X12_bestBox_11, if_neg n32, r_pairs b2, zbI_e]
      by_cases qm : pc (i + 1) = m
      · have em : nI (pc (i + 1)) = nI m := by rw [qm]
        rw [if_pos em, tg_176 hS, if_pos rfl]
        have bxI := r_isBoxG hS p70 p20 n3 n8 hz' (nI p) (nI k) (nI (i + 1))
        by_cases qz : bz (zf p) (i + 1) 5 = true
        · have bx : BX np N zf (nI p) (nI k) (nI (i + 1)) := ⟨p, k, i + 1, hp, hk, b1, b2, by omega, qz, rfl, rfl, rfl⟩
          rw [bxI.1 bx, zbI_e, if_neg (by decide), tg_176 hS, if_pos rfl, r_stock hS hp20 hk8 z4 ⟨z1, z2⟩ b2 (bz_inz qz) hs, zbI_e]
          cases qs : stq s (zf p) (i + 1) 5 with
          | true =>
            have qo : okb s (zf p) (i + 1) = true := by
              rw [okb_of b1 b2, decide_eq_true (show pc (i + 1) ≤ 3 by omega), qz, qs]; rfl
            rw [if_pos (show pc (i + 1) = m ∧ okb s (zf p) (i + 1) = true from ⟨qm, qo⟩), if_neg (show ¬ bI true = 0 by decide), q_X12_bestBox_31, tg_176 hS, if_pos rfl, r_meanOf hS hp20 hk8 hso hr hm hch c99 hf hg b1 b2 (by omega), zbI_e]
            have nw : zR 7 262 47 [some (.ref 176), some (.int (nI p)), some (.int (nI k)), some (.int (nI (i + 1))), some (.int (mbv pl f g w pr fa wi ch (i + 1))), some (.int (nI m)), some (.int (nI (i + 1))), some (.int (mbv pl f g w pr fa wi ch (i + 1)))] [] σ = zR 7 262 11 [some (.ref 176), some (.int (nI p)), some (.int (nI k)), some (.int (nI (i + 1))), some (.int (if i + 1 = 0 then 0 else mbv pl f g w pr fa wi ch (i + 1))), some (.int (nI m)), some (.int (nI (i + 1 + 1))), some (.int (mbv pl f g w pr fa wi ch (i + 1)))] [] σ := by
              rw [q_X12_bestBox_47, nI_1, if_neg (show ¬ i + 1 = 0 by omega)]
            refine ⟨some (.int (mbv pl f g w pr fa wi ch (i + 1))), ?_, trivial⟩
            by_cases q0 : x = 0
            · rw [if_pos (show nI x = 0 by rw [q0]; rfl), if_pos q0]
              exact nw
            · have lt_iff : (mbv pl f g w pr fa wi ch x < mbv pl f g w pr fa wi ch (i + 1)) = ((mbv pl f g w pr fa wi ch x).toInt < (mbv pl f g w pr fa wi ch (i + 1)).toInt) := propext Int32.lt_iff_toInt_lt
              rw [if_neg (show ¬ nI x = 0 from nI_ne0 (by omega) (by omega)), if_neg q0, if_neg q0]
              by_cases q1 : (mbv pl f g w pr fa wi ch x).toInt < (mbv pl f g w pr fa wi ch (i + 1)).toInt
              · rw [if_pos (show mbv pl f g w pr fa wi ch x < mbv pl f g w pr fa wi ch (i + 1) by rw [lt_iff]; exact q1), if_pos q1]
                exact nw
              · rw [if_neg (show ¬ mbv pl f g w pr fa wi ch x < mbv pl f g w pr fa wi ch (i + 1) by rw [lt_iff]; exact q1), if_neg q1, q_X12_bestBox_47, nI_1, if_neg q0]
          | false =>
            have qo : ¬ (pc (i + 1) = m ∧ okb s (zf p) (i + 1) = true) := fun y => by
              have := okb_pc y.2
              rw [qs] at this
              exact absurd this.2.2.2 (by decide)
            rw [if_neg qo, if_pos (show bI false = 0 by decide)]
            exact ⟨u, by rw [q_X12_bestBox_47, nI_1], trivial⟩
        · have bx : ¬ BX np N zf (nI p) (nI k) (nI (i + 1)) := fun ⟨p', k', b', hp', hk', y1, y2, y3, y4, e1, e2, e3⟩ => by
            have ep := (nI_eq (by omega) (by omega)).mp e1
            have eb := (nI_eq (by omega) (by omega)).mp e3
            subst ep
            rw [← eb] at y4
            exact qz y4
          have qo : ¬ (pc (i + 1) = m ∧ okb s (zf p) (i + 1) = true) := fun y => qz (okb_pc y.2).2.2.1
          rw [bxI.2 bx, zbI_e, if_pos rfl, if_neg qo]
          exact ⟨u, by rw [q_X12_bestBox_47, nI_1], trivial⟩
      · rw [if_neg (show ¬ nI (pc (i + 1)) = nI m from fun y => qm ((nI_eq (by omega) (by omega)).mp y)), if_neg (show ¬ (pc (i + 1) = m ∧ okb s (zf p) (i + 1) = true) from fun y => qm y.1)]
        exact ⟨u, by rw [q_X12_bestBox_47, nI_1], trivial⟩) v7 trivial
    refine ⟨x7, ?_⟩
    refine Eq.trans e1 ?_
    show zR 7 262 11 [some (.ref 176), some (.int (nI p)), some (.int (nI k)), some (.int _), some (.int _), some (.int (nI m)), some (.int (nI (31 + 1))), x7] [] σ = _
    rw [q_X12_bestBox_11, if_pos (show (32 : Int32) ≤ nI (31 + 1) by decide), nI_1]
    rfl
  obtain ⟨⟨u6, u7⟩, e1, -⟩ := lp_run (F := fun i (u : Option Value × Option Value) => zR 7 262 6 [some (.ref 176), some (.int (nI p)), some (.int (nI k)), some (.int (nI (rrs (okb s (zf p)) (fun b => (mbv pl f g w pr fa wi ch b).toInt) i))), some (.int (if rrs (okb s (zf p)) (fun b => (mbv pl f g w pr fa wi ch b).toInt) i = 0 then 0 else mbv pl f g w pr fa wi ch (rrs (okb s (zf p)) (fun b => (mbv pl f g w pr fa wi ch b).toInt) i))), some (.int (nI (i + 1))), u.1, u.2] [] σ) (fun _ _ => True) 3 (by
    rintro i ⟨u6, u7⟩ hi -
    obtain ⟨x7, e⟩ := inn (i + 1) (by omega) (by omega) (rrs (okb s (zf p)) (fun b => (mbv pl f g w pr fa wi ch b).toInt) i) (rrs_in i) u7
    refine ⟨(some (.int 32), x7), ?_, trivial⟩
    show zR 7 262 6 [some (.ref 176), some (.int (nI p)), some (.int (nI k)), some (.int (nI (rrs (okb s (zf p)) (fun b => (mbv pl f g w pr fa wi ch b).toInt) i))), some (.int (if rrs (okb s (zf p)) (fun b => (mbv pl f g w pr fa wi ch b).toInt) i = 0 then 0 else mbv pl f g w pr fa wi ch (rrs (okb s (zf p)) (fun b => (mbv pl f g w pr fa wi ch b).toInt) i))), some (.int (nI (i + 1))), u6, u7] [] σ = _
    rw [q_X12_bestBox_6, if_neg (show ¬ (3 : Int32) < nI (i + 1) from nI_nlt (a := 3) (by omega) (by omega))]
    exact e) (none, none) trivial
  rw [q_X12_bestBox]
  refine Eq.trans e1 ?_
  show zR 7 262 6 [some (.ref 176), some (.int (nI p)), some (.int (nI k)), some (.int (nI (rrs (okb s (zf p)) (fun b => (mbv pl f g w pr fa wi ch b).toInt) 3))), some (.int _), some (.int (nI (3 + 1))), u6, u7] [] σ = _
  rw [q_X12_bestBox_6, if_pos (show (3 : Int32) < nI (3 + 1) by decide)]
end
