/-! hold: both answer alike -/
def hsx (el : Nat → Bool) (v : Nat → Int) : Nat → Nat
  | 0 => 99
  | i + 1 => if el i = true then (if hsx el v i = 99 then i else if v (hsx el v i) < v i then i else hsx el v i) else hsx el v i
theorem sh1 : ∀ e, e < 5 → (1 : Int32) <<< (nI e &&& 31) = nI (2 ^ e) ∧ 1 ≤ 2 ^ e ∧ 2 ^ e < 32 ∧ pc (2 ^ e) = 1 := by decide +kernel
section
variable {σ σ' σ1 σ2 : zS} {zf t : Nat → Nat} {B P S N M K np c n k zz i : Nat}
theorem hsx_le {el : Nat → Bool} {v : Nat → Int} : ∀ i, i ≤ 99 → hsx el v i = 99 ∨ hsx el v i < i
  | 0, _ => .inl rfl
  | i + 1, hi => by
    have := hsx_le (el := el) (v := v) i (by omega)
    by_cases q : el i = true
    · by_cases q2 : hsx el v i = 99
      · have e : hsx el v (i + 1) = i := by show (if _ then _ else _) = _; rw [if_pos q, if_pos q2]
        omega
      · by_cases q3 : v (hsx el v i) < v i
        · have e : hsx el v (i + 1) = i := by show (if _ then _ else _) = _; rw [if_pos q, if_neg q2, if_pos q3]
          omega
        · have e : hsx el v (i + 1) = hsx el v i := by show (if _ then _ else _) = _; rw [if_pos q, if_neg q2, if_neg q3]
          omega
    · have e : hsx el v (i + 1) = hsx el v i := by show (if _ then _ else _) = _; rw [if_neg q]
      omega
theorem st_val (h : RR B σ c P S N M K np t n) (hk : k < N) (hz : 30 ≤ zz ∧ zz ≤ 49) : zM 163 [.ref 6, .int (nI k), .int (nI zz)] σ = some (some (.int (gI σ 224 (160 + (20 * k + zz - 30)))), σ) ∧ zM 288 [.ref 176, .int (nI k), .int (nI zz)] σ = some (some (.int (gI σ 224 (160 + (20 * k + zz - 30)))), σ) := by
  have hS := h.1
  have hP := h.2.1.1
  have n8 := (RR_hn h).1.2.1
  have q := rng_ok hk (show N < 2 ^ 31 by omega)
  have qb : (30 : Int32) ≤ nI zz ∧ nI zz ≤ 49 := ⟨nI_le (a := 30) hz.1 (by omega), nI_le (b := 49) hz.2 (by omega)⟩
  have hs : HS σ P N := h.2.2.2.2.2.1.2.2.2.2.2.2.2.2.2
  have e1 : nI k * 20 + nI zz - 30 = nI (20 * k + zz - 30) := by
    rw [nI_mulR 20 k, nI_add, nI_subR (n := 30) (by omega), Nat.mul_comm]
  have e2 : 160 + 20 * nI k + nI zz - 30 = nI (160 + (20 * k + zz - 30)) := by
    rw [nI_mulL 20 k, nI_addL 160 (20 * k), nI_add, nI_subR (n := 30) (by omega)]
    congr 1
    omega
  constructor
  · rw [q_X11_stock]
    simp -implicitDefEqProofs only [tg_sI, ln_sI, tg_sL, ln_sL, tg_sR, ln_sR, tg_sC, ln_sC, ai_sI, ai_sL, gL_sI, gR_sI, gI_sL, gR_sL, gI_sR, gL_sR, gI_sI, gL_sL, gR_sR, zlt_e, zln_e, zli_e, zll_e, zbI_e, zbL_e, zbR_e, zbV_e, zeR_e, zeN_s, zeN_n, Nat.reduceEqDiff, and_self, and_true, true_and, and_false, false_and, ite_true, ite_false, reduceIte, tg_6 hS, RR_cL h, if_pos q, sz_c, if_pos qb, h.2.1.2.2.2.1, tg_P hS hP, gR_P_4 hS hP, tg_P5 hS hP, q_X9_count, gR_P5_0 hS hP, q_X9_placeOf, e1]
    rw [if_neg (by decide), if_neg (by decide), if_pos (ai_nI (.inl (tg_P6 hS hP)) (ln_P6 hS hP) (show 20 * k + zz - 30 < 160 by omega) (by omega)), ixn (by omega), zbI_e, hs _ (by omega)]
  · rw [q_X12_stock]
    simp -implicitDefEqProofs only [tg_sI, ln_sI, tg_sL, ln_sL, tg_sR, ln_sR, tg_sC, ln_sC, ai_sI, ai_sL, gL_sI, gR_sI, gI_sL, gR_sL, gI_sR, gL_sR, gI_sI, gL_sL, gR_sR, zlt_e, zln_e, zli_e, zll_e, zbI_e, zbL_e, zbR_e, zbV_e, zeR_e, zeN_s, zeN_n, Nat.reduceEqDiff, and_self, and_true, true_and, and_false, false_and, ite_true, ite_false, reduceIte, tg_176 hS, RR_rL h, if_pos q, sz_r, if_pos qb, gR_176_57 hS, q_X12_stockAt, e2]
    rw [if_neg (by decide), if_neg (by decide), if_pos (ai_nI (.inl (tg_224 hS)) (ln_224 hS) (show 160 + (20 * k + zz - 30) < 320 by omega) (by omega)), ixn (by omega)]
theorem st_out (h : RR B σ c P S N M K np t n) {a b : Int32} (hq : ¬ (0 ≤ a ∧ a < nI N) ∨ ¬ (30 ≤ b ∧ b ≤ 49)) : zM 163 [.ref 6, .int a, .int b] σ = some (some (.int (-1)), σ) ∧ zM 288 [.ref 176, .int a, .int b] σ = some (some (.int (-1)), σ) := by
  have hS := h.1
  by_cases q : 0 ≤ a ∧ a < nI N
  · have qb := hq.resolve_left (fun z => z q)
    constructor
    · rw [q_X11_stock]
      simp -implicitDefEqProofs only [tg_sI, ln_sI, tg_sL, ln_sL, tg_sR, ln_sR, tg_sC, ln_sC, ai_sI, ai_sL, gL_sI, gR_sI, gI_sL, gR_sL, gI_sR, gL_sR, gI_sI, gL_sL, gR_sR, zlt_e, zln_e, zli_e, zll_e, zbI_e, zbL_e, zbR_e, zbV_e, zeR_e, zeN_s, zeN_n, Nat.reduceEqDiff, and_self, and_true, true_and, and_false, false_and, ite_true, ite_false, reduceIte, tg_6 hS, RR_cL h, if_pos q, sz_c, if_neg qb]
      rw [if_neg (by decide)]
    · rw [q_X12_stock]
      simp -implicitDefEqProofs only [tg_sI, ln_sI, tg_sL, ln_sL, tg_sR, ln_sR, tg_sC, ln_sC, ai_sI, ai_sL, gL_sI, gR_sI, gI_sL, gR_sL, gI_sR, gL_sR, gI_sI, gL_sL, gR_sR, zlt_e, zln_e, zli_e, zll_e, zbI_e, zbL_e, zbR_e, zbV_e, zeR_e, zeN_s, zeN_n, Nat.reduceEqDiff, and_self, and_true, true_and, and_false, false_and, ite_true, ite_false, reduceIte, tg_176 hS, RR_rL h, if_pos q, sz_r, if_neg qb]
      rw [if_neg (by decide)]
  · constructor
    · rw [q_X11_stock]
      simp -implicitDefEqProofs only [tg_sI, ln_sI, tg_sL, ln_sL, tg_sR, ln_sR, tg_sC, ln_sC, ai_sI, ai_sL, gL_sI, gR_sI, gI_sL, gR_sL, gI_sR, gL_sR, gI_sI, gL_sL, gR_sR, zlt_e, zln_e, zli_e, zll_e, zbI_e, zbL_e, zbR_e, zbV_e, zeR_e, zeN_s, zeN_n, Nat.reduceEqDiff, and_self, and_true, true_and, and_false, false_and, ite_true, ite_false, reduceIte, tg_6 hS, RR_cL h, if_neg q]
    · rw [q_X12_stock]
      simp -implicitDefEqProofs only [tg_sI, ln_sI, tg_sL, ln_sL, tg_sR, ln_sR, tg_sC, ln_sC, ai_sI, ai_sL, gL_sI, gR_sI, gI_sL, gR_sL, gI_sR, gL_sR, gI_sI, gL_sL, gR_sR, zlt_e, zln_e, zli_e, zll_e, zbI_e, zbL_e, zbR_e, zbV_e, zeR_e, zeN_s, zeN_n, Nat.reduceEqDiff, and_self, and_true, true_and, and_false, false_and, ite_true, ite_false, reduceIte, tg_176 hS, RR_rL h, if_neg q]
theorem hd_ti {a b : Nat} (ha : a < 1000) (hb : b < 1000) : (nI a - nI b + 2 : Int32).toInt = (a : Int) - b + 2 := by
  have e2 : (2 : Int32).toInt = 2 := by decide
  rw [Int32.toInt_add, Int32.toInt_sub, nI_toInt (by omega), nI_toInt (by omega), e2, Int.bmod_eq_of_le (n := ((a : Int) - b)) (by omega) (by omega), Int.bmod_eq_of_le (by omega) (by omega)]
theorem op_hold (h : RR B σ c P S N M K np t n) (x y : Int32) : Al B σ c 174 [.ref 6, .int x, .int y] 304 [.ref 176, .int x, .int y] := by
  have hS := h.1
  have hP := h.2.1.1
  have hbb := HPb hP
  have p20 := (RR_pn h).1
  have n8 := (RR_hn h).1.2.1
  have h65 := h.2.1.2.2.2.1
  obtain ⟨zf, hz⟩ := RR_zf h
  have out : (¬ (0 ≤ x ∧ x < nI N) ∨ ¬ (30 ≤ y ∧ y ≤ 49)) → Al B σ c 174 [.ref 6, .int x, .int y] 304 [.ref 176, .int x, .int y] := fun q => by
    obtain ⟨s1, s2⟩ := st_out h q
    refine Al_rd h (-1) ?_ ?_
    · rw [q_X11_hold, tg_6 hS, if_pos rfl, s1, zbI_e, if_neg (by decide)]
    · rw [q_X12_hold, tg_176 hS, if_pos rfl, s2, zbI_e, if_neg (by decide)]
  rcases rng_no x (N := N) (by omega) with q | ⟨k, hk, rfl⟩
  · exact out (.inl q)
  by_cases qb : ¬ (30 ≤ y ∧ y ≤ 49)
  · exact out (.inr qb)
  have qb : 30 ≤ y ∧ y ≤ 49 := Classical.not_not.mp qb
  obtain ⟨zz, y1, y2, rfl⟩ := sz_ix qb
  have hk8 : k < 8 := by omega
  obtain ⟨st1, st2⟩ := st_val h hk ⟨y1, y2⟩
  by_cases q1 : ¬ gI σ 224 (160 + (20 * k + zz - 30)) = 1
  · refine Al_rd h (-1) ?_ ?_
    · rw [q_X11_hold, tg_6 hS, if_pos rfl, st1, zbI_e, if_neg q1]
    · rw [q_X12_hold, tg_176 hS, if_pos rfl, st2, zbI_e, if_neg q1]
  have q1 : gI σ 224 (160 + (20 * k + zz - 30)) = 1 := Classical.not_not.mp q1
  -- the means of both
  have hm : ∀ p, ∃ m : Int32, p < np → ∀ e, e < 5 → zz + 2 = zf p + e → (∀ s, Sh s → Un (fun r _ => r = 105 ∨ r = 108) σ s → ∃ s', zM 145 [.ref 6, .int (nI p), .int (nI k), .int (nI (2 ^ e))] s = some (some (.int m), s') ∧ Sh s' ∧ Un (fun r _ => r = 105 ∨ r = 108) s s') ∧ ∀ s, Sh s → Un (fun r _ => r = 105 ∨ r = 108) σ s → zM 257 [.ref 176, .int (nI p), .int (nI k), .int (nI (2 ^ e))] s = some (some (.int m), s) := fun p => by
    by_cases hp : p < np
    · have hp20 : p < 20 := by omega
      obtain ⟨so, pl, f, g, w, s1, s4, f1, g1, hc, hr⟩ := RR_wd h hp hk
      obtain ⟨pr, fa, wi, ch, lv, c99, l100, hm, hm2, hc1, hc2, hl1, hl2⟩ := RR_md h hk s1
      refine ⟨mbv pl f g w pr fa wi ch (2 ^ (zz + 2 - zf p)), fun _ e he ee => ?_⟩
      have e0 : zz + 2 - zf p = e := by omega
      rw [e0]
      obtain ⟨-, t1, t2, t3⟩ := sh1 e he
      refine ⟨fun s hSs us => ?_, fun s hSs us => ?_⟩
      · have ux : Un Xs σ s := us.mono (fun r j _ _ q => by unfold Xs; omega)
        exact c_plain hSs hP (by rw [us.r (by omega) (by omega) (by omega) (by omega)]; exact h65) hp20 hk8 s4 (CW_xs hc hP hp20 hk8 s4 ux) (CM_xs hm hP hk8 ux) (by rw [us.i (by omega) (by omega) (by omega) (by omega)]; exact hc1) t1 t2 (by omega)
      · have ux : Un Xs σ s := us.mono (fun r j _ _ q => by unfold Xs; omega)
        exact r_meanOf hSs hp20 hk8 s4 (RW_xs hr hp20 hk8 s4 ux) (RM_xs hm2 hk8 ux) (by rw [us.i (by omega) (by omega) (by omega) (by omega)]; exact hc2) c99 f1 g1 t1 t2 (by omega)
    · exact ⟨0, fun hp' => absurd hp' hp⟩
  obtain ⟨mv, hmv⟩ := Classical.axiomOfChoice hm
  -- who may
  have el_or : ∀ p, p < np → (gI σ (116 + 3 * p) 6 = 0 ∧ gI σ 238 p = -1) ∨ (¬ gI σ (116 + 3 * p) 6 = 0 ∧ ¬ gI σ 238 p = -1) := fun p hp => by
    obtain ⟨so, z, -, -, -, -, -, p6, -⟩ := h.2.2.2.2.2.2.2.2.1 p hp
    exact PB_or p6 n8
  obtain ⟨⟨σ1, u6, u7⟩, e1, k1, k2⟩ := lp_run (F := fun i (u : zS × Option Value × Option Value) => zR 5 174 14 [some (.ref 6), some (.int (nI k)), some (.int (nI zz)), some (.int (if hsx (fun p => decide (gI σ 238 p = -1) && (decide (zf p ≤ zz + 2) && decide (zz + 2 < zf p + 5))) (fun p => (mv p).toInt) i = 99 then -1 else nI (hsx (fun p => decide (gI σ 238 p = -1) && (decide (zf p ≤ zz + 2) && decide (zz + 2 < zf p + 5))) (fun p => (mv p).toInt) i))), some (.int (if hsx (fun p => decide (gI σ 238 p = -1) && (decide (zf p ≤ zz + 2) && decide (zz + 2 < zf p + 5))) (fun p => (mv p).toInt) i = 99 then -1000000000 else mv (hsx (fun p => decide (gI σ 238 p = -1) && (decide (zf p ≤ zz + 2) && decide (zz + 2 < zf p + 5))) (fun p => (mv p).toInt) i))), some (.int (nI i)), u.2.1, u.2.2] [] u.1) (fun i u => Sh u.1 ∧ Un (fun r _ => r = 105 ∨ r = 108) σ u.1) np (by
    rintro i ⟨s, u6, u7⟩ hi ⟨k1, k2⟩
    have k1 : Sh s := k1
    have k2 : Un (fun r _ => r = 105 ∨ r = 108) σ s := k2
    have i20 : i < 20 := by omega
    obtain ⟨z1, z2, z3, z4⟩ := hz i hi
    have g10 : gI s 6 10 = nI np := by rw [k2.i (by omega) (by omega) (by omega) (by omega)]; exact (RR_pn h).2.1
    have gz : gI s (116 + 3 * i) 1 = nI (zf i) := by rw [k2.i (by omega) (by omega) (by omega) (by omega)]; exact z3
    have g6 : gI s (116 + 3 * i) 6 = gI σ (116 + 3 * i) 6 := by rw [k2.i (by omega) (by omega) (by omega) (by omega)]
    have ap := ai_nI (σ := s) (t := 69) (u := 69) (.inl (tg_104 k1)) (ln_104 k1) i20 (by omega)
    have ti := hd_ti (show zz < 1000 by omega) (show zf i < 1000 by omega)
    have es : hsx (fun p => decide (gI σ 238 p = -1) && (decide (zf p ≤ zz + 2) && decide (zz + 2 < zf p + 5))) (fun p => (mv p).toInt) (i + 1) = if (decide (gI σ 238 i = -1) && (decide (zf i ≤ zz + 2) && decide (zz + 2 < zf i + 5))) = true then (if hsx (fun p => decide (gI σ 238 p = -1) && (decide (zf p ≤ zz + 2) && decide (zz + 2 < zf p + 5))) (fun p => (mv p).toInt) i = 99 then i else if (mv (hsx (fun p => decide (gI σ 238 p = -1) && (decide (zf p ≤ zz + 2) && decide (zz + 2 < zf p + 5))) (fun p => (mv p).toInt) i)).toInt < (mv i).toInt then i else hsx (fun p => decide (gI σ 238 p = -1) && (decide (zf p ≤ zz + 2) && decide (zz + 2 < zf p + 5))) (fun p => (mv p).toInt) i) else hsx (fun p => decide (gI σ 238 p = -1) && (decide (zf p ≤ zz + 2) && decide (zz + 2 < zf p + 5))) (fun p => (mv p).toInt) i := rfl
    have hl := hsx_le (el := fun p => decide (gI σ 238 p = -1) && (decide (zf p ≤ zz + 2) && decide (zz + 2 < zf p + 5))) (v := fun p => (mv p).toInt) i (by omega)
    show ∃ g', zR 5 174 14 [some (.ref 6), some (.int (nI k)), some (.int (nI zz)), some (.int (if hsx (fun p => decide (gI σ 238 p = -1) && (decide (zf p ≤ zz + 2) && decide (zz + 2 < zf p + 5))) (fun p => (mv p).toInt) i = 99 then -1 else nI (hsx (fun p => decide (gI σ 238 p = -1) && (decide (zf p ≤ zz + 2) && decide (zz + 2 < zf p + 5))) (fun p => (mv p).toInt) i))), some (.int (if hsx (fun p => decide (gI σ 238 p = -1) && (decide (zf p ≤ zz + 2) && decide (zz + 2 < zf p + 5))) (fun p => (mv p).toInt) i = 99 then -1000000000 else mv (hsx (fun p => decide (gI σ 238 p = -1) && (decide (zf p ≤ zz + 2) && decide (zz + 2 < zf p + 5))) (fun p => (mv p).toInt) i))), some (.int (nI i)), u6, u7] [] s = _ ∧ _
    rw [es]
    generalize hsx (fun p => decide (gI σ 238 p = -1) && (decide (zf p ≤ zz + 2) && decide (zz + 2 < zf p + 5))) (fun p => (mv p).toInt) i = w at hl ⊢
    have st : ∀ F1 F2 : Int32, zR 5 174 14 [some (.ref 6), some (.int (nI k)), some (.int (nI zz)), some (.int F1), some (.int F2), some (.int (nI i)), u6, u7] [] s = if gI σ (116 + 3 * i) 6 = 0 then (if (nI zz - nI (zf i) + 2) < 0 then (zR 5 174 14 [some (.ref 6), some (.int (nI k)), some (.int (nI zz)), some (.int F1), some (.int F2), some (.int (nI (i + 1))), some (.int (nI zz - nI (zf i) + 2)), u7] [] s) else (if 5 ≤ (nI zz - nI (zf i) + 2) then (zR 5 174 14 [some (.ref 6), some (.int (nI k)), some (.int (nI zz)), some (.int F1), some (.int F2), some (.int (nI (i + 1))), some (.int (nI zz - nI (zf i) + 2)), u7] [] s) else (zR 5 174 39 [some (.ref 6), some (.int (nI k)), some (.int (nI zz)), some (.int F1), some (.int F2), some (.int (nI i)), some (.int (nI zz - nI (zf i) + 2)), u7] [] s))) else (zR 5 174 14 [some (.ref 6), some (.int (nI k)), some (.int (nI zz)), some (.int F1), some (.int F2), some (.int (nI (i + 1))), some (.int (nI zz - nI (zf i) + 2)), u7] [] s) := fun F1 F2 => by
      rw [q_X11_hold_14, tg_6 k1, if_pos rfl, g10, if_neg (nI_ge hi (by omega)), if_pos rfl, gR_6_9 k1, zeR_e, if_pos ap, ixn (by omega), gR_people k1 i20, zeR_e, tg_person k1 i20, if_pos rfl, if_pos rfl, zeR_e, if_pos ap, gR_people k1 i20, zeR_e, tg_person k1 i20, if_pos rfl, q_X4_hasBox, tg_person k1 i20, if_pos rfl, gz, g6, nI_1]
      by_cases z : gI σ (116 + 3 * i) 6 = 0
      · rw [if_pos z, zbI_e, if_pos rfl, if_pos z]
      · rw [if_neg z, zbI_e, if_neg (by decide), if_neg z]
    rw [st]
    rcases el_or i hi with ⟨o1, o2⟩ | ⟨o1, o2⟩
    · rw [if_pos o1, decide_eq_true o2, Bool.true_and]
      by_cases q2 : zf i ≤ zz + 2
      · rw [if_neg (by rw [Int32.lt_iff_toInt_lt, ti]; have : (0 : Int32).toInt = 0 := rfl; omega), decide_eq_true q2, Bool.true_and]
        by_cases q3 : zz + 2 < zf i + 5
        · have e0 : nI zz - nI (zf i) + 2 = nI (zz + 2 - zf i) := by
            apply Int32.toInt_inj.mp
            rw [ti, nI_toInt (by omega)]
            omega
          obtain ⟨t1, t2, t3, t4⟩ := sh1 (zz + 2 - zf i) (by omega)
          obtain ⟨s', a1, a2, a3⟩ := (hmv i hi (zz + 2 - zf i) (by omega) (by omega)).1 s k1 k2
          rw [if_neg (by rw [Int32.le_iff_toInt_le, ti]; have : (5 : Int32).toInt = 5 := by decide
                         omega), decide_eq_true q3, if_pos rfl, q_X11_hold_39, tg_6 k1, if_pos rfl, e0, t1, a1, zbI_e, nI_1]
          refine ⟨(s', some (.int (nI (zz + 2 - zf i))), some (.int (mv i))), ?_, a2, k2.trans a3⟩
          by_cases w9 : w = 99
          · rw [if_pos w9, if_pos rfl, if_pos w9, if_neg (show ¬ i = 99 by omega), if_neg (show ¬ i = 99 by omega)]
          · rw [if_neg w9, if_neg w9, if_neg (show ¬ nI w = -1 from nI_nm1 (by omega)), if_neg w9]
            by_cases q5 : (mv w).toInt < (mv i).toInt
            · rw [if_neg (show ¬ mv i ≤ mv w by rw [Int32.le_iff_toInt_le]; omega), if_pos q5, if_neg (show ¬ i = 99 by omega), if_neg (show ¬ i = 99 by omega)]
            · rw [if_pos (show mv i ≤ mv w by rw [Int32.le_iff_toInt_le]; omega), if_neg q5, if_neg w9, if_neg w9]
        · rw [if_pos (by rw [Int32.le_iff_toInt_le, ti]; have : (5 : Int32).toInt = 5 := by decide
                         omega), decide_eq_false q3, if_neg (show ¬ false = true by decide)]
          exact ⟨(s, some (.int (nI zz - nI (zf i) + 2)), u7), rfl, k1, k2⟩
      · rw [if_pos (by rw [Int32.lt_iff_toInt_lt, ti]; have : (0 : Int32).toInt = 0 := rfl; omega), decide_eq_false q2, Bool.false_and, if_neg (show ¬ false = true by decide)]
        exact ⟨(s, some (.int (nI zz - nI (zf i) + 2)), u7), rfl, k1, k2⟩
    · rw [if_neg o1, decide_eq_false o2, Bool.false_and, if_neg (show ¬ false = true by decide)]
      exact ⟨(s, some (.int (nI zz - nI (zf i) + 2)), u7), rfl, k1, k2⟩) (σ, none, none) ⟨hS, Un.refl _ _⟩
  have k1 : Sh σ1 := k1
  have k2 : Un (fun r _ => r = 105 ∨ r = 108) σ σ1 := k2
  have ux : Un Xs σ σ1 := k2.mono (fun r j _ _ q => by unfold Xs; omega)
  have h' := RR_xs h ux k1
  have hz' := ZF_xs hz p20 ux
  have g238 : ∀ p, p < np → gI σ1 238 p = gI σ 238 p := fun p hp => by rw [k2.i (by omega) (by omega) (by omega) (by omega)]
  obtain ⟨⟨v6, v7⟩, e2, -⟩ := lp_run (F := fun i (u : Option Value × Option Value) => zR 7 304 14 [some (.ref 176), some (.int (nI k)), some (.int (nI zz)), some (.int (if hsx (fun p => decide (gI σ 238 p = -1) && (decide (zf p ≤ zz + 2) && decide (zz + 2 < zf p + 5))) (fun p => (mv p).toInt) i = 99 then -1 else nI (hsx (fun p => decide (gI σ 238 p = -1) && (decide (zf p ≤ zz + 2) && decide (zz + 2 < zf p + 5))) (fun p => (mv p).toInt) i))), some (.int (if hsx (fun p => decide (gI σ 238 p = -1) && (decide (zf p ≤ zz + 2) && decide (zz + 2 < zf p + 5))) (fun p => (mv p).toInt) i = 99 then 0 else mv (hsx (fun p => decide (gI σ 238 p = -1) && (decide (zf p ≤ zz + 2) && decide (zz + 2 < zf p + 5))) (fun p => (mv p).toInt) i))), some (.int (nI i)), u.1, u.2] [] σ1) (fun _ _ => True) np (by
    rintro i ⟨u6, u7⟩ hi -
    have i20 : i < 20 := by omega
    obtain ⟨z1, z2, z3, z4⟩ := hz' i hi
    have g70 : gI σ1 176 70 = nI np := (RR_pn h').2.2
    have ti := hd_ti (show zz < 1000 by omega) (show zf i < 1000 by omega)
    have r04 := isInL (a := nI zz - nI (zf i) + 2) (x := 0) (y := 4) (X := 0) (Y := 4) (s := σ1) (by decide +kernel) (by decide +kernel)
    have es : hsx (fun p => decide (gI σ 238 p = -1) && (decide (zf p ≤ zz + 2) && decide (zz + 2 < zf p + 5))) (fun p => (mv p).toInt) (i + 1) = if (decide (gI σ 238 i = -1) && (decide (zf i ≤ zz + 2) && decide (zz + 2 < zf i + 5))) = true then (if hsx (fun p => decide (gI σ 238 p = -1) && (decide (zf p ≤ zz + 2) && decide (zz + 2 < zf p + 5))) (fun p => (mv p).toInt) i = 99 then i else if (mv (hsx (fun p => decide (gI σ 238 p = -1) && (decide (zf p ≤ zz + 2) && decide (zz + 2 < zf p + 5))) (fun p => (mv p).toInt) i)).toInt < (mv i).toInt then i else hsx (fun p => decide (gI σ 238 p = -1) && (decide (zf p ≤ zz + 2) && decide (zz + 2 < zf p + 5))) (fun p => (mv p).toInt) i) else hsx (fun p => decide (gI σ 238 p = -1) && (decide (zf p ≤ zz + 2) && decide (zz + 2 < zf p + 5))) (fun p => (mv p).toInt) i := rfl
    have hl := hsx_le (el := fun p => decide (gI σ 238 p = -1) && (decide (zf p ≤ zz + 2) && decide (zz + 2 < zf p + 5))) (v := fun p => (mv p).toInt) i (by omega)
    show ∃ g', zR 7 304 14 [some (.ref 176), some (.int (nI k)), some (.int (nI zz)), some (.int (if hsx (fun p => decide (gI σ 238 p = -1) && (decide (zf p ≤ zz + 2) && decide (zz + 2 < zf p + 5))) (fun p => (mv p).toInt) i = 99 then -1 else nI (hsx (fun p => decide (gI σ 238 p = -1) && (decide (zf p ≤ zz + 2) && decide (zz + 2 < zf p + 5))) (fun p => (mv p).toInt) i))), some (.int (if hsx (fun p => decide (gI σ 238 p = -1) && (decide (zf p ≤ zz + 2) && decide (zz + 2 < zf p + 5))) (fun p => (mv p).toInt) i = 99 then 0 else mv (hsx (fun p => decide (gI σ 238 p = -1) && (decide (zf p ≤ zz + 2) && decide (zz + 2 < zf p + 5))) (fun p => (mv p).toInt) i))), some (.int (nI i)), u6, u7] [] σ1 = _ ∧ _
    rw [es]
    generalize hsx (fun p => decide (gI σ 238 p = -1) && (decide (zf p ≤ zz + 2) && decide (zz + 2 < zf p + 5))) (fun p => (mv p).toInt) i = w at hl ⊢
    rw [q_X12_hold_14, tg_176 k1, if_pos rfl, g70, if_neg (nI_ge hi (by omega)), if_pos rfl, gR_176_72 k1, zeR_e, if_pos (ai_nI (.inl (tg_233 k1)) (ln_233 k1) i20 (by omega)), if_pos rfl, gR_176_77 k1, zeR_e, if_pos (ai_nI (.inl (tg_238 k1)) (ln_238 k1) i20 (by omega)), ixn (by omega), z4, g238 i hi, nI_1]
    by_cases o2 : gI σ 238 i = -1
    · rw [if_pos o2, decide_eq_true o2, Bool.true_and, r04, zbI_e]
      by_cases q2 : zf i ≤ zz + 2 ∧ zz + 2 < zf i + 5
      · have e0 : nI zz - nI (zf i) + 2 = nI (zz + 2 - zf i) := by
          apply Int32.toInt_inj.mp
          rw [ti, nI_toInt (by omega)]
          omega
        obtain ⟨t1, t2, t3, t4⟩ := sh1 (zz + 2 - zf i) (by omega)
        have a1 := (hmv i hi (zz + 2 - zf i) (by omega) (by omega)).2 σ1 k1 k2
        have rr : (0 : Int32) ≤ nI zz - nI (zf i) + 2 ∧ nI zz - nI (zf i) + 2 ≤ 4 := by
          rw [e0]
          exact ⟨nI_pos' (by omega), nI_le (b := 4) (by omega) (by omega)⟩
        rw [if_pos rr, if_neg (show ¬ (1 : Int32) = 0 by decide), decide_eq_true q2.1, decide_eq_true q2.2, Bool.true_and, if_pos (show true = true from rfl), q_X12_hold_40, tg_176 k1, if_pos rfl, e0, t1, a1, zbI_e, nI_1]
        refine ⟨(some (.int (nI (zz + 2 - zf i))), some (.int (mv i))), ?_, trivial⟩
        by_cases w9 : w = 99
        · rw [if_pos w9, if_pos rfl, if_pos w9, if_neg (show ¬ i = 99 by omega), if_neg (show ¬ i = 99 by omega)]
        · rw [if_neg w9, if_neg w9, if_neg (show ¬ nI w = -1 from nI_nm1 (by omega)), if_neg w9]
          by_cases q5 : (mv w).toInt < (mv i).toInt
          · rw [if_pos (show mv w < mv i by rw [Int32.lt_iff_toInt_lt]; exact q5), if_pos q5, if_neg (show ¬ i = 99 by omega), if_neg (show ¬ i = 99 by omega)]
          · rw [if_neg (show ¬ mv w < mv i by rw [Int32.lt_iff_toInt_lt]; exact q5), if_neg q5, if_neg w9, if_neg w9]
      · have rr : ¬ ((0 : Int32) ≤ nI zz - nI (zf i) + 2 ∧ nI zz - nI (zf i) + 2 ≤ 4) := by
          rintro ⟨a1, a2⟩
          have e0 : (0 : Int32).toInt = 0 := rfl
          have e4 : (4 : Int32).toInt = 4 := by decide
          rw [Int32.le_iff_toInt_le, ti] at a1 a2
          omega
        have nf : (decide (zf i ≤ zz + 2) && decide (zz + 2 < zf i + 5)) = false := by
          rw [Bool.and_eq_false_iff, decide_eq_false_iff_not, decide_eq_false_iff_not]
          omega
        rw [if_neg rr, if_pos (show (0 : Int32) = 0 from rfl), nf, if_neg (show ¬ false = true by decide)]
        exact ⟨(some (.int (nI zz - nI (zf i) + 2)), u7), rfl, trivial⟩
    · rw [if_neg o2, decide_eq_false o2, Bool.false_and, if_neg (show ¬ false = true by decide)]
      exact ⟨(some (.int (nI zz - nI (zf i) + 2)), u7), rfl, trivial⟩) (none, none) trivial
  obtain ⟨st1', st2'⟩ := st_val h' hk ⟨y1, y2⟩
  have q1' : gI σ1 224 (160 + (20 * k + zz - 30)) = 1 := by rw [k2.iA (by omega) (by omega) (by rw [tg_224 hS]; omega) (by omega)]; exact q1
  refine ⟨(if hsx (fun p => decide (gI σ 238 p = -1) && (decide (zf p ≤ zz + 2) && decide (zz + 2 < zf p + 5))) (fun p => (mv p).toInt) np = 99 then -1 else nI (hsx (fun p => decide (gI σ 238 p = -1) && (decide (zf p ≤ zz + 2) && decide (zz + 2 < zf p + 5))) (fun p => (mv p).toInt) np)), σ1, σ1, ?_, k1, ?_, P, S, N, M, K, np, t, n, RR_mono h' (by omega)⟩
  · rw [q_X11_hold, tg_6 hS, if_pos rfl, st1, zbI_e, if_pos q1]
    refine Eq.trans e1 ?_
    have g10 : gI σ1 6 10 = nI np := (RR_pn h').2.1
    rw [q_X11_hold_14, tg_6 k1, if_pos rfl, g10, if_pos (nI_le (Nat.le_refl _) (by omega))]
  · rw [q_X12_hold, tg_176 k1, if_pos rfl, st2', zbI_e, if_pos q1']
    refine Eq.trans e2 ?_
    have g70 : gI σ1 176 70 = nI np := (RR_pn h').2.2
    rw [q_X12_hold_14, tg_176 k1, if_pos rfl, g70, if_pos (nI_le (Nat.le_refl _) (by omega))]
end
