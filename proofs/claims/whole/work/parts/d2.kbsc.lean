/-! the best box: the class finds it -/
section
variable {σ σ' σ1 σ2 : zS} {s : Nat → Int32} {pl f f0 g : Nat → Nat} {P A R N w b e y o d r p k so n z pr fa wi ch lv : Nat}
theorem c_hasAll (hS : Sh σ) (hP : HP P) (hk : k < 8) (hz : 30 ≤ z ∧ z ≤ 49) (hb : b < 32) (hi : inz z b) (hs : ∀ j, j < 20 → gI σ (P + 6) (20 * k + j) = s j) : zM 86 [.ref (P + 5), .int (nI k), .int (nI z), .int (nI b)] σ = some (some (.int (bI (stq s z b 5))), σ) := by
  have e := lp_seq (G := fun e => if stq s z b e = true then zR 3 86 2 [some (.ref (P + 5)), some (.int (nI k)), some (.int (nI z)), some (.int (nI b)), some (.int (nI e))] [] σ else some (some (.int 0), σ)) 5 (fun e he => by
    have e1 : stq s z b (e + 1) = (stq s z b e && (decide (b / 2 ^ e % 2 = 0) || decide (1 ≤ s (z + e - 32)))) := rfl
    by_cases q0 : stq s z b e = true
    · rw [if_pos q0, q_X9_hasAll_2, if_neg (show ¬ (5 : Int32) ≤ nI e from nI_ge (b := 5) he (by omega)), c_inb hb (by omega), zbI_e, nI_1, e1, q0, Bool.true_and]
      rcases (show b / 2 ^ e % 2 = 0 ∨ b / 2 ^ e % 2 = 1 by omega) with q | q
      · rw [q, if_pos (by decide), decide_eq_true rfl, Bool.true_or, if_pos rfl]
      · have rg := hi e he q
        have ex : nI k * 20 + (nI z + nI e - 2) - 30 = nI (20 * k + (z + e - 32)) := by
          rw [nI_mulR 20 k, nI_add, nI_subR (n := 2) (by omega), nI_add, nI_subR (n := 30) (by omega)]
          congr 1
          omega
        rw [q, if_neg (by decide), tg_P5 hS hP, if_pos rfl, q_X9_count, tg_P5 hS hP, if_pos rfl, gR_P5_0 hS hP, zeR_e, q_X9_placeOf, zbI_e, ex, if_pos (ai_nI (.inl (tg_P6 hS hP)) (ln_P6 hS hP) (show 20 * k + (z + e - 32) < 160 by omega) (by omega)), ixn (by omega), hs _ (by omega), zbI_e, decide_eq_false (show ¬ 1 = 0 by omega), Bool.false_or]
        by_cases q2 : 1 ≤ s (z + e - 32)
        · rw [if_pos q2, decide_eq_true q2, if_pos rfl]
        · rw [if_neg q2, decide_eq_false q2, if_neg (by decide)]
    · rw [if_neg q0, e1, if_neg]
      intro z
      rw [Bool.and_eq_true] at z
      exact q0 z.1)
  rw [q_X9_hasAll]
  have e : zR 3 86 2 [some (.ref (P + 5)), some (.int (nI k)), some (.int (nI z)), some (.int (nI b)), some (.int 0)] [] σ = if stq s z b 5 = true then zR 3 86 2 [some (.ref (P + 5)), some (.int (nI k)), some (.int (nI z)), some (.int (nI b)), some (.int (nI 5))] [] σ else some (some (.int 0), σ) := e
  rw [e]
  cases q : stq s z b 5 with
  | true => rw [if_pos rfl, q_X9_hasAll_2, if_pos (show (5 : Int32) ≤ nI 5 by decide)]; rfl
  | false => rw [if_neg (by decide)]; rfl
theorem c_best (hS : Sh σ) (hP : HP P) (h65 : gR σ 6 5 = some P) (hp : p < 20) (hk : k < 8) (hso : so < 4) (hc : CW σ P p k so pl f0 g w) (tA : tg σ A = 32) (lA : ln σ A = 5) (nA : A ≠ 105) (fA : ∀ d, d < 5 → f d ≤ 10000 ∧ gI σ A d = nI (f d)) (hm : CM σ P k pr fa wi) (hch : gI σ P 10 = nI ch) (h1 : gI σ (116 + 3 * p) 1 = nI z) (hz : 30 ≤ z ∧ z ≤ 49) (hs : ∀ j, j < 20 → gI σ (P + 6) (20 * k + j) = s j) : ∃ σ', zM 150 [.ref 6, .ref (116 + 3 * p), .ref A, .int (nI k)] σ = some (some (.int (nI (cls (okb s z) (fun b => (mbv pl f g w pr fa wi ch b).toInt) 31))), σ') ∧ Sh σ' ∧ Un (fun r _ => r = 105 ∨ r = 108) σ σ' ∧ SC σ' P pl w ∧ ∀ y, y < 7 → gL σ' 108 y = lN (bgp f g y) := by
  have hbb := HPb hP
  obtain ⟨s1, a1, a2, a3, a4, a5⟩ := c_lo (A := A) hS hP h65 hp hk hso hc tA lA nA fA
  have ux : Un Xs σ s1 := a3.mono (fun r j _ _ q => by unfold Xs; omega)
  have e65 : gR s1 6 5 = some P := by rw [a3.r (by omega) (by omega) (by omega) (by omega)]; exact h65
  have ech : gI s1 P 10 = nI ch := by rw [a3.i (by omega) (by omega) (by omega) (by omega)]; exact hch
  have ez : gI s1 (116 + 3 * p) 1 = nI z := by rw [a3.i (by omega) (by omega) (by omega) (by omega)]; exact h1
  have es : ∀ j, j < 20 → gI s1 (P + 6) (20 * k + j) = s j := fun j hj => by rw [a3.iA (by omega) (by omega) (by rw [tg_P6 hS hP]; omega) (by omega)]; exact hs j hj
  have hm1 := CM_xs hm hP hk ux
  refine ⟨s1, ?_, a2, a3, a4, a5⟩
  obtain ⟨⟨u7, u8⟩, e1, -⟩ := lp_run (F := fun i (u : Option Value × Option Value) => zR 4 150 11 [some (.ref 6), some (.ref (116 + 3 * p)), some (.ref A), some (.int (nI k)), some (.int (nI (cls (okb s z) (fun b => (mbv pl f g w pr fa wi ch b).toInt) i))), some (.int (if cls (okb s z) (fun b => (mbv pl f g w pr fa wi ch b).toInt) i = 0 then -1000000000 else mbv pl f g w pr fa wi ch (cls (okb s z) (fun b => (mbv pl f g w pr fa wi ch b).toInt) i))), some (.int (nI (i + 1))), u.1, u.2] [] s1) (fun _ _ => True) 31 (by
    rintro i ⟨u7, u8⟩ hi -
    have es1 : cls (okb s z) (fun b => (mbv pl f g w pr fa wi ch b).toInt) (i + 1) = if okb s z (i + 1) = true then (if cls (okb s z) (fun b => (mbv pl f g w pr fa wi ch b).toInt) i = 0 then i + 1 else if (mbv pl f g w pr fa wi ch (cls (okb s z) (fun b => (mbv pl f g w pr fa wi ch b).toInt) i)).toInt < (mbv pl f g w pr fa wi ch (i + 1)).toInt then i + 1 else if (mbv pl f g w pr fa wi ch (i + 1)).toInt = (mbv pl f g w pr fa wi ch (cls (okb s z) (fun b => (mbv pl f g w pr fa wi ch b).toInt) i)).toInt ∧ pc (i + 1) < pc (cls (okb s z) (fun b => (mbv pl f g w pr fa wi ch b).toInt) i) then i + 1 else cls (okb s z) (fun b => (mbv pl f g w pr fa wi ch b).toInt) i) else cls (okb s z) (fun b => (mbv pl f g w pr fa wi ch b).toInt) i := rfl
    have xin := cls_in (ok := okb s z) (v := fun b => (mbv pl f g w pr fa wi ch b).toInt) i
    show ∃ g', zR 4 150 11 [some (.ref 6), some (.ref (116 + 3 * p)), some (.ref A), some (.int (nI k)), some (.int (nI (cls (okb s z) (fun b => (mbv pl f g w pr fa wi ch b).toInt) i))), some (.int (if cls (okb s z) (fun b => (mbv pl f g w pr fa wi ch b).toInt) i = 0 then -1000000000 else mbv pl f g w pr fa wi ch (cls (okb s z) (fun b => (mbv pl f g w pr fa wi ch b).toInt) i))), some (.int (nI (i + 1))), u7, u8] [] s1 = _ ∧ True
    rw [es1]
    generalize cls (okb s z) (fun b => (mbv pl f g w pr fa wi ch b).toInt) i = x at xin ⊢
    have x31 : x ≤ 31 := by omega
    have b1 : 1 ≤ i + 1 := by omega
    have b2 : i + 1 < 32 := by omega
    have cc := c_can a2 hp ez hz b1 b2
    have n31 : ¬ (31 : Int32) < nI (i + 1) := nI_nlt (a := 31) (by omega) (by omega)
    by_cases qo : okb s z (i + 1) = true
    · obtain ⟨-, o1, o2, o3⟩ := okb_pc qo
      have cm := c_mean1 (ch := ch) a2 hP e65 hk a4 hm1 b1 b2 o1 a5
      have p1 := pc_lt5 (i + 1)
      have p2 := pc_lt5 x
      rw [if_pos qo, q_X11_bestBits_11, if_neg n31, tg_person a2 hp, if_pos rfl, cc, zbI_e, decide_eq_true o1, o2, Bool.true_and, if_neg (by decide), tg_6 a2, if_pos rfl, e65, zeR_e, tg_P a2 hP, if_pos rfl, gR_P_4 a2 hP, zeR_e, tg_person a2 hp, if_pos rfl, tg_P5 a2 hP, if_pos rfl, ez, c_hasAll a2 hP hk hz b2 (bz_inz o2) es, zbI_e, o3, if_neg (by decide), q_X11_bestBits_27, tg_6 a2, if_pos rfl, e65, zeR_e, tg_P a2 hP, if_pos rfl, if_pos rfl, ech, cm, zbI_e, c_bitc b2, zbI_e, c_bitc (show x < 32 by omega), zbI_e]
      have go54 : ∀ l8 : Int32, ∀ m : Int32, zR 4 150 54 [some (.ref 6), some (.ref (116 + 3 * p)), some (.ref A), some (.int (nI k)), some (.int (nI x)), some (.int m), some (.int (nI (i + 1))), some (.int (mbv pl f g w pr fa wi ch (i + 1))), some (.int l8)] [] s1 = zR 4 150 11 [some (.ref 6), some (.ref (116 + 3 * p)), some (.ref A), some (.int (nI k)), some (.int (nI (i + 1))), some (.int (if i + 1 = 0 then -1000000000 else mbv pl f g w pr fa wi ch (i + 1))), some (.int (nI (i + 1 + 1))), some (.int (mbv pl f g w pr fa wi ch (i + 1))), some (.int l8)] [] s1 := fun l8 m => by
        rw [q_X11_bestBits_54, q_X11_bestBits_59, nI_1, if_neg (show ¬ i + 1 = 0 by omega)]
      by_cases q0 : x = 0
      · have q00 : nI x = 0 := by rw [q0]; rfl
        rw [if_pos q0, if_pos q0]
        by_cases ql : nI (pc x) ≤ nI (pc (i + 1))
        · rw [if_pos ql, if_pos q00]
          exact ⟨(some (.int (mbv pl f g w pr fa wi ch (i + 1))), some (.int 0)), go54 0 _, trivial⟩
        · rw [if_neg ql, if_pos q00]
          exact ⟨(some (.int (mbv pl f g w pr fa wi ch (i + 1))), some (.int 1)), go54 1 _, trivial⟩
      · have q00 : ¬ nI x = 0 := nI_ne0 (by omega) (by omega)
        rw [if_neg q0, if_neg q0]
        have lt_iff : (mbv pl f g w pr fa wi ch x < mbv pl f g w pr fa wi ch (i + 1)) = ((mbv pl f g w pr fa wi ch x).toInt < (mbv pl f g w pr fa wi ch (i + 1)).toInt) := propext Int32.lt_iff_toInt_lt
        have eq_iff : (mbv pl f g w pr fa wi ch (i + 1) = mbv pl f g w pr fa wi ch x) = ((mbv pl f g w pr fa wi ch (i + 1)).toInt = (mbv pl f g w pr fa wi ch x).toInt) := propext Int32.toInt_inj.symm
        have le_iff : (nI (pc x) ≤ nI (pc (i + 1))) = (pc x ≤ pc (i + 1)) := propext (nI_leI (by omega) (by omega))
        have stay : ∀ l8 : Int32, zR 4 150 59 [some (.ref 6), some (.ref (116 + 3 * p)), some (.ref A), some (.int (nI k)), some (.int (nI x)), some (.int (mbv pl f g w pr fa wi ch x)), some (.int (nI (i + 1 + 1))), some (.int (mbv pl f g w pr fa wi ch (i + 1))), some (.int l8)] [] s1 = zR 4 150 11 [some (.ref 6), some (.ref (116 + 3 * p)), some (.ref A), some (.int (nI k)), some (.int (nI x)), some (.int (if x = 0 then -1000000000 else mbv pl f g w pr fa wi ch x)), some (.int (nI (i + 1 + 1))), some (.int (mbv pl f g w pr fa wi ch (i + 1))), some (.int l8)] [] s1 := fun l8 => by
          rw [q_X11_bestBits_59, if_neg q0]
        by_cases q1 : (mbv pl f g w pr fa wi ch x).toInt < (mbv pl f g w pr fa wi ch (i + 1)).toInt
        · have q1' : mbv pl f g w pr fa wi ch x < mbv pl f g w pr fa wi ch (i + 1) := by rw [lt_iff]; exact q1
          rw [if_pos q1]
          by_cases ql : nI (pc x) ≤ nI (pc (i + 1))
          · rw [if_pos ql, if_neg q00, if_pos q1']
            exact ⟨(some (.int (mbv pl f g w pr fa wi ch (i + 1))), some (.int 0)), go54 0 _, trivial⟩
          · rw [if_neg ql, if_neg q00, if_pos q1']
            exact ⟨(some (.int (mbv pl f g w pr fa wi ch (i + 1))), some (.int 1)), go54 1 _, trivial⟩
        · rw [if_neg q1]
          by_cases q2 : (mbv pl f g w pr fa wi ch (i + 1)).toInt = (mbv pl f g w pr fa wi ch x).toInt ∧ pc (i + 1) < pc x
          · rw [if_pos q2, if_neg (show ¬ nI (pc x) ≤ nI (pc (i + 1)) by rw [le_iff]; omega), if_neg q00, if_neg (show ¬ mbv pl f g w pr fa wi ch x < mbv pl f g w pr fa wi ch (i + 1) by rw [lt_iff]; exact q1), q_X11_bestBits_49, if_pos (show mbv pl f g w pr fa wi ch (i + 1) = mbv pl f g w pr fa wi ch x by rw [eq_iff]; exact q2.1), if_neg (by decide)]
            exact ⟨(some (.int (mbv pl f g w pr fa wi ch (i + 1))), some (.int 1)), go54 1 _, trivial⟩
          · rw [if_neg q2]
            by_cases q3 : pc x ≤ pc (i + 1)
            · rw [if_pos (show nI (pc x) ≤ nI (pc (i + 1)) by rw [le_iff]; exact q3), if_neg q00, if_neg (show ¬ mbv pl f g w pr fa wi ch x < mbv pl f g w pr fa wi ch (i + 1) by rw [lt_iff]; exact q1), q_X11_bestBits_49]
              refine ⟨(some (.int (mbv pl f g w pr fa wi ch (i + 1))), some (.int 0)), ?_, trivial⟩
              by_cases qe : mbv pl f g w pr fa wi ch (i + 1) = mbv pl f g w pr fa wi ch x
              · rw [if_pos qe, if_pos rfl, nI_1]; exact stay 0
              · rw [if_neg qe, nI_1]; exact stay 0
            · rw [if_neg (show ¬ nI (pc x) ≤ nI (pc (i + 1)) by rw [le_iff]; exact q3), if_neg q00, if_neg (show ¬ mbv pl f g w pr fa wi ch x < mbv pl f g w pr fa wi ch (i + 1) by rw [lt_iff]; exact q1), q_X11_bestBits_49, if_neg (show ¬ mbv pl f g w pr fa wi ch (i + 1) = mbv pl f g w pr fa wi ch x by rw [eq_iff]; exact fun y => q2 ⟨y, by omega⟩), nI_1]
              exact ⟨(some (.int (mbv pl f g w pr fa wi ch (i + 1))), some (.int 1)), stay 1, trivial⟩
    · rw [if_neg qo, q_X11_bestBits_11, if_neg n31, tg_person a2 hp, if_pos rfl, cc, zbI_e]
      refine ⟨(u7, u8), ?_, trivial⟩
      rw [okb_of b1 b2] at qo
      cases qc : (decide (pc (i + 1) ≤ 3) && bz z (i + 1) 5) with
      | false => rw [if_pos (by decide), q_X11_bestBits_59, nI_1]
      | true =>
        rw [qc, Bool.true_and] at qo
        rw [Bool.and_eq_true] at qc
        have q3 : stq s z (i + 1) 5 = false := by simpa using qo
        rw [if_neg (by decide), tg_6 a2, if_pos rfl, e65, zeR_e, tg_P a2 hP, if_pos rfl, gR_P_4 a2 hP, zeR_e, tg_person a2 hp, if_pos rfl, tg_P5 a2 hP, if_pos rfl, ez, c_hasAll a2 hP hk hz b2 (bz_inz qc.2) es, zbI_e, q3, if_pos (by decide), q_X11_bestBits_59, nI_1]) (none, none) trivial
  rw [q_X11_bestBits, tg_6 hS, if_pos rfl, a1, zbV_e]
  refine Eq.trans e1 ?_
  show zR 4 150 11 [some (.ref 6), some (.ref (116 + 3 * p)), some (.ref A), some (.int (nI k)), some (.int (nI (cls (okb s z) (fun b => (mbv pl f g w pr fa wi ch b).toInt) 31))), some (.int _), some (.int (nI (31 + 1))), u7, u8] [] s1 = _
  rw [q_X11_bestBits_11, if_pos (show (31 : Int32) < nI (31 + 1) by decide)]
end
