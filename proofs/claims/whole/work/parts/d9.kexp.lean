/-! back: pairs on their way -/
def apn (a : Nat → Nat) (c x : Nat) : Nat → Nat := fun i => if i = c then x else a i
/-- after the first e pairs of the box: how many are on their way, where to, when -/
def exC (b cm : Nat) : Nat → Nat
  | 0 => cm
  | e + 1 => if b / 2 ^ e % 2 = 1 then exC b cm e + 1 else exC b cm e
def exA (k z b cm : Nat) (a : Nat → Nat) : Nat → Nat → Nat
  | 0 => a
  | e + 1 => if b / 2 ^ e % 2 = 1 then apn (exA k z b cm a e) (exC b cm e) (20 * k + (z + e - 32)) else exA k z b cm a e
def exD (day b cm : Nat) (a : Nat → Nat) : Nat → Nat → Nat
  | 0 => a
  | e + 1 => if b / 2 ^ e % 2 = 1 then apn (exD day b cm a e) (exC b cm e) (day + 7) else exD day b cm a e
def HDc (σ : zS) (P day cm : Nat) (a d : Nat → Nat) : Prop := gI σ (P + 5) 3 = nI day ∧ gI σ (P + 5) 2 = nI cm ∧ ∀ w, w < 7 → ∀ l, l < 160 → gI σ (P + 7) (160 * w + l) = nI (cnt (fun k => decide (a k = l) && decide (d k % 7 = w)) cm)
def HDr (σ : zS) (day cm : Nat) (a d : Nat → Nat) : Prop := gI σ 176 82 = nI day ∧ gI σ 176 84 = nI cm ∧ ∀ k, k < cm → gI σ 243 k = nI (160 + a k) ∧ gI σ 244 k = nI (d k)
/-- the box without the pair that stays -/
def bts (b o : Nat) : Nat := if o = 5 then b else b - 2 ^ o
theorem bts_and : ∀ b, b < 32 → ∀ o, o < 5 → b / 2 ^ o % 2 = 1 → nI b &&& ((1 <<< (nI o &&& 31)) ^^^ (-1)) = nI (b - 2 ^ o) := by decide +kernel
theorem bts_bit : ∀ b, b < 32 → ∀ o, o < 5 → b / 2 ^ o % 2 = 1 → ∀ e, e < 5 → (b - 2 ^ o) / 2 ^ e % 2 = if e = o then 0 else b / 2 ^ e % 2 := by decide +kernel
section
variable {σ σ' σ1 σ2 : zS} {a d a' d' : Nat → Nat} {P N b e y o r p k so z cm day c w l n : Nat}
theorem exC_le : ∀ e, exC b cm e = cm + pcs b e := by
  intro e
  induction e with
  | zero => rfl
  | succ e ih =>
    show (if b / 2 ^ e % 2 = 1 then exC b cm e + 1 else exC b cm e) = cm + (pcs b e + b / 2 ^ e % 2)
    split
    · omega
    · omega
theorem ex_old : ∀ e i, i < cm → exA k z b cm a e i = a i ∧ exD day b cm d e i = d i := by
  intro e
  induction e with
  | zero => intro i _; exact ⟨rfl, rfl⟩
  | succ e ih =>
    intro i hi
    have h1 := ih i hi
    have h2 := exC_le (b := b) (cm := cm) e
    by_cases q : b / 2 ^ e % 2 = 1
    · have e1 : exA k z b cm a (e + 1) = apn (exA k z b cm a e) (exC b cm e) (20 * k + (z + e - 32)) := by show (if _ then _ else _) = _; rw [if_pos q]
      have e2 : exD day b cm d (e + 1) = apn (exD day b cm d e) (exC b cm e) (day + 7) := by show (if _ then _ else _) = _; rw [if_pos q]
      rw [e1, e2]
      unfold apn
      rw [if_neg (by omega), if_neg (by omega)]
      exact h1
    · have e1 : exA k z b cm a (e + 1) = exA k z b cm a e := by show (if _ then _ else _) = _; rw [if_neg q]
      have e2 : exD day b cm d (e + 1) = exD day b cm d e := by show (if _ then _ else _) = _; rw [if_neg q]
      rw [e1, e2]
      exact h1
/-- what is on its way stays within bounds -/
theorem ex_bd (hk : k < N) (hi : inz z b) (hz : 30 ≤ z ∧ z ≤ 49) (h : ∀ i, i < cm → a i < 20 * N ∧ day < d i ∧ d i ≤ day + 7) : ∀ e, e ≤ 5 → ∀ i, i < exC b cm e → exA k z b cm a e i < 20 * N ∧ day < exD day b cm d e i ∧ exD day b cm d e i ≤ day + 7 := by
  intro e
  induction e with
  | zero => intro _ i hi; exact h i hi
  | succ e ih =>
    intro he i hi'
    have ih := ih (by omega)
    by_cases q : b / 2 ^ e % 2 = 1
    · have rg := hi e (by omega) q
      have e1 : exA k z b cm a (e + 1) = apn (exA k z b cm a e) (exC b cm e) (20 * k + (z + e - 32)) := by show (if _ then _ else _) = _; rw [if_pos q]
      have e2 : exD day b cm d (e + 1) = apn (exD day b cm d e) (exC b cm e) (day + 7) := by show (if _ then _ else _) = _; rw [if_pos q]
      have e3 : exC b cm (e + 1) = exC b cm e + 1 := by show (if _ then _ else _) = _; rw [if_pos q]
      rw [e1, e2]
      unfold apn
      by_cases q2 : i = exC b cm e
      · rw [if_pos q2, if_pos q2]; omega
      · rw [if_neg q2, if_neg q2]; exact ih i (by omega)
    · have e1 : exA k z b cm a (e + 1) = exA k z b cm a e := by show (if _ then _ else _) = _; rw [if_neg q]
      have e2 : exD day b cm d (e + 1) = exD day b cm d e := by show (if _ then _ else _) = _; rw [if_neg q]
      have e3 : exC b cm (e + 1) = exC b cm e := by show (if _ then _ else _) = _; rw [if_neg q]
      rw [e1, e2]
      rw [e3] at hi'
      exact ih i hi'
theorem cnt_apn (x y : Nat) : cnt (fun k => decide (apn a c x k = l) && decide (apn d c y k % 7 = w)) (c + 1) = cnt (fun k => decide (a k = l) && decide (d k % 7 = w)) c + if x = l ∧ y % 7 = w then 1 else 0 := by
  show cnt (fun k => decide (apn a c x k = l) && decide (apn d c y k % 7 = w)) c + (if (decide (apn a c x c = l) && decide (apn d c y c % 7 = w)) = true then 1 else 0) = _
  rw [cnt_congr (g := fun k => decide (a k = l) && decide (d k % 7 = w)) c (fun i hi => by unfold apn; rw [if_neg (by omega), if_neg (by omega)])]
  unfold apn
  rw [if_pos rfl, if_pos rfl]
  by_cases q : x = l ∧ y % 7 = w
  · rw [if_pos q, decide_eq_true q.1, decide_eq_true q.2, if_pos (by decide)]
  · rw [if_neg q, if_neg]
    intro z
    rw [Bool.and_eq_true, decide_eq_true_eq, decide_eq_true_eq] at z
    exact q z
theorem xor_nn32 {x y : Int32} (hy : 0 < y) : (0 ≤ x ^^^ y) = (0 ≤ x) := by
  have e0 : (0 : Int32).toInt = 0 := rfl
  have hy' := Int32.lt_iff_toInt_lt.mp hy
  have m1 : x.toBitVec.msb = decide (x.toInt < 0) := BitVec.msb_eq_toInt
  have m2 : y.toBitVec.msb = decide (y.toInt < 0) := BitVec.msb_eq_toInt
  have m3 : (x ^^^ y).toBitVec.msb = decide ((x ^^^ y).toInt < 0) := BitVec.msb_eq_toInt
  have m4 : (x ^^^ y).toBitVec.msb = (x.toBitVec.msb ^^ y.toBitVec.msb) := BitVec.msb_xor
  rw [m4, m1, m2, decide_eq_false (show ¬ y.toInt < 0 by omega), Bool.xor_false] at m3
  have m5 := decide_eq_decide.mp m3
  apply propext
  rw [Int32.le_iff_toInt_le, Int32.le_iff_toInt_le]
  omega
theorem j_fm {m : Nat} (hm : m < 2 ^ 31) : zM 323 [.int (nI m), .int 7] σ = some (some (.int (nI (m % 7))), σ) := by
  rw [q_J9_floorMod_7cf53, if_neg (by decide), if_pos (by rw [xor_nn32 (by decide)]; exact nI_pos' hm), show (7 : Int32) = nI 7 from rfl, pk_rem hm (by omega) (by omega)]
theorem c_expect (hS : Sh σ) (hP : HP P) (hk : k < 8) (hz : 30 ≤ z ∧ z ≤ 49) (hb : b < 32) (hi : inz z b) (hd : day < 2 ^ 30) (h : HDc σ P day cm a d) : ∃ σ', zM 88 [.ref (P + 5), .int (nI k), .int (nI z), .int (nI b)] σ = some (none, σ') ∧ Sh σ' ∧ Un (fun r j => (r = P + 5 ∧ j = 2) ∨ r = P + 7) σ σ' ∧ HDc σ' P day (exC b cm 5) (exA k z b cm a 5) (exD day b cm d 5) := by
  have hbb := HPb hP
  have m7 := Nat.mod_lt day (show 0 < 7 by omega)
  obtain ⟨s1, e1, k1, k2, k3⟩ := lp_run (F := fun e (g : zS) => zR 2 88 9 [some (.ref (P + 5)), some (.int (nI k)), some (.int (nI z)), some (.int (nI b)), some (.int (nI (day % 7 * 160))), some (.int (nI e))] [] g) (fun e g => Sh g ∧ Un (fun r j => (r = P + 5 ∧ j = 2) ∨ r = P + 7) σ g ∧ HDc g P day (exC b cm e) (exA k z b cm a e) (exD day b cm d e)) 5 (by
    rintro e g he ⟨k1, k2, k3, k4, k5⟩
    rcases (show b / 2 ^ e % 2 = 0 ∨ b / 2 ^ e % 2 = 1 by omega) with q | q
    · have q' : ¬ b / 2 ^ e % 2 = 1 := by omega
      have e1 : exA k z b cm a (e + 1) = exA k z b cm a e := by show (if _ then _ else _) = _; rw [if_neg q']
      have e2 : exD day b cm d (e + 1) = exD day b cm d e := by show (if _ then _ else _) = _; rw [if_neg q']
      have e3 : exC b cm (e + 1) = exC b cm e := by show (if _ then _ else _) = _; rw [if_neg q']
      refine ⟨g, ?_, k1, k2, ?_⟩
      · rw [q_X9_expect_9, if_neg (show ¬ (5 : Int32) ≤ nI e from nI_ge (b := 5) he (by omega)), c_inb hb (by omega), zbI_e, q, if_pos (by decide), nI_1]
      · rw [e1, e2, e3]; exact ⟨k3, k4, k5⟩
    · have rg := hi e he q
      have e1 : exA k z b cm a (e + 1) = apn (exA k z b cm a e) (exC b cm e) (20 * k + (z + e - 32)) := by show (if _ then _ else _) = _; rw [if_pos q]
      have e2 : exD day b cm d (e + 1) = apn (exD day b cm d e) (exC b cm e) (day + 7) := by show (if _ then _ else _) = _; rw [if_pos q]
      have e3 : exC b cm (e + 1) = exC b cm e + 1 := by show (if _ then _ else _) = _; rw [if_pos q]
      have ix0 : nI (day % 7 * 160) + (nI k * 20 + (nI z + nI e - 2) - 30) = nI (160 * (day % 7) + (20 * k + (z + e - 32))) := by
        rw [plc_n hk hz he rg, nI_add, Nat.mul_comm]
      have lt0 : 160 * (day % 7) + (20 * k + (z + e - 32)) < 1120 := by omega
      have hS2 : Sh (sI g (P + 7) (160 * (day % 7) + (20 * k + (z + e - 32))) (gI g (P + 7) (160 * (day % 7) + (20 * k + (z + e - 32))) + 1)) := k1.sI (by omega)
      refine ⟨sI (sI g (P + 7) (160 * (day % 7) + (20 * k + (z + e - 32))) (gI g (P + 7) (160 * (day % 7) + (20 * k + (z + e - 32))) + 1)) (P + 5) 2 (nI (exC b cm e + 1)), ?_, hS2.sI (by omega), k2.trans ((Un_sI (.inr rfl)).trans (Un_sI (.inl ⟨rfl, rfl⟩))), ?_, ?_, fun w hw l hl => ?_⟩
      · rw [q_X9_expect_9, if_neg (show ¬ (5 : Int32) ≤ nI e from nI_ge (b := 5) he (by omega)), c_inb hb (by omega), zbI_e, q, if_neg (by decide), tg_P5 k1 hP, if_pos rfl, gR_P5_1 k1 hP, zeR_e, q_X9_placeOf, zbI_e, ix0, if_pos (ai_nI (.inl (tg_P7 k1 hP)) (ln_P7 k1 hP) lt0 (by omega)), if_pos (ai_nI (.inl (tg_P7 k1 hP)) (ln_P7 k1 hP) lt0 (by omega)), zlt_e, ixn (by omega), q_X9_expect_32, tg_P5 hS2 hP, if_pos rfl, if_pos rfl, zlt_e, gI_sI, if_neg (show ¬ (P + 5 = P + 7 ∧ 2 = 160 * (day % 7) + (20 * k + (z + e - 32))) by omega), k4, nI_1, nI_1]
      · rw [gI_sI, if_neg (by omega), gI_sI, if_neg (by omega)]; exact k3
      · rw [gI_sI, if_pos ⟨rfl, rfl⟩, e3]
      · rw [gI_sI, if_neg (by omega), gI_sI, e1, e2, e3, cnt_apn]
        by_cases q2 : 20 * k + (z + e - 32) = l ∧ (day + 7) % 7 = w
        · have : 160 * w + l = 160 * (day % 7) + (20 * k + (z + e - 32)) := by omega
          rw [if_pos ⟨rfl, this⟩, if_pos q2, ← this, k5 w hw l hl, nI_1]
        · rw [if_neg (fun x => q2 (by omega)), if_neg q2, Nat.add_zero]; exact k5 w hw l hl) σ ⟨hS, Un.refl _ _, h⟩
  refine ⟨s1, ?_, k1, k2, k3⟩
  rw [q_X9_expect, tg_P5 hS hP, if_pos rfl, h.1, j_fm (by omega), zbI_e, nI_mulR 160 (day % 7)]
  refine Eq.trans e1 ?_
  rw [q_X9_expect_9, if_pos (show (5 : Int32) ≤ nI 5 by decide)]
theorem r_exp (hS : Sh σ) (hp : p < 20) (hk : k < 8) (h1 : gI σ 233 p = nI z) (hz : 30 ≤ z ∧ z ≤ 49) (hb : b < 32) (ho : o ≤ 5) (hob : o = 5 ∨ b / 2 ^ o % 2 = 1) (hi : inz z b) (hd : day < 2 ^ 30) (hcm : cm + 5 ≤ 2000) (h : HDr σ day cm a d) : ∃ σ', zR 8 285 89 [some (.ref 176), some (.int (nI p)), some (.int (nI o)), some (.int (nI k)), some (.int (nI b)), some (.int 0)] [] σ = zR 8 285 89 [some (.ref 176), some (.int (nI p)), some (.int (nI o)), some (.int (nI k)), some (.int (nI b)), some (.int 5)] [] σ' ∧ Sh σ' ∧ Un (fun r j => (r = 176 ∧ j = 84) ∨ r = 243 ∨ r = 244) σ σ' ∧ HDr σ' day (exC (bts b o) cm 5) (exA k z (bts b o) cm a 5) (exD day (bts b o) cm d 5) := by
  have bb : ∀ e, e < 5 → bts b o / 2 ^ e % 2 = if e = o then 0 else b / 2 ^ e % 2 := fun e he => by
    unfold bts
    by_cases q : o = 5
    · rw [if_pos q, if_neg (by omega)]
    · rw [if_neg q]
      exact bts_bit b hb o (by omega) (hob.resolve_left q) e he
  have cl : ∀ e, e ≤ 5 → exC (bts b o) cm e ≤ cm + e := by
    intro e
    induction e with
    | zero => intro _; exact Nat.le_refl _
    | succ e ih =>
      intro he
      have := ih (by omega)
      by_cases x : bts b o / 2 ^ e % 2 = 1
      · have y : exC (bts b o) cm (e + 1) = exC (bts b o) cm e + 1 := by show (if _ then _ else _) = _; rw [if_pos x]
        omega
      · have y : exC (bts b o) cm (e + 1) = exC (bts b o) cm e := by show (if _ then _ else _) = _; rw [if_neg x]
        omega
  obtain ⟨s1, e1, k1, k2, k3⟩ := lp_run (F := fun e (g : zS) => zR 8 285 89 [some (.ref 176), some (.int (nI p)), some (.int (nI o)), some (.int (nI k)), some (.int (nI b)), some (.int (nI e))] [] g) (fun e g => Sh g ∧ Un (fun r j => (r = 176 ∧ j = 84) ∨ r = 243 ∨ r = 244) σ g ∧ HDr g day (exC (bts b o) cm e) (exA k z (bts b o) cm a e) (exD day (bts b o) cm d e)) 5 (by
    rintro e g he ⟨k1, k2, k3, k4, k5⟩
    have hz1 : gI g 233 p = nI z := by rw [k2.i (by omega) (by omega) (by omega) (by omega)]; exact h1
    have b0 := bb e he
    have c5 := cl e (by omega)
    by_cases q : bts b o / 2 ^ e % 2 = 1
    · have qo : ¬ e = o := fun x => by rw [if_pos x] at b0; omega
      rw [if_neg qo] at b0
      have qb : b / 2 ^ e % 2 = 1 := by omega
      have rg := hi e he qb
      have e1 : exA k z (bts b o) cm a (e + 1) = apn (exA k z (bts b o) cm a e) (exC (bts b o) cm e) (20 * k + (z + e - 32)) := by show (if _ then _ else _) = _; rw [if_pos q]
      have e2 : exD day (bts b o) cm d (e + 1) = apn (exD day (bts b o) cm d e) (exC (bts b o) cm e) (day + 7) := by show (if _ then _ else _) = _; rw [if_pos q]
      have e3 : exC (bts b o) cm (e + 1) = exC (bts b o) cm e + 1 := by show (if _ then _ else _) = _; rw [if_pos q]
      have hS2 : Sh (sI g 243 (exC (bts b o) cm e) (nI (160 + (20 * k + (z + e - 32))))) := k1.sI (by omega)
      have hS3 : Sh (sI (sI g 243 (exC (bts b o) cm e) (nI (160 + (20 * k + (z + e - 32))))) 244 (exC (bts b o) cm e) (nI (day + 7))) := hS2.sI (by omega)
      refine ⟨sI (sI (sI g 243 (exC (bts b o) cm e) (nI (160 + (20 * k + (z + e - 32))))) 244 (exC (bts b o) cm e) (nI (day + 7))) 176 84 (nI (exC (bts b o) cm e + 1)), ?_, hS3.sI (by omega), k2.trans ((Un_sI (by omega)).trans ((Un_sI (by omega)).trans (Un_sI (by omega)))), ?_, ?_, fun i hi => ?_⟩
      · have g84 : gI (sI g 243 (exC (bts b o) cm e) (nI (160 + (20 * k + (z + e - 32))))) 176 84 = nI (exC (bts b o) cm e) := by rw [gI_sI, if_neg (by omega)]; exact k4
        have g82 : gI (sI g 243 (exC (bts b o) cm e) (nI (160 + (20 * k + (z + e - 32))))) 176 82 = nI day := by rw [gI_sI, if_neg (by omega)]; exact k3
        have g84' : gI (sI (sI g 243 (exC (bts b o) cm e) (nI (160 + (20 * k + (z + e - 32))))) 244 (exC (bts b o) cm e) (nI (day + 7))) 176 84 = nI (exC (bts b o) cm e) := by rw [gI_sI, if_neg (by omega)]; exact g84
        rw [q_X12_cameBack_89, if_neg (show ¬ (5 : Int32) ≤ nI e from nI_ge (b := 5) he (by omega)), bit_sh b hb e (by omega), qb, if_neg (by decide), if_neg (fun x => qo ((nI_eq (by omega) (by omega)).mp x)), tg_176 k1, if_pos rfl, gR_176_85 k1, zeR_e, if_pos rfl, if_pos rfl, gR_176_72 k1, zeR_e, if_pos (ai_nI (.inl (tg_233 k1)) (ln_233 k1) hp (by omega)), if_pos rfl, ixn (show p < 2 ^ 31 by omega), hz1, q_X12_stockAt, zbI_e, plr_n hk hz he rg, k4, if_pos (ai_nI (.inl (tg_243 k1)) (ln_243 k1) (show exC (bts b o) cm e < 2000 by omega) (by omega)), zlt_e, ixn (by omega), q_X12_cameBack_118, tg_176 hS2, if_pos rfl, gR_176_86 hS2, zeR_e, if_pos rfl, if_pos rfl, g84, if_pos (ai_nI (.inl (tg_244 hS2)) (ln_244 hS2) (show exC (bts b o) cm e < 2000 by omega) (by omega)), zlt_e, ixn (by omega), g82, nI_addR 7 day, tg_176 hS3, if_pos rfl, if_pos rfl, g84', zlt_e, nI_1, nI_1]
      · rw [gI_sI, if_neg (by omega), gI_sI, if_neg (by omega), gI_sI, if_neg (by omega)]; exact k3
      · rw [gI_sI, if_pos ⟨rfl, rfl⟩, e3]
      · rw [e1, e2]
        rw [e3] at hi
        unfold apn
        by_cases q2 : i = exC (bts b o) cm e
        · rw [if_pos q2, if_pos q2]
          refine ⟨?_, ?_⟩
          · rw [gI_sI, if_neg (by omega), gI_sI, if_neg (by omega), gI_sI, if_pos ⟨rfl, q2⟩]
          · rw [gI_sI, if_neg (by omega), gI_sI, if_pos ⟨rfl, q2⟩]
        · rw [if_neg q2, if_neg q2]
          have old := k5 i (by omega)
          refine ⟨?_, ?_⟩
          · rw [gI_sI, if_neg (by omega), gI_sI, if_neg (by omega), gI_sI, if_neg (fun x => q2 x.2)]; exact old.1
          · rw [gI_sI, if_neg (by omega), gI_sI, if_neg (fun x => q2 x.2), gI_sI, if_neg (by omega)]; exact old.2
    · have e1 : exA k z (bts b o) cm a (e + 1) = exA k z (bts b o) cm a e := by show (if _ then _ else _) = _; rw [if_neg q]
      have e2 : exD day (bts b o) cm d (e + 1) = exD day (bts b o) cm d e := by show (if _ then _ else _) = _; rw [if_neg q]
      have e3 : exC (bts b o) cm (e + 1) = exC (bts b o) cm e := by show (if _ then _ else _) = _; rw [if_neg q]
      refine ⟨g, ?_, k1, k2, ?_⟩
      · rw [q_X12_cameBack_89, if_neg (show ¬ (5 : Int32) ≤ nI e from nI_ge (b := 5) he (by omega)), bit_sh b hb e (by omega)]
        rcases (show b / 2 ^ e % 2 = 0 ∨ b / 2 ^ e % 2 = 1 by omega) with y | y
        · rw [y, if_pos (by decide), nI_1]
        · have eo : e = o := by
            by_cases x : e = o
            · exact x
            · rw [if_neg x] at b0; omega
          rw [y, if_neg (by decide), if_pos (by rw [eo]), nI_1]
      · rw [e1, e2, e3]; exact ⟨k3, k4, k5⟩) σ ⟨hS, Un.refl _ _, h⟩
  exact ⟨s1, e1, k1, k2, k3⟩
end
