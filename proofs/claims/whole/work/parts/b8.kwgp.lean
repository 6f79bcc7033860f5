/-! weights: how a pair fits, the best pair, how likely; both alike -/
def smN (f : Nat → Nat) : Nat → Nat
  | 0 => 0
  | n + 1 => smN f n + f n
def plg (pl : Nat → Nat) (e y : Nat) : Nat := if y ≤ e + 3 ∧ e + 3 < y + 5 then pl (e + 3 - y) else 0
def bpr (pl : Nat → Nat) (B y : Nat) : Nat → Nat
  | 0 => 5
  | e + 1 => if B / 2 ^ e % 2 = 0 then bpr pl B y e else if bpr pl B y e = 5 then e else if plg pl e y ≤ plg pl (bpr pl B y e) y then bpr pl B y e else e
def kpg (pl : Nat → Nat) (w B y : Nat) : Nat := plg pl (bpr pl B y 5) y * (100 - w)
def lik (pl : Nat → Nat) (w B o y : Nat) : Nat := if o = 5 then 10000 - kpg pl w B y else if o = bpr pl B y 5 then kpg pl w B y else 0
/-- the scales as a person's sort and the house lay them -/
def SC (σ : zS) (P : Nat) (pl : Nat → Nat) (w : Nat) : Prop := gR σ 105 3 = some (P + 4) ∧ gI σ 105 4 = nI (100 - w) ∧ ∀ d, d < 5 → pl d ≤ 100 ∧ gI σ (P + 4) d = nI (pl d)
theorem bit_sh : ∀ b, b < 32 → ∀ e, e < 6 → (nI b >>> (nI e &&& 31)) &&& 1 = nI (b / 2 ^ e % 2) := by decide +kernel
section
variable {σ σ' σ1 σ2 : zS} {pl f g : Nat → Nat} {P w b e y o d r p k so n : Nat}
theorem plg_le (h : ∀ d, d < 5 → pl d ≤ 100) : plg pl e y ≤ 100 := by
  unfold plg
  split
  · exact h _ (by omega)
  · omega
theorem bpr_lt : ∀ e, e ≤ 5 → bpr pl b y e = 5 ∨ bpr pl b y e < e := by
  intro e
  induction e with
  | zero => intro _; exact .inl rfl
  | succ e ih =>
    intro he
    have := ih (by omega)
    unfold bpr
    split
    · omega
    · split
      · omega
      · split <;> omega
theorem bpr_bit : ∀ e, e ≤ 5 → bpr pl b y e ≠ 5 → b / 2 ^ bpr pl b y e % 2 = 1 := by
  intro e
  induction e with
  | zero => intro _ h; exact absurd rfl h
  | succ e ih =>
    intro he h
    by_cases q : b / 2 ^ e % 2 = 0
    · have e1 : bpr pl b y (e + 1) = bpr pl b y e := by show (if _ then _ else _) = _; rw [if_pos q]
      rw [e1] at h ⊢
      exact ih (by omega) h
    · by_cases q5 : bpr pl b y e = 5
      · have e1 : bpr pl b y (e + 1) = e := by show (if _ then _ else _) = _; rw [if_neg q, if_pos q5]
        rw [e1]; omega
      · by_cases q6 : plg pl e y ≤ plg pl (bpr pl b y e) y
        · have e1 : bpr pl b y (e + 1) = bpr pl b y e := by show (if _ then _ else _) = _; rw [if_neg q, if_neg q5, if_pos q6]
          rw [e1]
          exact ih (by omega) q5
        · have e1 : bpr pl b y (e + 1) = e := by show (if _ then _ else _) = _; rw [if_neg q, if_neg q5, if_neg q6]
          rw [e1]; omega
theorem bpr_no : ∀ e, e ≤ 5 → bpr pl b y e = 5 → ∀ i, i < e → b / 2 ^ i % 2 = 0 := by
  intro e
  induction e with
  | zero => intro _ _ i hi; omega
  | succ e ih =>
    intro he h i hi
    have l := bpr_lt (pl := pl) (b := b) (y := y) e (by omega)
    by_cases q : b / 2 ^ e % 2 = 0
    · have e1 : bpr pl b y (e + 1) = bpr pl b y e := by show (if _ then _ else _) = _; rw [if_pos q]
      rw [e1] at h
      rcases Nat.lt_or_ge i e with z | z
      · exact ih (by omega) h i z
      · have : i = e := by omega
        rw [this]; exact q
    · exfalso
      by_cases q5 : bpr pl b y e = 5
      · have e1 : bpr pl b y (e + 1) = e := by show (if _ then _ else _) = _; rw [if_neg q, if_pos q5]
        omega
      · by_cases q6 : plg pl e y ≤ plg pl (bpr pl b y e) y
        · have e1 : bpr pl b y (e + 1) = bpr pl b y e := by show (if _ then _ else _) = _; rw [if_neg q, if_neg q5, if_pos q6]
          omega
        · have e1 : bpr pl b y (e + 1) = e := by show (if _ then _ else _) = _; rw [if_neg q, if_neg q5, if_neg q6]
          omega
theorem bits0 : ∀ b, b < 32 → (b % 2 = 0 ∧ b / 2 % 2 = 0 ∧ b / 4 % 2 = 0 ∧ b / 8 % 2 = 0 ∧ b / 16 % 2 = 0) → b = 0 := by decide +kernel
theorem bpr_in (h1 : 1 ≤ b) (h2 : b < 32) : bpr pl b y 5 < 5 := by
  rcases bpr_lt (pl := pl) (b := b) (y := y) 5 (by omega) with q | q
  · exfalso
    have h := bpr_no 5 (by omega) q
    have z0 := h 0 (by omega)
    have z1 := h 1 (by omega)
    have z2 := h 2 (by omega)
    have z3 := h 3 (by omega)
    have z4 := h 4 (by omega)
    simp only [Nat.pow_zero, Nat.div_one, Nat.reducePow] at z0 z1 z2 z3 z4
    have := bits0 b h2 ⟨z0, z1, z2, z3, z4⟩
    omega
  · exact q
theorem kpg_le (h : ∀ d, d < 5 → pl d ≤ 100) : kpg pl w b y ≤ 10000 := by
  have := plg_le (e := bpr pl b y 5) (y := y) h
  unfold kpg
  exact Nat.le_trans (Nat.mul_le_mul this (Nat.sub_le 100 w)) (by omega)
theorem lik_le (h : ∀ d, d < 5 → pl d ≤ 100) : lik pl w b o y ≤ 10000 := by
  have := kpg_le (w := w) (b := b) (y := y) h
  unfold lik
  split
  · omega
  · split <;> omega
/-- the class's side -/
theorem pg_ti (he : e < 100) (hy : y < 100) : (nI e - nI y + 3 : Int32).toInt = (e : Int) - y + 3 := by
  have e3 : (3 : Int32).toInt = 3 := by decide
  rw [Int32.toInt_add, Int32.toInt_sub, nI_toInt (by omega), nI_toInt (by omega), e3, Int.bmod_eq_of_le (n := ((e : Int) - y)) (by omega) (by omega), Int.bmod_eq_of_le (by omega) (by omega)]
theorem c_plg (hS : Sh σ) (hP : HP P) (h : SC σ P pl w) (he : e < 5) (hy : y < 7) : zM 68 [.ref 105, .int (nI e), .int (nI y)] σ = some (some (.int (nI (plg pl e y))), σ) := by
  have ti := pg_ti (show e < 100 by omega) (show y < 100 by omega)
  have z0 : (0 : Int32).toInt = 0 := rfl
  have z5 : (5 : Int32).toInt = 5 := by decide
  rw [q_X7_pleasesBy]
  unfold plg
  by_cases q1 : y ≤ e + 3
  · have ee : nI e - nI y + 3 = nI (e + 3 - y) := by
      apply Int32.toInt_inj.mp
      rw [ti, nI_toInt (by omega)]
      omega
    rw [if_neg (by rw [Int32.lt_iff_toInt_lt, ti]; omega)]
    by_cases q2 : e + 3 < y + 5
    · rw [if_neg (by rw [Int32.le_iff_toInt_le, ti]; omega), tg_105 hS, if_pos rfl, h.1, zeR_e, ee, if_pos (ai_nI (.inl (tg_P4 hS hP)) (ln_P4 hS hP) (show e + 3 - y < 5 by omega) (by omega)), ixn (by omega), (h.2.2 _ (by omega)).2, if_pos ⟨q1, q2⟩]
    · rw [if_pos (by rw [Int32.le_iff_toInt_le, ti]; omega), if_neg (fun z => q2 z.2)]
      rfl
  · rw [if_pos (by rw [Int32.lt_iff_toInt_lt, ti]; omega), if_neg (fun z => q1 z.1)]
    rfl
theorem c_inb (hb : b < 32) (he : e < 6) : zM 134 [.int (nI b), .int (nI e)] σ = some (some (.int (nI (b / 2 ^ e % 2))), σ) := by
  rw [q_X11_isInBox, bit_sh b hb e he]
  rcases (show b / 2 ^ e % 2 = 0 ∨ b / 2 ^ e % 2 = 1 by omega) with q | q
  · rw [q, if_neg (by decide)]; rfl
  · rw [q, if_pos (by decide)]; rfl
theorem c_bpr (hS : Sh σ) (hP : HP P) (h : SC σ P pl w) (hb : b < 32) (hy : y < 7) : zM 69 [.ref 105, .int (nI b), .int (nI y)] σ = some (some (.int (nI (bpr pl b y 5))), σ) := by
  have e := lp_seq (G := fun e => zR 2 69 4 [some (.ref 105), some (.int (nI b)), some (.int (nI y)), some (.int (nI (bpr pl b y e))), some (.int (nI e))] [] σ) 5 (fun e he => by
    have l := bpr_lt (pl := pl) (b := b) (y := y) e (by omega)
    have l1 : plg pl e y ≤ 100 := plg_le (fun d hd => (h.2.2 d hd).1)
    have l2 : plg pl (bpr pl b y e) y ≤ 100 := plg_le (fun d hd => (h.2.2 d hd).1)
    rw [q_X7_bestPair_4, if_neg (show ¬ (5 : Int32) ≤ nI e from nI_ge (b := 5) he (by omega)), c_inb hb (by omega), zbI_e, nI_1]
    rcases (show b / 2 ^ e % 2 = 0 ∨ b / 2 ^ e % 2 = 1 by omega) with q | q
    · have e1 : bpr pl b y (e + 1) = bpr pl b y e := by show (if _ then _ else _) = _; rw [if_pos q]
      rw [q, if_pos (by decide), e1, q_X7_bestPair_26]
    · have q' : ¬ b / 2 ^ e % 2 = 0 := by omega
      rw [q, if_neg (by decide)]
      by_cases q5 : bpr pl b y e = 5
      · have e1 : bpr pl b y (e + 1) = e := by show (if _ then _ else _) = _; rw [if_neg q', if_pos q5]
        rw [q5, if_pos (by decide), e1, q_X7_bestPair_23, q_X7_bestPair_26, nI_1]
      · rw [if_neg (show ¬ nI (bpr pl b y e) = 5 from fun z => q5 ((nI_eq (b := 5) (by omega) (by omega)).mp z)), tg_105 hS, if_pos rfl, c_plg hS hP h (by omega) hy, zbI_e, tg_105 hS, if_pos rfl, c_plg hS hP h (by omega) hy, zbI_e]
        by_cases q6 : plg pl e y ≤ plg pl (bpr pl b y e) y
        · have e1 : bpr pl b y (e + 1) = bpr pl b y e := by show (if _ then _ else _) = _; rw [if_neg q', if_neg q5, if_pos q6]
          rw [if_pos (nI_le q6 (by omega)), e1, q_X7_bestPair_26]
        · have e1 : bpr pl b y (e + 1) = e := by show (if _ then _ else _) = _; rw [if_neg q', if_neg q5, if_neg q6]
          rw [if_neg (nI_ge (by omega) (by omega)), e1, q_X7_bestPair_23, q_X7_bestPair_26, nI_1])
  rw [q_X7_bestPair]
  refine Eq.trans e ?_
  rw [q_X7_bestPair_4, if_pos (show (5 : Int32) ≤ nI 5 by decide)]
theorem c_chance (hS : Sh σ) (hP : HP P) (h : SC σ P pl w) (he : e < 5) (hy : y < 7) : zM 70 [.ref 105, .int (nI e), .int (nI y)] σ = some (some (.int (nI (plg pl e y * (100 - w)))), σ) := by
  rw [q_X7_chanceOf, tg_105 hS, if_pos rfl, c_plg hS hP h he hy, zbI_e, tg_105 hS, if_pos rfl, h.2.1, pk_mul]
theorem c_that (hS : Sh σ) (hP : HP P) (h : SC σ P pl w) (h1 : 1 ≤ b) (hb : b < 32) (hy : y < 7) (ho : o ≤ 5) : zM 72 [.ref 105, .int (nI o), .int (nI b), .int (nI y)] σ = some (some (.int (nI (lik pl w b o y))), σ) := by
  have l := bpr_in (pl := pl) (y := y) h1 hb
  have lk := kpg_le (w := w) (b := b) (y := y) (fun d hd => (h.2.2 d hd).1)
  rw [q_X7_chanceThat, tg_105 hS, if_pos rfl, c_bpr hS hP h hb hy, zbI_e, c_chance hS hP h l hy, zbI_e]
  unfold lik
  by_cases q : o = 5
  · rw [q, if_pos (by decide), tg_105 hS, if_pos rfl, if_pos rfl]
    unfold kpg at lk ⊢
    rw [show (10000 : Int32) = nI 10000 from rfl, pk_sub lk]
  · rw [if_neg (show ¬ nI o = 5 from fun z => q ((nI_eq (b := 5) (by omega) (by omega)).mp z)), if_neg q]
    by_cases q2 : o = bpr pl b y 5
    · rw [← q2, if_pos rfl, tg_105 hS, if_pos rfl, if_pos rfl]
      unfold kpg
      rw [← q2]
      rfl
    · rw [if_neg (fun z => q2 ((nI_eq (by omega) (by omega)).mp z)), if_neg q2]
      rfl
end
