/-! what is learnt: the class -/
def amx (q : Nat → Nat) : Nat → Nat
  | 0 => 0
  | i + 1 => if q i ≤ q (amx q i) then amx q i else i
def crt (q : Nat → Nat) (n i : Nat) : Nat := if i = amx q n then q i + (10000 - smN q n) else q i
section
variable {σ σ' σ1 σ2 : zS} {q v pl f g : Nat → Nat} {P A R W N T w b e y o d r p k so n i : Nat}
theorem amx_lt (hn : 1 ≤ n) : amx q n < n := by
  induction n with
  | zero => omega
  | succ n ih =>
    show (if _ then _ else _) < _
    split
    · rcases Nat.eq_zero_or_pos n with z | z
      · subst z; show 0 < 1; omega
      · have := ih z; omega
    · omega
theorem amx_lt' : amx q n ≤ n := by
  rcases Nat.eq_zero_or_pos n with z | z
  · subst z; exact Nat.le_refl 0
  · have := amx_lt (q := q) z; omega
theorem smN_le (q : Nat → Nat) : ∀ n, ∀ i, i ≤ n → smN q i ≤ smN q n := by
  intro n
  induction n with
  | zero => intro i hi; have : i = 0 := by omega
            subst this; exact Nat.le_refl _
  | succ n ih =>
    intro i hi
    rcases Nat.lt_or_ge i (n + 1) with z | z
    · have := ih i (by omega)
      show _ ≤ smN q n + q n
      omega
    · have : i = n + 1 := by omega
      subst this
      exact Nat.le_refl _
theorem smN_one (q : Nat → Nat) {n i : Nat} (hi : i < n) : q i ≤ smN q n := by
  have h1 := smN_le q n (i + 1) (by omega)
  have h2 : smN q (i + 1) = smN q i + q i := rfl
  omega
theorem smN_up (q : Nat → Nat) (a x : Nat) : ∀ n, smN (fun i => if i = a then q i + x else q i) n = smN q n + if a < n then x else 0 := by
  intro n
  induction n with
  | zero => rw [if_neg (by omega)]; rfl
  | succ n ih =>
    show smN (fun i => if i = a then q i + x else q i) n + (if n = a then q n + x else q n) = smN q n + q n + _
    rw [ih]
    by_cases z : n = a
    · subst z
      rw [if_pos rfl, if_neg (by omega), if_pos (by omega)]
      omega
    · rw [if_neg z]
      by_cases z2 : a < n
      · rw [if_pos z2, if_pos (by omega)]; omega
      · rw [if_neg z2, if_neg (by omega)]; omega
theorem smN_crt (hn : 1 ≤ n) (hs : smN q n ≤ 10000) : smN (crt q n) n = 10000 := by
  have e : smN (crt q n) n = smN (fun i => if i = amx q n then q i + (10000 - smN q n) else q i) n := rfl
  rw [e, smN_up, if_pos (amx_lt hn)]
  omega
theorem smN_div (v : Nat → Nat) (a : Nat) : ∀ n, smN (fun i => 10000 * v i / a) n ≤ 10000 * smN v n / a := by
  intro n
  induction n with
  | zero => exact Nat.zero_le _
  | succ n ih =>
    show smN (fun i => 10000 * v i / a) n + 10000 * v n / a ≤ 10000 * (smN v n + v n) / a
    rw [Nat.mul_add]
    exact Nat.le_trans (Nat.add_le_add_right ih _) Nat.div_add_div_le_add_div
theorem smN_cert (v : Nat → Nat) {n : Nat} (h0 : 0 < smN v n) : smN (fun i => 10000 * v i / smN v n) n ≤ 10000 := by
  have := smN_div v (smN v n) n
  rw [Nat.mul_div_cancel _ h0] at this
  exact this
theorem c_cert (tA : tg σ A = 32) (lA : ln σ A = n) (hn : 1 ≤ n ∧ n < 100) (hq : ∀ i, i < n → gI σ A i = nI (q i)) (hs : smN q n ≤ 10000) : zM 77 [.ref A] σ = some (none, sI σ A (amx q n) (nI (crt q n (amx q n)))) := by
  have lA' : Int32.ofNat (ln σ A) = nI n := by rw [lA]; rfl
  have qb : ∀ i, i < n → q i ≤ 10000 := fun i hi => by have := smN_one q hi; omega
  have e := lp_seq (G := fun i => zR 1 77 6 [some (.ref A), some (.int (nI (amx q i))), some (.int (nI (10000 - smN q i))), some (.int (nI i))] [] σ) n (fun i hi => by
    have l := amx_lt' (q := q) (n := i)
    have s1 : smN q (i + 1) = smN q i + q i := rfl
    have s2 := smN_le q n (i + 1) (by omega)
    have ai := ai_nI (σ := σ) (t := 32) (u := 48) (.inl tA) lA hi (by omega)
    have aj := ai_nI (σ := σ) (t := 32) (u := 48) (.inl tA) lA (show amx q i < n by omega) (by omega)
    rw [q_X7_makeCertain_6, tA, if_pos (by decide), lA', if_neg (nI_ge hi (by omega)), if_pos ai, if_pos ai, if_pos aj, ixn (by omega), ixn (by omega), hq i hi, hq _ (show amx q i < n by omega), nI_1, pk_sub (by omega), show 10000 - smN q i - q i = 10000 - smN q (i + 1) by omega]
    by_cases z : q i ≤ q (amx q i)
    · have e1 : amx q (i + 1) = amx q i := by show (if _ then _ else _) = _; rw [if_pos z]
      rw [if_pos (nI_le z (by have := qb _ (show amx q i < n by omega); omega)), e1]
    · have e1 : amx q (i + 1) = i := by show (if _ then _ else _) = _; rw [if_neg z]
      rw [if_neg (nI_ge (by omega) (by have := qb i hi; omega)), e1])
  have am := amx_lt (q := q) hn.1
  have aj := ai_nI (σ := σ) (t := 32) (u := 48) (.inl tA) lA am (by omega)
  have ak := ai_nI (σ := σ) (t := 32) (u := 32) (.inl tA) lA am (by omega)
  rw [q_X7_makeCertain]
  refine Eq.trans e ?_
  rw [q_X7_makeCertain_6, tA, if_pos (by decide), lA', if_pos (nI_le (Nat.le_refl _) (by omega)), if_pos (by decide), if_neg (nI_ge am (by omega)), if_pos aj, if_pos ak, zlt_e, ixn (by omega), hq _ am, nI_add]
  have : crt q n (amx q n) = q (amx q n) + (10000 - smN q n) := by unfold crt; rw [if_pos rfl]
  rw [this]
theorem c_learn (hS : Sh σ) (hA : 6 ≤ A ∧ A < 253) (tW : tg σ W = 36) (lW : ln σ W = n) (tA : tg σ A = 32) (lA : ln σ A = n) (hn : 1 ≤ n ∧ n < 100) (hv : ∀ i, i < n → gL σ W i = lN (v i)) (h0 : 0 < smN v n) (hb : smN v n ≤ 1000000000000) : ∃ σ', zM 76 [.ref W, .ref A] σ = some (none, σ') ∧ Sh σ' ∧ Un (fun r j => r = A ∧ j < n) σ σ' ∧ (∀ r j, gL σ' r j = gL σ r j) ∧ ∀ i, i < n → gI σ' A i = nI (crt (fun i => 10000 * v i / smN v n) n i) := by
  have lW' : Int32.ofNat (ln σ W) = nI n := by rw [lW]; rfl
  have lA' : Int32.ofNat (ln σ A) = nI n := by rw [lA]; rfl
  have vb : ∀ i, i < n → v i ≤ 1000000000000 := fun i hi => by have := smN_one v hi; omega
  have e := lp_seq (G := fun i => zR 2 76 4 [some (.ref W), some (.ref A), some (.long (lN (smN v i))), none, some (.int (nI i))] [] σ) n (fun i hi => by
    rw [q_X7_learn_4, tW, if_pos (by decide), lW', if_neg (nI_ge hi (by omega)), if_pos (ai_nI (.inl tW) lW hi (by omega)), ixn (by omega), hv i hi, lN_add, nI_1]
    rfl)
  obtain ⟨s1, e1, k1, k2, k3, k4⟩ := lp_run (F := fun i (s : zS) => zR 2 76 23 [some (.ref W), some (.ref A), some (.long (lN (smN v n))), none, some (.int (nI i))] [] s) (fun i s => Sh s ∧ Un (fun r j => r = A ∧ j < n) σ s ∧ (∀ r j, gL s r j = gL σ r j) ∧ ∀ j, j < i → gI s A j = nI (10000 * v j / smN v n)) n (by
    rintro i s hi ⟨k1, k2, k3, k4⟩
    have vi := vb i hi
    refine ⟨sI s A i (nI (10000 * v i / smN v n)), ?_, k1.sI (by omega), k2.trans (Un_sI ⟨rfl, hi⟩), fun r j => by rw [gL_sI]; exact k3 r j, fun j hj => ?_⟩
    · have tW1 : tg s W = 36 := by rw [tg_of1 k2.1, tW]
      have tA1 : tg s A = 32 := by rw [tg_of1 k2.1, tA]
      have lW1 : ln s W = n := by rw [ln_of1 k2.1, lW]
      have lA1 : ln s A = n := by rw [ln_of1 k2.1, lA]
      have nz : ¬ lN (smN v n) = 0 := fun z => by
        have := (pk_lEQ (a := smN v n) (b := 0) (by omega) (by omega)).mp z
        omega
      rw [q_X7_learn_23, tA1, if_pos (by decide), lA1, if_neg (show ¬ Int32.ofNat n ≤ nI i from nI_ge hi (by omega)), tW1, if_pos (by decide), lW1, if_neg (show ¬ Int32.ofNat n ≤ nI i from nI_ge hi (by omega)), if_pos (ai_nI (.inl tW1) lW1 hi (by omega)), if_neg nz, if_pos (ai_nI (.inl tA1) lA1 hi (by omega)), zlt_e, ixn (by omega), k3, hv i hi, show (10000 : Int64) = lN 10000 from rfl, lN_mul, pk_lDiv (by omega) h0 (by omega), lN_i, nI_1]
    · rw [gI_sI]
      by_cases z : j = i
      · subst z; rw [if_pos ⟨rfl, rfl⟩]
      · rw [if_neg (by omega)]; exact k4 j (by omega)) σ ⟨hS, Un.refl _ _, fun _ _ => rfl, fun j hj => by omega⟩
  have tA1 : tg s1 A = 32 := by rw [tg_of1 k2.1, tA]
  have lA1 : ln s1 A = n := by rw [ln_of1 k2.1, lA]
  have sq := smN_cert v h0
  have am := amx_lt (q := fun i => 10000 * v i / smN v n) hn.1
  refine ⟨sI s1 A (amx (fun i => 10000 * v i / smN v n) n) (nI (crt (fun i => 10000 * v i / smN v n) n (amx (fun i => 10000 * v i / smN v n) n))), ?_, k1.sI (by omega), k2.trans (Un_sI ⟨rfl, am⟩), fun r j => by rw [gL_sI]; exact k3 r j, fun i hi => ?_⟩
  · have gt : 0 < lg_cmp (lN (smN v n)) 0 := by
      rw [cmp_gt]
      exact (pk_lLT (a := 0) (by omega) (by omega)).mpr h0
    rw [q_X7_learn]
    refine Eq.trans e ?_
    rw [q_X7_learn_4, tW, if_pos (by decide), lW', if_pos (nI_le (Nat.le_refl _) (by omega)), if_pos gt]
    refine Eq.trans e1 ?_
    rw [q_X7_learn_23, tA1, if_pos (by decide), lA1, if_pos (show Int32.ofNat n ≤ nI n from nI_le (Nat.le_refl _) (by omega)), c_cert tA1 lA1 hn k4 sq, zbV_e]
  · rw [gI_sI]
    by_cases z : i = amx (fun i => 10000 * v i / smN v n) n
    · rw [if_pos ⟨rfl, z⟩, ← z]
    · rw [if_neg (fun y => z y.2), k4 i hi]
      unfold crt
      rw [if_neg z]
/-- bounds of weights -/
theorem wgt_le (hp : ∀ d, d < 5 → pl d ≤ 100) : wgt pl f g w b o d r ≤ 10000 * f d * g r := by
  have := lik_le (w := w) (b := b) (o := o) (y := d + 2 - r) hp
  unfold wgt
  exact Nat.mul_le_mul (Nat.mul_le_mul this (Nat.le_refl _)) (Nat.le_refl _)
theorem wrow_le (hp : ∀ d, d < 5 → pl d ≤ 100) (hg : g 0 + g 1 + g 2 = 10000) : wrow pl f g w b o d ≤ 10000 * f d * 10000 := by
  have a0 := wgt_le (f := f) (g := g) (w := w) (b := b) (o := o) (d := d) (r := 0) hp
  have a1 := wgt_le (f := f) (g := g) (w := w) (b := b) (o := o) (d := d) (r := 1) hp
  have a2 := wgt_le (f := f) (g := g) (w := w) (b := b) (o := o) (d := d) (r := 2) hp
  have e : 10000 * f d * 10000 = 10000 * f d * g 0 + 10000 * f d * g 1 + 10000 * f d * g 2 := by rw [← Nat.mul_add, ← Nat.mul_add, hg]
  rw [e]
  unfold wrow
  simp only [smN]
  omega
theorem wall_le (hp : ∀ d, d < 5 → pl d ≤ 100) (hf : f 0 + f 1 + f 2 + f 3 + f 4 = 10000) (hg : g 0 + g 1 + g 2 = 10000) : wall pl f g w b o ≤ 1000000000000 := by
  have a0 := wrow_le (f := f) (w := w) (b := b) (o := o) (d := 0) hp hg
  have a1 := wrow_le (f := f) (w := w) (b := b) (o := o) (d := 1) hp hg
  have a2 := wrow_le (f := f) (w := w) (b := b) (o := o) (d := 2) hp hg
  have a3 := wrow_le (f := f) (w := w) (b := b) (o := o) (d := 3) hp hg
  have a4 := wrow_le (f := f) (w := w) (b := b) (o := o) (d := 4) hp hg
  unfold wall
  simp only [smN]
  omega
theorem wcol_all : smN (wcol pl f g w b o) 3 = wall pl f g w b o := by
  simp only [wall, wrow, wcol, smN]
  omega
end
