/-! weights: the reference weighs -/
def RW (σ : zS) (p k so : Nat) (pl f g : Nat → Nat) (w : Nat) : Prop := (∀ d, d < 5 → pl d ≤ 100 ∧ gI σ 222 (5 + d) = nI (pl d)) ∧ gI σ 232 p = nI so ∧ gI σ 218 (4 + so) = nI w ∧ w ≤ 100 ∧ (∀ d, d < 5 → f d ≤ 10000 ∧ gI σ 234 (5 * p + d) = nI (f d)) ∧ ∀ r, r < 3 → g r ≤ 10000 ∧ gI σ 235 (3 * k + r) = nI (g r)
def bx (v : Nat) : Int32 := if v = 5 then -1 else nI v
def wsel (pl f g : Nat → Nat) (w b o : Nat) (x y : Int32) (d r : Nat) : Nat := if (x = -1 ∨ x = nI d) ∧ (y = -1 ∨ y = nI r) then wgt pl f g w b o d r else 0
section
variable {σ σ' σ1 σ2 : zS} {pl f g : Nat → Nat} {P A R N w b e y o d r p k so n : Nat}
theorem rp_ti (he : e < 100) (hr : r < 100) (hd : d < 100) : (nI e + nI r - 1 - nI d : Int32).toInt = (e : Int) + r - 1 - d := by
  have e1 : (1 : Int32).toInt = 1 := by decide
  rw [Int32.toInt_sub, Int32.toInt_sub, Int32.toInt_add, nI_toInt (by omega), nI_toInt (by omega), nI_toInt (by omega), e1, Int.bmod_eq_of_le (n := ((e : Int) + r)) (by omega) (by omega), Int.bmod_eq_of_le (n := ((e : Int) + r - 1)) (by omega) (by omega), Int.bmod_eq_of_le (by omega) (by omega)]
theorem r_pls (hS : Sh σ) (hw : ∀ d, d < 5 → pl d ≤ 100 ∧ gI σ 222 (5 + d) = nI (pl d)) (he : e < 5) (hd : d < 5) (hr : r < 3) : zM 250 [.ref 176, .int (nI e), .int (nI d), .int (nI r)] σ = some (some (.int (nI (plg pl e (d + 2 - r)))), σ) := by
  have ti := rp_ti (show e < 100 by omega) (show r < 100 by omega) (show d < 100 by omega)
  have m2 : (-2 : Int32).toInt = -2 := by decide
  have z2 : (2 : Int32).toInt = 2 := by decide
  have z7 : (7 : Int32).toInt = 7 := by decide
  rw [q_X12_pleases, sg_r, zbI_e]
  unfold plg
  by_cases q : d + 2 - r ≤ e + 3 ∧ e + 3 < d + 2 - r + 5
  · have ee : (7 : Int32) + (nI e + nI r - 1 - nI d) = nI (5 + (e + 3 - (d + 2 - r))) := by
      apply Int32.toInt_inj.mp
      rw [Int32.toInt_add, ti, z7, nI_toInt (by omega), Int.bmod_eq_of_le (by omega) (by omega)]
      omega
    rw [if_pos (show (-2 : Int32) ≤ nI e + nI r - 1 - nI d ∧ nI e + nI r - 1 - nI d ≤ 2 from ⟨by rw [Int32.le_iff_toInt_le, ti, m2]; omega, by rw [Int32.le_iff_toInt_le, ti, z2]; omega⟩), if_neg (by decide), tg_176 hS, if_pos rfl, gR_176_55 hS, zeR_e, ee, if_pos (ai_nI (.inl (tg_222 hS)) (ln_222 hS) (show 5 + (e + 3 - (d + 2 - r)) < 10 by omega) (by omega)), ixn (by omega), (hw _ (by omega)).2, if_pos q]
  · have nq : ¬ ((-2 : Int32) ≤ nI e + nI r - 1 - nI d ∧ nI e + nI r - 1 - nI d ≤ 2) := by
      rintro ⟨y1, y2⟩
      rw [Int32.le_iff_toInt_le, ti, m2] at y1
      rw [Int32.le_iff_toInt_le, ti, z2] at y2
      omega
    rw [if_neg nq, if_pos rfl, if_neg q]
    rfl
theorem bx_no {v : Nat} (h : v < 5) : bx v = nI v := by unfold bx; rw [if_neg (by omega)]
theorem bx_eq {v : Nat} (h : v ≤ 5) : bx v = -1 ↔ v = 5 := by
  unfold bx
  by_cases q : v = 5
  · rw [if_pos q]; exact ⟨fun _ => q, fun _ => rfl⟩
  · rw [if_neg q]; exact ⟨fun z => absurd z (nI_nm1 (by omega)), fun z => absurd z q⟩
theorem r_bpr (hS : Sh σ) (hw : ∀ d, d < 5 → pl d ≤ 100 ∧ gI σ 222 (5 + d) = nI (pl d)) (h1 : 1 ≤ b) (hb : b < 32) (hd : d < 5) (hr : r < 3) : zM 251 [.ref 176, .int (nI b), .int (nI d), .int (nI r)] σ = some (some (.int (nI (bpr pl b (d + 2 - r) 5))), σ) := by
  have e := lp_seq (G := fun e => zR 3 251 4 [some (.ref 176), some (.int (nI b)), some (.int (nI d)), some (.int (nI r)), some (.int (bx (bpr pl b (d + 2 - r) e))), some (.int (nI e))] [] σ) 5 (fun e he => by
    have l := bpr_lt (pl := pl) (b := b) (y := d + 2 - r) e (by omega)
    have l1 : plg pl e (d + 2 - r) ≤ 100 := plg_le (fun d hd => (hw d hd).1)
    have l2 : plg pl (bpr pl b (d + 2 - r) e) (d + 2 - r) ≤ 100 := plg_le (fun d hd => (hw d hd).1)
    rw [q_X12_bestPair_4, if_neg (show ¬ (5 : Int32) ≤ nI e from nI_ge (b := 5) he (by omega)), bit_sh b hb e (by omega), nI_1]
    rcases (show b / 2 ^ e % 2 = 0 ∨ b / 2 ^ e % 2 = 1 by omega) with q | q
    · have e1 : bpr pl b (d + 2 - r) (e + 1) = bpr pl b (d + 2 - r) e := by show (if _ then _ else _) = _; rw [if_pos q]
      rw [q, if_pos (by decide), e1]
    · have q' : ¬ b / 2 ^ e % 2 = 0 := by omega
      rw [q, if_neg (by decide)]
      by_cases q5 : bpr pl b (d + 2 - r) e = 5
      · have e1 : bpr pl b (d + 2 - r) (e + 1) = e := by show (if _ then _ else _) = _; rw [if_neg q', if_pos q5]
        rw [if_pos ((bx_eq (by omega)).mpr q5), e1, bx_no (v := e) (by omega)]
      · rw [if_neg (fun z => q5 ((bx_eq (by omega)).mp z)), tg_176 hS, if_pos rfl, r_pls hS hw (by omega) hd hr, zbI_e, tg_176 hS, if_pos rfl, bx_no (v := bpr pl b (d + 2 - r) e) (by omega), r_pls hS hw (by omega) hd hr, zbI_e]
        by_cases q6 : plg pl e (d + 2 - r) ≤ plg pl (bpr pl b (d + 2 - r) e) (d + 2 - r)
        · have e1 : bpr pl b (d + 2 - r) (e + 1) = bpr pl b (d + 2 - r) e := by show (if _ then _ else _) = _; rw [if_neg q', if_neg q5, if_pos q6]
          rw [if_pos (nI_le q6 (by omega)), e1, bx_no (v := bpr pl b (d + 2 - r) e) (by omega)]
        · have e1 : bpr pl b (d + 2 - r) (e + 1) = e := by show (if _ then _ else _) = _; rw [if_neg q', if_neg q5, if_neg q6]
          rw [if_neg (nI_ge (by omega) (by omega)), e1, bx_no (v := e) (by omega)])
  have l5 := bpr_in (pl := pl) (y := d + 2 - r) h1 hb
  rw [q_X12_bestPair]
  refine Eq.trans e ?_
  rw [q_X12_bestPair_4, if_pos (show (5 : Int32) ≤ nI 5 by decide), bx_no l5]
theorem r_lik (hS : Sh σ) (hp : p < 20) (hso : so < 4) (h : RW σ p k so pl f g w) (h1 : 1 ≤ b) (hb : b < 32) (hd : d < 5) (hr : r < 3) (ho : o ≤ 5) : zM 252 [.ref 176, .int (nI p), .int (nI b), .int (nI d), .int (nI r), .int (nI o)] σ = some (some (.int (nI (lik pl w b o (d + 2 - r)))), σ) := by
  obtain ⟨hw, h2, h3, h4, -, -⟩ := h
  have l := bpr_in (pl := pl) (y := d + 2 - r) h1 hb
  have lk := kpg_le (w := w) (b := b) (y := d + 2 - r) (fun d hd => (hw d hd).1)
  rw [q_X12_likely, tg_176 hS, if_pos rfl, r_bpr hS hw h1 hb hd hr, zbI_e, tg_176 hS, if_pos rfl, r_pls hS hw l hd hr, zbI_e, tg_176 hS, if_pos rfl, gR_176_51 hS, zeR_e, if_pos rfl, gR_176_71 hS, zeR_e, if_pos (ai_nI (.inl (tg_232 hS)) (ln_232 hS) hp (by omega)), ixn (by omega), h2, nI_addL 4 so, if_pos (ai_nI (.inl (tg_218 hS)) (ln_218 hS) (show 4 + so < 8 by omega) (by omega)), ixn (by omega), h3, show (100 : Int32) = nI 100 from rfl, pk_sub h4, pk_mul, zli_e]
  show (if nI o = 5 then some (some (Value.int (10000 - nI (kpg pl w b (d + 2 - r)))), σ) else if nI o = nI (bpr pl b (d + 2 - r) 5) then some (some (Value.int (nI (kpg pl w b (d + 2 - r)))), σ) else some (some (Value.int 0), σ)) = _
  unfold lik
  by_cases q : o = 5
  · rw [q, if_pos (by decide), if_pos rfl, show (10000 : Int32) = nI 10000 from rfl, pk_sub lk]
  · rw [if_neg (show ¬ nI o = 5 from fun z => q ((nI_eq (b := 5) (by omega) (by omega)).mp z)), if_neg q]
    by_cases q2 : o = bpr pl b (d + 2 - r) 5
    · rw [if_pos (by rw [q2]), if_pos q2]
    · rw [if_neg (fun z => q2 ((nI_eq (by omega) (by omega)).mp z)), if_neg q2]
      rfl
theorem r_wt25 (hS : Sh σ) (hp : p < 20) (hk : k < 8) (hso : so < 4) (h : RW σ p k so pl f g w) (h1 : 1 ≤ b) (hb : b < 32) (hd : d < 5) (hr : r < 3) (ho : o ≤ 5) (x y : Int32) (T : Nat) : zR 5 253 25 [some (.ref 176), some (.int (nI p)), some (.int (nI k)), some (.int (nI b)), some (.int (nI o)), some (.int x), some (.int y), some (.long (lN T)), none, some (.int (nI d)), some (.int (nI r))] [] σ = zR 5 253 9 [some (.ref 176), some (.int (nI p)), some (.int (nI k)), some (.int (nI b)), some (.int (nI o)), some (.int x), some (.int y), some (.long (lN (T + wgt pl f g w b o d r))), none, some (.int (nI d)), some (.int (nI (r + 1)))] [] σ := by
  have fd := h.2.2.2.2.1 d hd
  have gr := h.2.2.2.2.2 r hr
  have lk : lik pl w b o (d + 2 - r) ≤ 10000 := lik_le (fun d hd => (h.1 d hd).1)
  have e1 : (5 : Int32) * nI p + nI d = nI (5 * p + d) := by rw [nI_mulL 5 p, nI_add]
  have e2 : (3 : Int32) * nI k + nI r = nI (3 * k + r) := by rw [nI_mulL 3 k, nI_add]
  rw [q_X12_weights_25, tg_176 hS, if_pos rfl, gR_176_73 hS, zeR_e, e1, if_pos (ai_nI (.inl (tg_234 hS)) (ln_234 hS) (show 5 * p + d < 100 by omega) (by omega)), if_pos rfl, gR_176_74 hS, zeR_e, e2, if_pos (ai_nI (.inl (tg_235 hS)) (ln_235 hS) (show 3 * k + r < 24 by omega) (by omega)), if_pos rfl, r_lik hS hp hso h h1 hb hd hr ho, zbI_e, zll_e, ixn (by omega), ixn (by omega), fd.2, gr.2, nI_l (by omega), nI_l (by omega), nI_l (by omega), lN_mul, lN_mul, lN_add, nI_1]
  rw [show f d * g r * lik pl w b o (d + 2 - r) = wgt pl f g w b o d r by unfold wgt; rw [Nat.mul_comm (f d * g r), ← Nat.mul_assoc]]
theorem r_weights (hS : Sh σ) (hp : p < 20) (hk : k < 8) (hso : so < 4) (h : RW σ p k so pl f g w) (h1 : 1 ≤ b) (hb : b < 32) (ho : o ≤ 5) (x y : Int32) : zM 253 [.ref 176, .int (nI p), .int (nI k), .int (nI b), .int (nI o), .int x, .int y] σ = some (some (.long (lN (smN (fun d => smN (wsel pl f g w b o x y d) 3) 5))), σ) := by
  have inn : ∀ i, i < 5 → ∀ T, zR 5 253 9 [some (.ref 176), some (.int (nI p)), some (.int (nI k)), some (.int (nI b)), some (.int (nI o)), some (.int x), some (.int y), some (.long (lN T)), none, some (.int (nI i)), some (.int 0)] [] σ = zR 5 253 4 [some (.ref 176), some (.int (nI p)), some (.int (nI k)), some (.int (nI b)), some (.int (nI o)), some (.int x), some (.int y), some (.long (lN (T + smN (wsel pl f g w b o x y i) 3))), none, some (.int (nI (i + 1))), some (.int 3)] [] σ := fun i hi T => by
    have e := lp_seq (G := fun j => zR 5 253 9 [some (.ref 176), some (.int (nI p)), some (.int (nI k)), some (.int (nI b)), some (.int (nI o)), some (.int x), some (.int y), some (.long (lN (T + smN (wsel pl f g w b o x y i) j))), none, some (.int (nI i)), some (.int (nI j))] [] σ) 3 (fun j hj => by
      have go := r_wt25 hS hp hk hso h h1 hb hi hj ho x y (T + smN (wsel pl f g w b o x y i) j)
      have yes : (x = -1 ∨ x = nI i) ∧ (y = -1 ∨ y = nI j) → T + smN (wsel pl f g w b o x y i) j + wgt pl f g w b o i j = T + smN (wsel pl f g w b o x y i) (j + 1) := fun q => by
        show _ = T + (smN (wsel pl f g w b o x y i) j + wsel pl f g w b o x y i j)
        unfold wsel
        rw [if_pos q, Nat.add_assoc]
      have no : ¬ ((x = -1 ∨ x = nI i) ∧ (y = -1 ∨ y = nI j)) → T + smN (wsel pl f g w b o x y i) j = T + smN (wsel pl f g w b o x y i) (j + 1) := fun q => by
        show _ = T + (smN (wsel pl f g w b o x y i) j + wsel pl f g w b o x y i j)
        have : wsel pl f g w b o x y i j = 0 := by unfold wsel; rw [if_neg q]
        rw [this, Nat.add_zero]
      rw [q_X12_weights_9, if_neg (show ¬ (3 : Int32) ≤ nI j from nI_ge (b := 3) hj (by omega))]
      by_cases x1 : x = -1
      · rw [if_pos x1]
        by_cases y1 : y = -1
        · rw [if_pos y1, go, yes ⟨.inl x1, .inl y1⟩]
        · rw [if_neg y1]
          by_cases y2 : y = nI j
          · rw [if_pos y2, go, yes ⟨.inl x1, .inr y2⟩]
          · rw [if_neg y2, nI_1, no (fun q => q.2.elim y1 y2)]
      · rw [if_neg x1]
        by_cases x2 : x = nI i
        · rw [if_pos x2]
          by_cases y1 : y = -1
          · rw [if_pos y1, go, yes ⟨.inr x2, .inl y1⟩]
          · rw [if_neg y1]
            by_cases y2 : y = nI j
            · rw [if_pos y2, go, yes ⟨.inr x2, .inr y2⟩]
            · rw [if_neg y2, nI_1, no (fun q => q.2.elim y1 y2)]
        · rw [if_neg x2, nI_1, no (fun q => q.1.elim x1 x2)])
    refine Eq.trans e ?_
    rw [q_X12_weights_9, if_pos (show (3 : Int32) ≤ nI 3 by decide), nI_1]
    rfl
  obtain ⟨u, e1, -⟩ := lp_run (F := fun i (u : Option Value) => zR 5 253 4 [some (.ref 176), some (.int (nI p)), some (.int (nI k)), some (.int (nI b)), some (.int (nI o)), some (.int x), some (.int y), some (.long (lN (smN (fun d => smN (wsel pl f g w b o x y d) 3) i))), none, some (.int (nI i)), u] [] σ) (fun _ _ => True) 5 (by
    intro i u hi _
    refine ⟨some (.int 3), ?_, trivial⟩
    rw [q_X12_weights_4, if_neg (show ¬ (5 : Int32) ≤ nI i from nI_ge (b := 5) hi (by omega)), inn i hi]
    rfl) none trivial
  rw [q_X12_weights]
  refine Eq.trans e1 ?_
  rw [q_X12_weights_4, if_pos (show (5 : Int32) ≤ nI 5 by decide)]
theorem smN_congr {f g : Nat → Nat} : ∀ n, (∀ i, i < n → f i = g i) → smN f n = smN g n
  | 0, _ => rfl
  | n + 1, h => by
    show smN f n + f n = smN g n + g n
    rw [smN_congr n (fun i hi => h i (by omega)), h n (by omega)]
theorem wsel_all : smN (fun d => smN (wsel pl f g w b o (-1) (-1) d) 3) 5 = wall pl f g w b o := smN_congr 5 (fun d _ => smN_congr 3 (fun r _ => by
  unfold wsel
  rw [if_pos ⟨.inl rfl, .inl rfl⟩]))
theorem wsel_row (hd : d < 5) : smN (fun d' => smN (wsel pl f g w b o (nI d) (-1) d') 3) 5 = wrow pl f g w b o d := by
  have e : ∀ d', d' < 5 → smN (wsel pl f g w b o (nI d) (-1) d') 3 = if d' = d then wrow pl f g w b o d else 0 := fun d' hd' => by
    by_cases q : d' = d
    · subst q
      rw [if_pos rfl]
      exact smN_congr 3 (fun r _ => by unfold wsel; rw [if_pos ⟨.inr rfl, .inl rfl⟩])
    · rw [if_neg q]
      have z : ∀ r, wsel pl f g w b o (nI d) (-1) d' r = 0 := fun r => by
        unfold wsel
        rw [if_neg]
        rintro ⟨y1, -⟩
        rcases y1 with y1 | y1
        · exact nI_nm1 (by omega) y1
        · exact q ((nI_eq (by omega) (by omega)).mp y1).symm
      show 0 + _ + _ + _ = 0
      rw [z, z, z]
  rw [smN_congr 5 e]
  rcases (show d = 0 ∨ d = 1 ∨ d = 2 ∨ d = 3 ∨ d = 4 by omega) with rfl | rfl | rfl | rfl | rfl <;> simp [smN]
theorem wsel_col (hr : r < 3) : smN (fun d' => smN (wsel pl f g w b o (-1) (nI r) d') 3) 5 = wcol pl f g w b o r := smN_congr 5 (fun d _ => by
  have e : ∀ r', r' < 3 → wsel pl f g w b o (-1) (nI r) d r' = if r' = r then wgt pl f g w b o d r else 0 := fun r' hr' => by
    unfold wsel
    by_cases q : r' = r
    · subst q
      rw [if_pos ⟨.inl rfl, .inr rfl⟩, if_pos rfl]
    · rw [if_neg, if_neg q]
      rintro ⟨-, y1⟩
      rcases y1 with y1 | y1
      · exact nI_nm1 (by omega) y1
      · exact q ((nI_eq (by omega) (by omega)).mp y1).symm
  rw [smN_congr 3 e]
  rcases (show r = 0 ∨ r = 1 ∨ r = 2 by omega) with rfl | rfl | rfl <;> simp [smN])
end
