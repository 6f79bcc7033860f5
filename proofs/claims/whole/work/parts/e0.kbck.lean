/-! back: what both write -/
def mon (pr fa wi ch b o : Nat) : Int32 := if o = 5 then mN ch fa wi (pc b) else mK pr fa wi (pc b)
section
variable {σ σ' σ1 σ2 : zS} {pl f g a d : Nat → Nat} {P N w b e y o r p k so z pr fa wi ch cm day c : Nat}
theorem bts_lt (hb : b < 32) : bts b o < 32 := by
  unfold bts
  split
  · exact hb
  · exact Nat.lt_of_le_of_lt (Nat.sub_le _ _) hb
theorem bts_b (hb : b < 32) (ho : o ≤ 5) (hob : o = 5 ∨ b / 2 ^ o % 2 = 1) : ∀ e, e < 5 → bts b o / 2 ^ e % 2 = if e = o then 0 else b / 2 ^ e % 2 := fun e he => by
  unfold bts
  by_cases q : o = 5
  · rw [if_pos q, if_neg (by omega)]
  · rw [if_neg q]
    exact bts_bit b hb o (by omega) (hob.resolve_left q) e he
theorem bts_inz (hb : b < 32) (ho : o ≤ 5) (hob : o = 5 ∨ b / 2 ^ o % 2 = 1) (hi : inz z b) : inz z (bts b o) := fun e he q => by
  rw [bts_b hb ho hob e he] at q
  by_cases x : e = o
  · rw [if_pos x] at q; omega
  · rw [if_neg x] at q; exact hi e he q
theorem bts_pc (hb : b < 32) (ho : o ≤ 5) (hob : o = 5 ∨ b / 2 ^ o % 2 = 1) : pcs (bts b o) 5 ≤ pc b := by
  rw [← pcs_pc b hb]
  have h := bts_b hb ho hob
  have h0 := h 0 (by omega)
  have h1 := h 1 (by omega)
  have h2 := h 2 (by omega)
  have h3 := h 3 (by omega)
  have h4 := h 4 (by omega)
  have le : ∀ e, e < 5 → bts b o / 2 ^ e % 2 ≤ b / 2 ^ e % 2 := fun e he => by
    rw [h e he]
    split <;> omega
  have l0 := le 0 (by omega)
  have l1 := le 1 (by omega)
  have l2 := le 2 (by omega)
  have l3 := le 3 (by omega)
  have l4 := le 4 (by omega)
  simp only [pcs]
  omega
theorem c_endBox (hS : Sh σ) (hp : p < 20) (hk : k < 8) (h5 : gI σ (116 + 3 * p) 5 = nI k) (ho : o ≤ 5) : ∃ σ', zM 37 [.ref (116 + 3 * p), .int (nI o)] σ = some (none, σ') ∧ Sh σ' ∧ Un (fun r j => (r = 116 + 3 * p ∧ 3 ≤ j ∧ j ≤ 6) ∨ r = 118 + 3 * p) σ σ' ∧ gI σ' (116 + 3 * p) 3 = gI σ (116 + 3 * p) 3 + 1 ∧ gI σ' (116 + 3 * p) 4 = (if o = 5 then gI σ (116 + 3 * p) 4 + 1 else gI σ (116 + 3 * p) 4) ∧ gI σ' (116 + 3 * p) 5 = -1 ∧ gI σ' (116 + 3 * p) 6 = 0 ∧ ∀ j, j < 40 → gI σ' (118 + 3 * p) j = if ¬ o = 5 ∧ j = 5 * k + o then gI σ (118 + 3 * p) j + 1 else gI σ (118 + 3 * p) j := by
  have S1 : Sh (sI σ (116 + 3 * p) 3 (gI σ (116 + 3 * p) 3 + 1)) := hS.sI (by omega)
  by_cases q : o = 5
  · have S2 : Sh (sI (sI σ (116 + 3 * p) 3 (gI σ (116 + 3 * p) 3 + 1)) (116 + 3 * p) 4 (gI σ (116 + 3 * p) 4 + 1)) := S1.sI (by omega)
    have S3 : Sh (sI (sI (sI σ (116 + 3 * p) 3 (gI σ (116 + 3 * p) 3 + 1)) (116 + 3 * p) 4 (gI σ (116 + 3 * p) 4 + 1)) (116 + 3 * p) 5 (-1)) := S2.sI (by omega)
    refine ⟨sI (sI (sI (sI σ (116 + 3 * p) 3 (gI σ (116 + 3 * p) 3 + 1)) (116 + 3 * p) 4 (gI σ (116 + 3 * p) 4 + 1)) (116 + 3 * p) 5 (-1)) (116 + 3 * p) 6 0, ?_, S3.sI (by omega), (Un_sI (by omega)).trans ((Un_sI (by omega)).trans ((Un_sI (by omega)).trans (Un_sI (by omega)))), ?_, ?_, ?_, ?_, fun j hj => ?_⟩
    · rw [q_X4_endBox, tg_person hS hp, if_pos rfl, if_pos rfl, zlt_e, if_pos (show nI o = 5 by rw [q]; rfl), tg_person S1 hp, if_pos rfl, if_pos rfl, zlt_e, gI_sI, if_neg (show ¬ (116 + 3 * p = 116 + 3 * p ∧ 4 = 3) by omega), tg_person S2 hp, if_pos rfl, zlt_e, tg_person S3 hp, if_pos rfl, zlt_e]
    · rw [gI_sI, if_neg (by omega), gI_sI, if_neg (by omega), gI_sI, if_neg (by omega), gI_sI, if_pos ⟨rfl, rfl⟩]
    · rw [gI_sI, if_neg (by omega), gI_sI, if_neg (by omega), gI_sI, if_pos ⟨rfl, rfl⟩, if_pos q]
    · rw [gI_sI, if_neg (by omega), gI_sI, if_pos ⟨rfl, rfl⟩]
    · rw [gI_sI, if_pos ⟨rfl, rfl⟩]
    · rw [gI_sI, if_neg (by omega), gI_sI, if_neg (by omega), gI_sI, if_neg (by omega), gI_sI, if_neg (by omega), if_neg (fun x => x.1 q)]
  · have S2 : Sh (sI (sI σ (116 + 3 * p) 3 (gI σ (116 + 3 * p) 3 + 1)) (118 + 3 * p) (5 * k + o) (gI σ (118 + 3 * p) (5 * k + o) + 1)) := S1.sI (by omega)
    have S3 : Sh (sI (sI (sI σ (116 + 3 * p) 3 (gI σ (116 + 3 * p) 3 + 1)) (118 + 3 * p) (5 * k + o) (gI σ (118 + 3 * p) (5 * k + o) + 1)) (116 + 3 * p) 5 (-1)) := S2.sI (by omega)
    have g5 : gI (sI σ (116 + 3 * p) 3 (gI σ (116 + 3 * p) 3 + 1)) (116 + 3 * p) 5 = nI k := by rw [gI_sI, if_neg (by omega)]; exact h5
    have ei : nI k * 5 + nI o = nI (5 * k + o) := by rw [nI_mulR 5 k, nI_add, Nat.mul_comm]
    have lt : 5 * k + o < 40 := by omega
    refine ⟨sI (sI (sI (sI σ (116 + 3 * p) 3 (gI σ (116 + 3 * p) 3 + 1)) (118 + 3 * p) (5 * k + o) (gI σ (118 + 3 * p) (5 * k + o) + 1)) (116 + 3 * p) 5 (-1)) (116 + 3 * p) 6 0, ?_, S3.sI (by omega), (Un_sI (by omega)).trans ((Un_sI (by omega)).trans ((Un_sI (by omega)).trans (Un_sI (by omega)))), ?_, ?_, ?_, ?_, fun j hj => ?_⟩
    · rw [q_X4_endBox, tg_person hS hp, if_pos rfl, if_pos rfl, zlt_e, if_neg (show ¬ nI o = 5 from fun x => q ((nI_eq (b := 5) (by omega) (by omega)).mp x)), tg_person S1 hp, if_pos rfl, gR_pkept S1 hp, zeR_e, if_pos rfl, g5, ei, if_pos (ai_nI (.inl (tg_pkept S1 hp)) (ln_pkept S1 hp) lt (by omega)), if_pos (ai_nI (.inl (tg_pkept S1 hp)) (ln_pkept S1 hp) lt (by omega)), zlt_e, ixn (by omega), gI_sI, if_neg (show ¬ (118 + 3 * p = 116 + 3 * p ∧ 5 * k + o = 3) by omega), tg_person S2 hp, if_pos rfl, zlt_e, tg_person S3 hp, if_pos rfl, zlt_e]
    · rw [gI_sI, if_neg (by omega), gI_sI, if_neg (by omega), gI_sI, if_neg (by omega), gI_sI, if_pos ⟨rfl, rfl⟩]
    · rw [gI_sI, if_neg (by omega), gI_sI, if_neg (by omega), gI_sI, if_neg (by omega), gI_sI, if_neg (by omega), if_neg q]
    · rw [gI_sI, if_neg (by omega), gI_sI, if_pos ⟨rfl, rfl⟩]
    · rw [gI_sI, if_pos ⟨rfl, rfl⟩]
    · rw [gI_sI, if_neg (by omega), gI_sI, if_neg (by omega), gI_sI]
      by_cases q2 : j = 5 * k + o
      · rw [if_pos ⟨rfl, q2⟩, if_pos ⟨q, q2⟩, q2]
      · rw [if_neg (fun x => q2 x.2), if_neg (fun x => q2 x.2), gI_sI, if_neg (by omega)]
theorem c_takeBack (hS : Sh σ) (hP : HP P) (h65 : gR σ 6 5 = some P) (hp : p < 20) (hk : k < 8) (hm : CM σ P k pr fa wi) (hch : gI σ P 10 = nI ch) (h1 : gI σ (116 + 3 * p) 1 = nI z) (h5 : gI σ (116 + 3 * p) 5 = nI k) (h6 : gI σ (116 + 3 * p) 6 = nI b) (hz : 30 ≤ z ∧ z ≤ 49) (hb : b < 32) (h3 : pc b ≤ 3) (hi : inz z b) (ho : o ≤ 5) (hob : o = 5 ∨ b / 2 ^ o % 2 = 1) (hd : day < 2 ^ 30) (h : HDc σ P day cm a d) : ∃ σ', zM 161 [.ref 6, .ref (116 + 3 * p), .int (nI o)] σ = some (none, σ') ∧ Sh σ' ∧ Un (fun r j => (r = 6 ∧ j = 11) ∨ (r = P + 5 ∧ j = 2) ∨ r = P + 7 ∨ (r = 116 + 3 * p ∧ 3 ≤ j ∧ j ≤ 6) ∨ r = 118 + 3 * p) σ σ' ∧ gI σ' 6 11 = gI σ 6 11 + mon pr fa wi ch b o ∧ HDc σ' P day (exC (bts b o) cm 5) (exA k z (bts b o) cm a 5) (exD day (bts b o) cm d 5) ∧ gI σ' (116 + 3 * p) 3 = gI σ (116 + 3 * p) 3 + 1 ∧ gI σ' (116 + 3 * p) 4 = (if o = 5 then gI σ (116 + 3 * p) 4 + 1 else gI σ (116 + 3 * p) 4) ∧ gI σ' (116 + 3 * p) 5 = -1 ∧ gI σ' (116 + 3 * p) 6 = 0 ∧ ∀ j, j < 40 → gI σ' (118 + 3 * p) j = if ¬ o = 5 ∧ j = 5 * k + o then gI σ (118 + 3 * p) j + 1 else gI σ (118 + 3 * p) j := by
  have hbb := HPb hP
  have S1 : Sh (sI σ 6 11 (gI σ 6 11 + mon pr fa wi ch b o)) := hS.sI (by omega)
  have e65 : gR (sI σ 6 11 (gI σ 6 11 + mon pr fa wi ch b o)) 6 5 = some P := h65
  have u1 : Un (fun r j => r = 6 ∧ j = 11) σ (sI σ 6 11 (gI σ 6 11 + mon pr fa wi ch b o)) := Un_sI ⟨rfl, rfl⟩
  have ez : gI (sI σ 6 11 (gI σ 6 11 + mon pr fa wi ch b o)) (116 + 3 * p) 1 = nI z := by rw [gI_sI, if_neg (by omega)]; exact h1
  have hx : HDc (sI σ 6 11 (gI σ 6 11 + mon pr fa wi ch b o)) P day cm a d := ⟨by rw [gI_sI, if_neg (by omega)]; exact h.1, by rw [gI_sI, if_neg (by omega)]; exact h.2.1, fun w hw l hl => by rw [gI_sI, if_neg (by omega)]; exact h.2.2 w hw l hl⟩
  obtain ⟨s2, a1, a2, a3, a4⟩ := c_expect S1 hP hk hz (bts_lt (o := o) hb) (bts_inz hb ho hob hi) hd hx
  have g5 : gI s2 (116 + 3 * p) 5 = nI k := by rw [a3.i (by omega) (by omega) (by omega) (by omega), gI_sI, if_neg (by omega)]; exact h5
  obtain ⟨s3, b1, b2, b3, b4, b5, b6, b7, b8⟩ := c_endBox a2 hp hk g5 ho
  have old : ∀ r j, 116 ≤ r → r < 176 → j < 100 → gI s2 r j = gI σ r j := fun r j x y v => by
    rw [a3.i (by omega) (by omega) v (by omega), gI_sI, if_neg (by omega)]
  refine ⟨s3, ?_, b2, (u1.mono (fun r j _ _ q => .inl q)).trans ((a3.mono (fun r j _ _ q => by omega)).trans (b3.mono (fun r j _ _ q => by omega))), ?_, ⟨?_, ?_, fun w hw l hl => ?_⟩, ?_, ?_, b6, b7, fun j hj => ?_⟩
  · by_cases q : o = 5
    · have mm : mon pr fa wi ch b o = mN ch fa wi (pc b) := by unfold mon; rw [if_pos q]
      have bq : bts b o = b := by unfold bts; rw [if_pos q]
      rw [mm] at S1 e65 ez a1
      rw [bq] at a1
      rw [q_X11_takeBack, tg_person hS hp, if_pos rfl, if_pos rfl, h6, c_bitc hb, zbI_e, if_pos (show nI o = 5 by rw [q]; rfl), tg_6 hS, if_pos rfl, if_pos rfl, h65, zeR_e, if_pos rfl, zeR_e, tg_P hS hP, if_pos rfl, if_pos rfl, hch, c_mn hS hP hm, zbI_e, tg_6 hS, if_pos rfl, zlt_e, h5, q_X11_takeBack_24, tg_6 S1, if_pos rfl, e65, zeR_e, tg_P S1 hP, if_pos rfl, gR_P_4 S1 hP, zeR_e, tg_person S1 hp, if_pos rfl, tg_P5 S1 hP, if_pos rfl, ez, a1, zbV_e, tg_person a2 hp, if_pos rfl, b1, zbV_e]
    · have mm : mon pr fa wi ch b o = mK pr fa wi (pc b) := by unfold mon; rw [if_neg q]
      have bq : bts b o = b - 2 ^ o := by unfold bts; rw [if_neg q]
      rw [mm] at S1 e65 ez a1
      rw [bq] at a1
      rw [q_X11_takeBack, tg_person hS hp, if_pos rfl, if_pos rfl, h6, c_bitc hb, zbI_e, if_neg (show ¬ nI o = 5 from fun x => q ((nI_eq (b := 5) (by omega) (by omega)).mp x)), tg_6 hS, if_pos rfl, if_pos rfl, h65, zeR_e, tg_P hS hP, if_pos rfl, h5, c_mk hS hP hk hm h3, zbI_e, tg_6 hS, if_pos rfl, zlt_e, q_X11_takeBack_43, tg_6 S1, if_pos rfl, e65, zeR_e, tg_P S1 hP, if_pos rfl, gR_P_4 S1 hP, zeR_e, tg_person S1 hp, if_pos rfl, tg_P5 S1 hP, if_pos rfl, ez, bts_and b hb o (by omega) (hob.resolve_left q), a1, zbV_e, tg_person a2 hp, if_pos rfl, b1, zbV_e]
  · rw [b3.i (by omega) (by omega) (by omega) (by omega), a3.i (by omega) (by omega) (by omega) (by omega), gI_sI, if_pos ⟨rfl, rfl⟩]
  · rw [b3.i (by omega) (by omega) (by omega) (by omega)]; exact a4.1
  · rw [b3.i (by omega) (by omega) (by omega) (by omega)]; exact a4.2.1
  · rw [b3.iA (by omega) (by omega) (by rw [tg_P7 a2 hP]; omega) (by omega)]; exact a4.2.2 w hw l hl
  · rw [b4, old _ _ (by omega) (by omega) (by omega)]
  · rw [b5, old _ _ (by omega) (by omega) (by omega)]
  · rw [b8 j hj, old _ _ (by omega) (by omega) (by omega)]
theorem r_came (hS : Sh σ) (hp : p < 20) (hk : k < 8) (hso : so < 4) (hr : RW σ p k so pl f g w) (hf : f 0 + f 1 + f 2 + f 3 + f 4 = 10000) (hg : g 0 + g 1 + g 2 = 10000) (hm : RM σ k pr fa wi) (hch : gI σ 223 5 = nI ch) (h1 : gI σ 233 p = nI z) (h5 : gI σ 238 p = nI k) (h6 : gI σ 239 p = nI b) (hz : 30 ≤ z ∧ z ≤ 49) (hb1 : 1 ≤ b) (hb : b < 32) (hi : inz z b) (ho : o ≤ 5) (hob : o = 5 ∨ b / 2 ^ o % 2 = 1) (hd : day < 2 ^ 30) (hcm : cm + 5 ≤ 2000) (h : HDr σ day cm a d) : ∃ σ', zM 285 [.ref 176, .int (nI p), .int (nI o)] σ = some (none, σ') ∧ Sh σ' ∧ Un (fun r j => (246 ≤ r ∧ r ≤ 250) ∨ (r = 234 ∧ 5 * p ≤ j ∧ j < 5 * p + 5) ∨ (r = 235 ∧ 3 * k ≤ j ∧ j < 3 * k + 3) ∨ (r = 176 ∧ (j = 83 ∨ j = 84)) ∨ r = 243 ∨ r = 244 ∨ ((236 ≤ r ∧ r ≤ 239) ∧ j = p) ∨ (r = 242 ∧ 160 * p ≤ j ∧ j < 160 * p + 160)) σ σ' ∧ (∀ d, d < 5 → gI σ' 234 (5 * p + d) = nI (lnF pl f g w b o d)) ∧ (∀ r, r < 3 → gI σ' 235 (3 * k + r) = nI (lnG pl f g w b o r)) ∧ gI σ' 176 83 = gI σ 176 83 + mon pr fa wi ch b o ∧ HDr σ' day (exC (bts b o) cm 5) (exA k z (bts b o) cm a 5) (exD day (bts b o) cm d 5) ∧ gI σ' 236 p = gI σ 236 p + 1 ∧ gI σ' 237 p = (if o = 5 then gI σ 237 p + 1 else gI σ 237 p) ∧ gI σ' 238 p = -1 ∧ gI σ' 239 p = 0 ∧ ∀ j, j < 160 → gI σ' 242 (160 * p + j) = if ¬ o = 5 ∧ j = 20 * k + (z + o - 32) then gI σ 242 (160 * p + j) + 1 else gI σ 242 (160 * p + j) := by
  have wl : wall pl f g w b o ≤ 1000000000000 := wall_le (fun d hd => (hr.1 d hd).1) hf hg
  have r238 := ai_nI (σ := σ) (t := 32) (u := 48) (.inl (tg_238 hS)) (ln_238 hS) hp (by omega)
  have r239 := ai_nI (σ := σ) (t := 32) (u := 48) (.inl (tg_239 hS)) (ln_239 hS) hp (by omega)
  -- what is learnt
  have st1 : ∃ s1, zM 285 [.ref 176, .int (nI p), .int (nI o)] σ = zR 8 285 27 [some (.ref 176), some (.int (nI p)), some (.int (nI o)), some (.int (nI k)), some (.int (nI b)), none] [] s1 ∧ Sh s1 ∧ Un (fun r j => (246 ≤ r ∧ r ≤ 250) ∨ (r = 234 ∧ 5 * p ≤ j ∧ j < 5 * p + 5) ∨ (r = 235 ∧ 3 * k ≤ j ∧ j < 3 * k + 3)) σ s1 ∧ (∀ d, d < 5 → gI s1 234 (5 * p + d) = nI (lnF pl f g w b o d)) ∧ ∀ r, r < 3 → gI s1 235 (3 * k + r) = nI (lnG pl f g w b o r) := by
    by_cases q0 : 0 < wall pl f g w b o
    · obtain ⟨s1, a1, a2, a3, a4, a5⟩ := r_learns hS hp hk hso hr hf hg hb1 hb ho q0
      refine ⟨s1, ?_, a2, a3, a4, a5⟩
      rw [q_X12_cameBack, tg_176 hS, if_pos rfl, gR_176_77 hS, zeR_e, if_pos r238, if_pos rfl, gR_176_78 hS, zeR_e, if_pos r239, if_pos rfl, ixn (by omega), h5, h6, r_weights hS hp hk hso hr hb1 hb ho, zbL_e, wsel_all, if_neg (by rw [l_npos (by omega)]; omega), tg_176 hS, if_pos rfl, a1, zbV_e]
    · refine ⟨σ, ?_, hS, Un.refl _ _, fun d hd => ?_, fun r hr' => ?_⟩
      · rw [q_X12_cameBack, tg_176 hS, if_pos rfl, gR_176_77 hS, zeR_e, if_pos r238, if_pos rfl, gR_176_78 hS, zeR_e, if_pos r239, if_pos rfl, ixn (by omega), h5, h6, r_weights hS hp hk hso hr hb1 hb ho, zbL_e, wsel_all, if_pos (by rw [l_npos (by omega)]; omega)]
      · unfold lnF; rw [if_neg q0]; exact (hr.2.2.2.2.1 d hd).2
      · unfold lnG; rw [if_neg q0]; exact (hr.2.2.2.2.2 r hr').2
  obtain ⟨s1, a1, a2, a3, a4, a5⟩ := st1
  have hm1 : RM s1 k pr fa wi := by
    obtain ⟨y1, y2, y3, y4⟩ := hm
    refine ⟨?_, ?_, ?_, y4⟩
    · rw [a3.i (by omega) (by omega) (by omega) (by omega)]; exact y1
    · rw [a3.i (by omega) (by omega) (by omega) (by omega)]; exact y2
    · rw [a3.i (by omega) (by omega) (by omega) (by omega)]; exact y3
  have hch1 : gI s1 223 5 = nI ch := by rw [a3.i (by omega) (by omega) (by omega) (by omega)]; exact hch
  have mo := r_money (b := b) a2 hk hm1 hch1 hb
  -- money, tried
  have S2 : Sh (sI s1 176 83 (gI σ 176 83 + mon pr fa wi ch b o)) := a2.sI (by omega)
  have S3 : Sh (sI (sI s1 176 83 (gI σ 176 83 + mon pr fa wi ch b o)) 236 p (gI σ 236 p + 1)) := S2.sI (by omega)
  have r236 := ai_nI (σ := sI s1 176 83 (gI σ 176 83 + mon pr fa wi ch b o)) (t := 32) (u := 48) (.inl (tg_236 S2)) (ln_236 S2) hp (by omega)
  have r236' := ai_nI (σ := sI s1 176 83 (gI σ 176 83 + mon pr fa wi ch b o)) (t := 32) (u := 32) (.inl (tg_236 S2)) (ln_236 S2) hp (by omega)
  have g236 : gI (sI s1 176 83 (gI σ 176 83 + mon pr fa wi ch b o)) 236 p = gI σ 236 p := by rw [gI_sI, if_neg (by omega), a3.i (by omega) (by omega) (by omega) (by omega)]
  have g83 : gI s1 176 83 = gI σ 176 83 := by rw [a3.i (by omega) (by omega) (by omega) (by omega)]
  have st2 : zR 8 285 27 [some (.ref 176), some (.int (nI p)), some (.int (nI o)), some (.int (nI k)), some (.int (nI b)), none] [] s1 = if nI o = 5 then (if tg (sI (sI s1 176 83 (gI σ 176 83 + mon pr fa wi ch b o)) 236 p (gI σ 236 p + 1)) 176 = 13 then zeR none (gR (sI (sI s1 176 83 (gI σ 176 83 + mon pr fa wi ch b o)) 236 p (gI σ 236 p + 1)) 176 76) (fun q5 => if ai (sI (sI s1 176 83 (gI σ 176 83 + mon pr fa wi ch b o)) 236 p (gI σ 236 p + 1)) 32 48 q5 (nI p) = true then if ai (sI (sI s1 176 83 (gI σ 176 83 + mon pr fa wi ch b o)) 236 p (gI σ 236 p + 1)) 32 32 q5 (nI p) = true then zlt (sI (sI (sI s1 176 83 (gI σ 176 83 + mon pr fa wi ch b o)) 236 p (gI σ 236 p + 1)) q5 (ix (nI p)) ((gI (sI (sI s1 176 83 (gI σ 176 83 + mon pr fa wi ch b o)) 236 p (gI σ 236 p + 1)) q5 (ix (nI p))) + 1)) (fun σ6 => zR 8 285 89 [some (.ref 176), some (.int (nI p)), some (.int (nI o)), some (.int (nI k)), some (.int (nI b)), some (.int 0)] [] σ6) else none else none) else none) else (zR 8 285 62 [some (.ref 176), some (.int (nI p)), some (.int (nI o)), some (.int (nI k)), some (.int (nI b)), none] [] (sI (sI s1 176 83 (gI σ 176 83 + mon pr fa wi ch b o)) 236 p (gI σ 236 p + 1))) := by
    by_cases q : o = 5
    · have mm : mon pr fa wi ch b o = mN ch fa wi (pc b) := by unfold mon; rw [if_pos q]
      have q5 : nI o = 5 := by rw [q]; rfl
      rw [mm] at S2 S3 r236 r236' g236 ⊢
      rw [q_X12_cameBack_27, tg_176 a2, if_pos rfl, if_pos (show (5 : Int32) ≤ nI o by rw [q]; decide), q_X12_cameBack_39, tg_176 a2, if_pos rfl, mo.2, zbI_e, tg_176 a2, if_pos rfl, zlt_e, g83, tg_176 S2, if_pos rfl, gR_176_75 S2, zeR_e, if_pos r236, if_pos r236', zlt_e, ixn (show p < 2 ^ 31 by omega), g236]
    · have mm : mon pr fa wi ch b o = mK pr fa wi (pc b) := by unfold mon; rw [if_neg q]
      rw [mm] at S2 S3 r236 r236' g236 ⊢
      rw [q_X12_cameBack_27, tg_176 a2, if_pos rfl, if_neg (show ¬ (5 : Int32) ≤ nI o from nI_ge (b := 5) (by omega) (by omega)), q_X12_cameBack_39, tg_176 a2, if_pos rfl, mo.1, zbI_e, tg_176 a2, if_pos rfl, zlt_e, g83, tg_176 S2, if_pos rfl, gR_176_75 S2, zeR_e, if_pos r236, if_pos r236', zlt_e, ixn (show p < 2 ^ 31 by omega), g236]
  -- whole, or kept
  have st3 : ∃ s4, zR 8 285 27 [some (.ref 176), some (.int (nI p)), some (.int (nI o)), some (.int (nI k)), some (.int (nI b)), none] [] s1 = zR 8 285 89 [some (.ref 176), some (.int (nI p)), some (.int (nI o)), some (.int (nI k)), some (.int (nI b)), some (.int 0)] [] s4 ∧ Sh s4 ∧ Un (fun r j => (r = 176 ∧ j = 83) ∨ ((r = 236 ∨ r = 237) ∧ j = p) ∨ (r = 242 ∧ 160 * p ≤ j ∧ j < 160 * p + 160)) s1 s4 ∧ gI s4 176 83 = gI σ 176 83 + mon pr fa wi ch b o ∧ gI s4 236 p = gI σ 236 p + 1 ∧ gI s4 237 p = (if o = 5 then gI σ 237 p + 1 else gI σ 237 p) ∧ ∀ j, j < 160 → gI s4 242 (160 * p + j) = if ¬ o = 5 ∧ j = 20 * k + (z + o - 32) then gI σ 242 (160 * p + j) + 1 else gI σ 242 (160 * p + j) := by
    have g237 : gI (sI (sI s1 176 83 (gI σ 176 83 + mon pr fa wi ch b o)) 236 p (gI σ 236 p + 1)) 237 p = gI σ 237 p := by rw [gI_sI, if_neg (by omega), gI_sI, if_neg (by omega), a3.i (by omega) (by omega) (by omega) (by omega)]
    have g242 : ∀ j, gI (sI (sI s1 176 83 (gI σ 176 83 + mon pr fa wi ch b o)) 236 p (gI σ 236 p + 1)) 242 j = gI σ 242 j := fun j => by rw [gI_sI, if_neg (by omega), gI_sI, if_neg (by omega), a3.iA (by omega) (by omega) (by rw [tg_242 hS]; omega) (by omega)]
    by_cases q : o = 5
    · have q5 : nI o = 5 := by rw [q]; rfl
      refine ⟨sI (sI (sI s1 176 83 (gI σ 176 83 + mon pr fa wi ch b o)) 236 p (gI σ 236 p + 1)) 237 p (gI σ 237 p + 1), ?_, S3.sI (by omega), (Un_sI (by omega)).trans ((Un_sI (by omega)).trans (Un_sI (by omega))), ?_, ?_, ?_, fun j hj => ?_⟩
      · rw [st2, if_pos q5, tg_176 S3, if_pos rfl, gR_176_76 S3, zeR_e, if_pos (ai_nI (.inl (tg_237 S3)) (ln_237 S3) hp (by omega)), if_pos (ai_nI (.inl (tg_237 S3)) (ln_237 S3) hp (by omega)), zlt_e, ixn (by omega), g237]
      · rw [gI_sI, if_neg (by omega), gI_sI, if_neg (by omega), gI_sI, if_pos ⟨rfl, rfl⟩]
      · rw [gI_sI, if_neg (by omega), gI_sI, if_pos ⟨rfl, rfl⟩]
      · rw [gI_sI, if_pos ⟨rfl, rfl⟩, if_pos q]
      · rw [gI_sI, if_neg (by omega), g242, if_neg (fun x => x.1 q)]
    · have q5 : ¬ nI o = 5 := fun x => q ((nI_eq (b := 5) (by omega) (by omega)).mp x)
      have rg := hi o (by omega) (hob.resolve_left q)
      have z3 : gI (sI (sI s1 176 83 (gI σ 176 83 + mon pr fa wi ch b o)) 236 p (gI σ 236 p + 1)) 233 p = nI z := by rw [gI_sI, if_neg (by omega), gI_sI, if_neg (by omega), a3.i (by omega) (by omega) (by omega) (by omega)]; exact h1
      have ei : (160 : Int32) * nI p + 20 * nI k + nI z + nI o - 2 - 30 = nI (160 * p + (20 * k + (z + o - 32))) := by
        rw [nI_mulL 160 p, nI_mulL 20 k, nI_add, nI_add, nI_add, nI_subR (n := 2) (by omega), nI_subR (n := 30) (by omega)]
        congr 1
        omega
      have lt : 160 * p + (20 * k + (z + o - 32)) < 3200 := by omega
      refine ⟨sI (sI (sI s1 176 83 (gI σ 176 83 + mon pr fa wi ch b o)) 236 p (gI σ 236 p + 1)) 242 (160 * p + (20 * k + (z + o - 32))) (gI σ 242 (160 * p + (20 * k + (z + o - 32))) + 1), ?_, S3.sI (by omega), (Un_sI (by omega)).trans ((Un_sI (by omega)).trans (Un_sI (by omega))), ?_, ?_, ?_, fun j hj => ?_⟩
      · rw [st2, if_neg q5, q_X12_cameBack_62, tg_176 S3, if_pos rfl, gR_176_81 S3, zeR_e, if_pos rfl, gR_176_72 S3, zeR_e, if_pos (ai_nI (.inl (tg_233 S3)) (ln_233 S3) hp (by omega)), ixn (show p < 2 ^ 31 by omega), z3, ei, if_pos (ai_nI (.inl (tg_242 S3)) (ln_242 S3) lt (by omega)), if_pos (ai_nI (.inl (tg_242 S3)) (ln_242 S3) lt (by omega)), zlt_e, ixn (by omega), g242]
      · rw [gI_sI, if_neg (by omega), gI_sI, if_neg (by omega), gI_sI, if_pos ⟨rfl, rfl⟩]
      · rw [gI_sI, if_neg (by omega), gI_sI, if_pos ⟨rfl, rfl⟩]
      · rw [gI_sI, if_neg (by omega), g237, if_neg q]
      · rw [gI_sI]
        by_cases q2 : j = 20 * k + (z + o - 32)
        · rw [if_pos ⟨rfl, by rw [q2]⟩, if_pos ⟨q, q2⟩, q2]
        · rw [if_neg (fun x => q2 (by omega)), if_neg (fun x => q2 x.2), g242]
  obtain ⟨s4, b1, b2, b3, b4, b5, b6, b7⟩ := st3
  have hD4 : HDr s4 day cm a d := by
    obtain ⟨y1, y2, y3⟩ := h
    refine ⟨?_, ?_, fun i hi' => ⟨?_, ?_⟩⟩
    · rw [b3.i (by omega) (by omega) (by omega) (by omega), a3.i (by omega) (by omega) (by omega) (by omega)]; exact y1
    · rw [b3.i (by omega) (by omega) (by omega) (by omega), a3.i (by omega) (by omega) (by omega) (by omega)]; exact y2
    · rw [b3.iA (by omega) (by omega) (by rw [tg_243 a2]; omega) (by omega), a3.iA (by omega) (by omega) (by rw [tg_243 hS]; omega) (by omega)]; exact (y3 i hi').1
    · rw [b3.iA (by omega) (by omega) (by rw [tg_244 a2]; omega) (by omega), a3.iA (by omega) (by omega) (by rw [tg_244 hS]; omega) (by omega)]; exact (y3 i hi').2
  have z4 : gI s4 233 p = nI z := by rw [b3.i (by omega) (by omega) (by omega) (by omega), a3.i (by omega) (by omega) (by omega) (by omega)]; exact h1
  obtain ⟨s5, c1, c2, c3, c4⟩ := r_exp b2 hp hk z4 hz hb ho hob hi hd hcm hD4
  have S6 : Sh (sI s5 238 p (-1)) := c2.sI (by omega)
  have S7 : Sh (sI (sI s5 238 p (-1)) 239 p 0) := S6.sI (by omega)
  have u6 : Un (fun r j => (r = 238 ∨ r = 239) ∧ j = p) s5 (sI (sI s5 238 p (-1)) 239 p 0) := (Un_sI (by omega)).trans (Un_sI (by omega))
  refine ⟨sI (sI s5 238 p (-1)) 239 p 0, ?_, S7, (a3.mono (fun r j _ _ q => by omega)).trans ((b3.mono (fun r j _ _ q => by omega)).trans ((c3.mono (fun r j _ _ q => by omega)).trans (u6.mono (fun r j _ _ q => by omega)))), fun d hd => ?_, fun r hr' => ?_, ?_, ⟨?_, ?_, fun i hi' => ⟨?_, ?_⟩⟩, ?_, ?_, ?_, ?_, fun j hj => ?_⟩
  · rw [a1, b1, c1, q_X12_cameBack_89, if_pos (show (5 : Int32) ≤ 5 by decide), tg_176 c2, if_pos rfl, gR_176_77 c2, zeR_e, if_pos (ai_nI (.inl (tg_238 c2)) (ln_238 c2) hp (by omega)), zlt_e, ixn (by omega), tg_176 S6, if_pos rfl, gR_176_78 S6, zeR_e, if_pos (ai_nI (.inl (tg_239 S6)) (ln_239 S6) hp (by omega)), zlt_e]
  · rw [u6.i (by omega) (by omega) (by omega) (by omega), c3.i (by omega) (by omega) (by omega) (by omega), b3.i (by omega) (by omega) (by omega) (by omega)]; exact a4 d hd
  · rw [u6.i (by omega) (by omega) (by omega) (by omega), c3.i (by omega) (by omega) (by omega) (by omega), b3.i (by omega) (by omega) (by omega) (by omega)]; exact a5 r hr'
  · rw [u6.i (by omega) (by omega) (by omega) (by omega), c3.i (by omega) (by omega) (by omega) (by omega)]; exact b4
  · rw [u6.i (by omega) (by omega) (by omega) (by omega)]; exact c4.1
  · rw [u6.i (by omega) (by omega) (by omega) (by omega)]; exact c4.2.1
  · rw [u6.iA (by omega) (by omega) (by rw [tg_243 c2]; omega) (by omega)]; exact (c4.2.2 i hi').1
  · rw [u6.iA (by omega) (by omega) (by rw [tg_244 c2]; omega) (by omega)]; exact (c4.2.2 i hi').2
  · rw [u6.i (by omega) (by omega) (by omega) (by omega), c3.i (by omega) (by omega) (by omega) (by omega)]; exact b5
  · rw [u6.i (by omega) (by omega) (by omega) (by omega), c3.i (by omega) (by omega) (by omega) (by omega)]; exact b6
  · rw [gI_sI, if_neg (by omega), gI_sI, if_pos ⟨rfl, rfl⟩]
  · rw [gI_sI, if_pos ⟨rfl, rfl⟩]
  · rw [u6.iA (by omega) (by omega) (by rw [tg_242 c2]; omega) (by omega), c3.iA (by omega) (by omega) (by rw [tg_242 b2]; omega) (by omega)]; exact b7 j hj
end
