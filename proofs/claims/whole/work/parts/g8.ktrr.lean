/-! a trial: what the reference does -/
def XTr (p k : Nat) (r j : Nat) : Prop := (r = 224 ∧ 160 ≤ j) ∨ (246 ≤ r ∧ r ≤ 250) ∨ (r = 234 ∧ 5 * p ≤ j ∧ j < 5 * p + 5) ∨ (r = 235 ∧ 3 * k ≤ j ∧ j < 3 * k + 3) ∨ (r = 176 ∧ (j = 83 ∨ j = 84 ∨ j = 95)) ∨ r = 243 ∨ r = 244 ∨ ((236 ≤ r ∧ r ≤ 239) ∧ j = p) ∨ (r = 242 ∧ 160 * p ≤ j ∧ j < 160 * p + 160)
section
variable {σ σ' τ : zS} {s : Nat → Int32} {zf pl f g a d : Nat → Nat} {B P S N M K np c n p k so z b w x y sd day cm pr fa wi ch o : Nat} {t : Nat → Nat}
theorem tr_r (hS : Sh σ) (hp : p < 20) (hk : k < 8) (hso : so < 4) (hr : RW σ p k so pl f g w) (hf : f 0 + f 1 + f 2 + f 3 + f 4 = 10000) (hg : g 0 + g 1 + g 2 = 10000) (hm : RM σ k pr fa wi) (hch : gI σ 223 5 = nI ch) (h1 : gI σ 233 p = nI z) (hz : 30 ≤ z ∧ z ≤ 49) (b1 : 1 ≤ b) (b2 : b < 32) (bi : inz z b) (hs : ∀ j, j < 20 → gI σ 224 (160 + (20 * k + j)) = s j) (hd : day < 2 ^ 30) (hcm : cm + 5 ≤ 2000) (dr : HDr σ day cm a d) (hF : gI σ 240 p = nI x) (hx : x < 5) (hR : gI σ 241 k = nI y) (hy : y < 3) (hsd : sd < 2147483648) (hsl : gL σ 176 95 = lN sd) (ho : o = trO pl w b sd (x + 2 - y)) (v : Int32) (u5 u6 : Option Value) : ∃ σ', zbV (zM 277 [.ref 176, .int (nI p), .int (nI k), .int (nI b)] σ) (fun σ3 => zR 9 310 47 [some (.ref 176), some (.int (nI p)), some (.int (nI k)), some (.int v), some (.int (nI b)), u5, u6] [] σ3) = some (some (.int (nI o)), σ') ∧ Sh σ' ∧ Un (XTr p k) σ σ' ∧ (∀ j, j < 20 → gI σ' 224 (160 + (20 * k + j)) = chs z b (-1) s 5 j) ∧ (∀ j, ¬ (20 * k ≤ j ∧ j < 20 * k + 20) → gI σ' 224 (160 + j) = gI σ 224 (160 + j)) ∧ (∀ i, i < 5 → gI σ' 234 (5 * p + i) = nI (lnF pl f g w b o i)) ∧ (∀ r, r < 3 → gI σ' 235 (3 * k + r) = nI (lnG pl f g w b o r)) ∧ gI σ' 176 83 = gI σ 176 83 + mon pr fa wi ch b o ∧ gL σ' 176 95 = lN (drs sd) ∧ HDr σ' day (exC (bts b o) cm 5) (exA k z (bts b o) cm a 5) (exD day (bts b o) cm d 5) ∧ gI σ' 236 p = gI σ 236 p + 1 ∧ gI σ' 237 p = (if o = 5 then gI σ 237 p + 1 else gI σ 237 p) ∧ gI σ' 238 p = -1 ∧ gI σ' 239 p = 0 ∧ ∀ j, j < 160 → gI σ' 242 (160 * p + j) = if ¬ o = 5 ∧ j = 20 * k + (z + o - 32) then gI σ 242 (160 * p + j) + 1 else gI σ 242 (160 * p + j) := by
  obtain ⟨ho5, hob⟩ := trO_ok (pl := pl) (w := w) (sd := sd) (y := x + 2 - y) b1 b2
  rw [← ho] at ho5 hob
  obtain ⟨s2, e1, e2, e3, e4, e5, e6⟩ := r_sent hS hp hk h1 hz b2 bi hs
  have k2 : ∀ r j, (r = 223 ∨ r = 233 ∨ r = 232 ∨ r = 218 ∨ r = 215 ∨ r = 240 ∨ r = 241 ∨ r = 236 ∨ r = 237 ∨ r = 176) → j < 100 → gI s2 r j = gI σ r j := fun r j q hj => by
    rw [e3.i (by omega) (by omega) hj (by omega)]
  have k2A : ∀ r j, (r = 222 ∨ r = 234 ∨ r = 235 ∨ r = 243 ∨ r = 244 ∨ r = 242) → 32 ≤ tg σ r → gI s2 r j = gI σ r j := fun r j q ht => by
    rw [e3.iA (by omega) (by omega) ht (by omega)]
  have hr2 : RW s2 p k so pl f g w := by
    obtain ⟨y1, y2, y3, y4, y5, y6⟩ := hr
    refine ⟨fun i hi => ⟨(y1 i hi).1, ?_⟩, ?_, ?_, y4, fun i hi => ⟨(y5 i hi).1, ?_⟩, fun i hi => ⟨(y6 i hi).1, ?_⟩⟩
    · rw [k2A _ _ (by omega) (by rw [tg_222 hS]; omega)]; exact (y1 i hi).2
    · rw [k2 _ _ (by omega) (by omega)]; exact y2
    · rw [k2 _ _ (by omega) (by omega)]; exact y3
    · rw [k2A _ _ (by omega) (by rw [tg_234 hS]; omega)]; exact (y5 i hi).2
    · rw [k2A _ _ (by omega) (by rw [tg_235 hS]; omega)]; exact (y6 i hi).2
  have hm2 : RM s2 k pr fa wi := by
    obtain ⟨m1, m2, m3, m4⟩ := hm
    refine ⟨?_, ?_, ?_, m4⟩
    · rw [k2 _ _ (by omega) (by omega)]; exact m1
    · rw [k2 _ _ (by omega) (by omega)]; exact m2
    · rw [k2 _ _ (by omega) (by omega)]; exact m3
  have dr2 : HDr s2 day cm a d := by
    obtain ⟨m1, m2, m3⟩ := dr
    refine ⟨?_, ?_, fun i hi => ⟨?_, ?_⟩⟩
    · rw [k2 _ _ (by omega) (by omega)]; exact m1
    · rw [k2 _ _ (by omega) (by omega)]; exact m2
    · rw [k2A _ _ (by omega) (by rw [tg_243 hS]; omega)]; exact (m3 i hi).1
    · rw [k2A _ _ (by omega) (by rw [tg_244 hS]; omega)]; exact (m3 i hi).2
  have hF2 : gI s2 240 p = nI x := by rw [k2 _ _ (by omega) (by omega)]; exact hF
  have hR2 : gI s2 241 k = nI y := by rw [k2 _ _ (by omega) (by omega)]; exact hR
  have hL2 : gL s2 176 95 = lN sd := by rw [e3.l (by omega) (by omega) (by omega) (by omega)]; exact hsl
  obtain ⟨s3, q3⟩ : ∃ s3, s3 = sL s2 176 95 (lN (drs sd)) := ⟨_, rfl⟩
  have g3 : ∀ r j, gI s3 r j = gI s2 r j := fun r j => by rw [q3, gI_sL]
  have hS3 : Sh s3 := by rw [q3]; exact e2.sL
  have hL3 : gL s3 176 95 = lN (drs sd) := by rw [q3, gL_sL, if_pos ⟨rfl, rfl⟩]
  have u3 : Un (XTr p k) s2 s3 := by rw [q3]; exact Un_sL (.inr (.inr (.inr (.inr (.inl (⟨rfl, by omega⟩))))))
  have hF3 : gI s3 240 p = nI x := by rw [g3]; exact hF2
  have hR3 : gI s3 241 k = nI y := by rw [g3]; exact hR2
  have hr3 : RW s3 p k so pl f g w := by
    obtain ⟨y1, y2, y3, y4, y5, y6⟩ := hr2
    exact ⟨fun i hi => ⟨(y1 i hi).1, by rw [g3]; exact (y1 i hi).2⟩, by rw [g3]; exact y2, by rw [g3]; exact y3, y4, fun i hi => ⟨(y5 i hi).1, by rw [g3]; exact (y5 i hi).2⟩, fun i hi => ⟨(y6 i hi).1, by rw [g3]; exact (y6 i hi).2⟩⟩
  have hm3 : RM s3 k pr fa wi := by
    obtain ⟨m1, m2, m3, m4⟩ := hm2
    exact ⟨by rw [g3]; exact m1, by rw [g3]; exact m2, by rw [g3]; exact m3, m4⟩
  have dr3 : HDr s3 day cm a d := by
    obtain ⟨m1, m2, m3⟩ := dr2
    exact ⟨by rw [g3]; exact m1, by rw [g3]; exact m2, fun i hi => ⟨by rw [g3]; exact (m3 i hi).1, by rw [g3]; exact (m3 i hi).2⟩⟩
  obtain ⟨s4, c1, c2, c3, c4, c5, c6, c7, c8, c9, c10, c11, c12⟩ := r_came (σ := s3) (o := o) hS3 hp hk hso hr3 hf hg hm3 (by
    rw [g3, k2 _ _ (by omega) (by omega)]; exact hch) (z := z) (by
    rw [g3, k2 _ _ (by omega) (by omega)]; exact h1) (by rw [g3]; exact e5) (by rw [g3]; exact e6) hz b1 b2 bi ho5 hob hd hcm dr3
  have h5 := bpr_in (pl := pl) (y := x + 2 - y) b1 b2
  have kl : kpg pl w b (x + 2 - y) ≤ 10000 := kpg_le (fun d hd => (hr.1 d hd).1)
  have dl : drv (drs sd) < 10000 := Nat.mod_lt _ (by omega)
  have lk : lik pl w b (bpr pl b (x + 2 - y) 5) (x + 2 - y) = kpg pl w b (x + 2 - y) := by
    unfold lik
    rw [if_neg (by omega), if_pos rfl]
  have a40 := ai_nI (σ := s2) (t := 32) (u := 48) (.inl (tg_240 e2)) (ln_240 e2) hp (by omega)
  have a41 := ai_nI (σ := s2) (t := 32) (u := 48) (.inl (tg_241 e2)) (ln_241 e2) hk (by omega)
  have b40 := ai_nI (σ := s3) (t := 32) (u := 48) (.inl (tg_240 hS3)) (ln_240 hS3) hp (by omega)
  have b41 := ai_nI (σ := s3) (t := 32) (u := 48) (.inl (tg_241 hS3)) (ln_241 hS3) hk (by omega)
  have xp : ix (nI p) = p := ixn (by omega)
  have xk : ix (nI k) = k := ixn (by omega)
  have w2 : Un (XTr p k) s2 s4 := u3.trans (c3.mono (fun r j _ _ q => by
    rcases q with q | q | q | q | q | q | q | q
    · exact .inr (.inl (q))
    · exact .inr (.inr (.inl (q)))
    · exact .inr (.inr (.inr (.inl (q))))
    · exact .inr (.inr (.inr (.inr (.inl (⟨q.1, by omega⟩)))))
    · exact .inr (.inr (.inr (.inr (.inr (.inl (q))))))
    · exact .inr (.inr (.inr (.inr (.inr (.inr (.inl (q)))))))
    · exact .inr (.inr (.inr (.inr (.inr (.inr (.inr (.inl (q))))))))
    · exact .inr (.inr (.inr (.inr (.inr (.inr (.inr (.inr (q))))))))))
  refine ⟨s4, ?_, c2, (e3.mono (fun r j _ _ q => by
    rcases q with q | q
    · exact .inl (⟨q.1, by omega⟩)
    · exact .inr (.inr (.inr (.inr (.inr (.inr (.inr (.inl (⟨by omega, q.2⟩)))))))))).trans w2, fun j hj => ?_, fun j hj => ?_, c4, c5, ?_, ?_, c7, ?_, ?_, c10, c11, fun j hj => ?_⟩
  · rw [e1, zbV_e, q_X12_trial_47, tg_176 e2, if_pos rfl, gR_176_79 e2, zeR_e, if_pos a40, if_pos rfl, gR_176_80 e2, zeR_e, if_pos a41, if_pos rfl, xp, xk, hF2, hR2, r_bpr e2 hr2.1 b1 b2 hx hy, zbI_e]
    rw [q_X12_trial_59, tg_176 e2, if_pos rfl, r_do e2 hsd hL2, zbI_e, ← q3, tg_176 hS3, if_pos rfl, gR_176_79 hS3, zeR_e, if_pos b40, if_pos rfl, gR_176_80 hS3, zeR_e, if_pos b41, if_pos rfl, xp, xk, hF3, hR3, r_lik hS3 hp hso hr3 b1 b2 hx hy (by omega), zbI_e, lk]
    unfold trO at ho
    by_cases q : drv (drs sd) < kpg pl w b (x + 2 - y)
    · rw [if_pos q] at ho
      rw [ho] at c1 ⊢
      rw [if_neg (nI_ge q (by omega)), tg_176 hS3, if_pos rfl, c1, zbV_e, q_X12_trial_84]
    · rw [if_neg q] at ho
      rw [ho] at c1 ⊢
      rw [if_pos (nI_le (by omega) (by omega)), tg_176 hS3, if_pos rfl, show (5 : Int32) = nI 5 from rfl, c1, zbV_e, q_X12_trial_84]
  · rw [c3.iA (by omega) (by omega) (by rw [tg_224 hS3]; omega) (by omega)]
    rw [g3]
    exact e4 j hj
  · rw [c3.iA (by omega) (by omega) (by rw [tg_224 hS3]; omega) (by omega)]
    rw [g3]
    rw [e3.iA (by omega) (by omega) (by rw [tg_224 hS]; omega) (by omega)]
  · rw [c6]
    rw [g3, k2 _ _ (by omega) (by omega)]
  · rw [c3.l (by omega) (by omega) (by omega) (by omega)]; exact hL3
  · rw [c8]
    rw [g3, k2 _ _ (by omega) (by omega)]
  · rw [c9]
    rw [g3, k2 _ _ (by omega) (by omega)]
  · rw [c12 j hj]
    rw [g3, k2A _ _ (by omega) (by rw [tg_242 hS]; omega)]
end
