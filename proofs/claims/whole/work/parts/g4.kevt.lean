/-! rules reckoned: the facts laid by the class -/
section
variable {σ σ' : zS} {f g : Nat → Nat} {P p k so m pr ch : Nat}
theorem CPk_un (h : CPk σ P p k f g so m pr ch) (hP : HP P) (hp : p < 20) (hk : k < 8) (u : Un (fun r _ => r = 114) σ σ') : CPk σ' P p k f g so m pr ch := by
  have hb := HPb hP
  obtain ⟨h1, h2, h3, h4, h5, h6⟩ := h
  refine ⟨?_, ?_, fun d hd => ?_, fun r hr => ?_, ?_, ?_⟩
  · rw [u.i (by omega) (by omega) (by omega) (by omega)]; exact h1
  · rw [u.i (by omega) (by omega) (by omega) (by omega)]; exact h2
  · rw [u.i (by omega) (by omega) (by omega) (by omega)]; exact h3 d hd
  · rw [u.i (by omega) (by omega) (by omega) (by omega)]; exact h4 r hr
  · rw [u.i (by omega) (by omega) (by omega) (by omega)]; exact h5
  · rw [u.i (by omega) (by omega) (by omega) (by omega)]; exact h6
theorem tl_st (hS : Sh σ) (h : CPk σ P p k f g so m pr ch) (hP : HP P) (hp : p < 20) (hk : k < 8) (j : Nat) (v : Int32) : ∃ τ, τ = sI σ 114 j v ∧ Sh τ ∧ CPk τ P p k f g so m pr ch ∧ (∀ i, gI τ 114 i = if i = j then v else gI σ 114 i) ∧ Un (fun r _ => r = 114) σ τ := by
  have u : Un (fun r _ => r = 114) σ (sI σ 114 j v) := Un_sI rfl
  refine ⟨_, rfl, hS.sI (by omega), CPk_un h hP hp hk u, fun i => ?_, u⟩
  rw [gI_sI]
  by_cases q : i = j
  · rw [if_pos ⟨rfl, q⟩, if_pos q]
  · rw [if_neg (fun z => q z.2), if_neg q]
theorem a114 (hS : Sh σ) {j : Nat} (hj : j < 8) : ai σ 32 32 114 (nI j) = true := ai_nI (.inl (tg_114 hS)) (ln_114 hS) hj (by omega)
theorem c_tell (hS : Sh σ) (hP : HP P) (hp : p < 20) (hk : k < 8) (h65 : gR σ 6 5 = some P) (h : CPk σ P p k f g so m pr ch) : ∃ σ', zM 153 [.ref 6, .ref (116 + 3 * p), .ref (P + 8 + 2 * k)] σ = some (none, σ') ∧ Sh σ' ∧ Un (fun r _ => r = 114) σ σ' ∧ CFa σ' (fcv so m (f 0 + f 1) (f 3 + f 4) (g 0) (g 2) pr ch) := by
  have hb := HPb hP
  have ix0 : ix 0 = 0 := by decide
  have ix1 : ix 1 = 1 := by decide
  have ix2 : ix 2 = 2 := by decide
  have ix3 : ix 3 = 3 := by decide
  have ix4 : ix 4 = 4 := by decide
  have ix5 : ix 5 = 5 := by decide
  have ix6 : ix 6 = 6 := by decide
  have ix7 : ix 7 = 7 := by decide
  obtain ⟨s1, e1, S1, C1, G1, U1⟩ := tl_st hS h hP hp hk 0 (nI so)
  obtain ⟨s2, e2, S2, C2, G2, U2⟩ := tl_st S1 C1 hP hp hk 1 (nI m)
  obtain ⟨s3, e3, S3, C3, G3, U3⟩ := tl_st S2 C2 hP hp hk 2 (nI (f 0 + f 1))
  obtain ⟨s4, e4, S4, C4, G4, U4⟩ := tl_st S3 C3 hP hp hk 3 (nI (f 3 + f 4))
  obtain ⟨s5, e5, S5, C5, G5, U5⟩ := tl_st S4 C4 hP hp hk 4 (nI (g 0))
  obtain ⟨s6, e6, S6, C6, G6, U6⟩ := tl_st S5 C5 hP hp hk 5 (nI (g 2))
  obtain ⟨s7, e7, S7, C7, G7, U7⟩ := tl_st S6 C6 hP hp hk 6 (nI pr)
  obtain ⟨s8, e8, S8, C8, G8, U8⟩ := tl_st S7 C7 hP hp hk 7 (nI ch)
  have uA : Un (fun r _ => r = 114) σ s7 := U1.trans (U2.trans (U3.trans (U4.trans (U5.trans (U6.trans U7)))))
  have h65' : gR s7 6 5 = some P := by rw [uA.r (by omega) (by omega) (by omega) (by omega)]; exact h65
  have gx : ∀ i, gI s8 114 i = if i = 7 then nI ch else if i = 6 then nI pr else if i = 5 then nI (g 2) else if i = 4 then nI (g 0) else if i = 3 then nI (f 3 + f 4) else if i = 2 then nI (f 0 + f 1) else if i = 1 then nI m else if i = 0 then nI so else gI σ 114 i := fun i => by rw [G8, G7, G6, G5, G4, G3, G2, G1]
  refine ⟨s8, ?_, S8, uA.trans U8, fun c hc => ?_⟩
  · rw [q_X11_tellFacts, ix0, ix1, ix2, tg_6 hS, if_pos rfl, gR_6_17 hS, zeR_e, tg_person hS hp, if_pos rfl, if_pos (show ai _ 32 32 114 0 = true from a114 hS (j := 0) (by omega)), h.1, zlt_e, ← e1]
    rw [tg_6 S1, if_pos rfl, gR_6_17 S1, zeR_e, tg_person S1 hp, if_pos rfl, if_pos (show ai _ 32 32 114 1 = true from a114 S1 (j := 1) (by omega)), C1.2.1, zlt_e, ← e2]
    rw [tg_6 S2, if_pos rfl, gR_6_17 S2, zeR_e, tg_person S2 hp, if_pos rfl, gR_pfeet S2 hp, zeR_e, if_pos (show ai _ 32 48 (117 + 3 * p) 0 = true from ai_nI (.inl (tg_pfeet S2 hp)) (ln_pfeet S2 hp) (k := 0) (by omega) (by omega)), if_pos rfl, zeR_e, if_pos (show ai _ 32 48 (117 + 3 * p) 1 = true from ai_nI (.inl (tg_pfeet S2 hp)) (ln_pfeet S2 hp) (k := 1) (by omega) (by omega)), if_pos (show ai _ 32 32 114 2 = true from a114 S2 (j := 2) (by omega)), C2.2.2.1 0 (by omega), C2.2.2.1 1 (by omega), nI_add, zlt_e, ← e3]
    rw [q_X11_tellFacts_25, ix0, ix2, ix3, ix4, ix5, ix6, tg_6 S3, if_pos rfl, gR_6_17 S3, zeR_e, tg_person S3 hp, if_pos rfl, gR_pfeet S3 hp, zeR_e, if_pos (show ai _ 32 48 (117 + 3 * p) 3 = true from ai_nI (.inl (tg_pfeet S3 hp)) (ln_pfeet S3 hp) (k := 3) (by omega) (by omega)), if_pos rfl, zeR_e, if_pos (show ai _ 32 48 (117 + 3 * p) 4 = true from ai_nI (.inl (tg_pfeet S3 hp)) (ln_pfeet S3 hp) (k := 4) (by omega) (by omega)), if_pos (show ai _ 32 32 114 3 = true from a114 S3 (j := 3) (by omega)), C3.2.2.1 3 (by omega), C3.2.2.1 4 (by omega), nI_add, zlt_e, ← e4]
    rw [tg_6 S4, if_pos rfl, gR_6_17 S4, zeR_e, tg_Plast S4 hP hk, if_pos rfl, gR_Pruns S4 hP hk, zeR_e, if_pos (show ai _ 32 48 (P + 9 + 2 * k) 0 = true from ai_nI (.inl (tg_Pruns S4 hP hk)) (ln_Pruns S4 hP hk) (k := 0) (by omega) (by omega)), if_pos (show ai _ 32 32 114 4 = true from a114 S4 (j := 4) (by omega)), C4.2.2.2.1 0 (by omega), zlt_e, ← e5]
    rw [tg_6 S5, if_pos rfl, gR_6_17 S5, zeR_e, tg_Plast S5 hP hk, if_pos rfl, gR_Pruns S5 hP hk, zeR_e, if_pos (show ai _ 32 48 (P + 9 + 2 * k) 2 = true from ai_nI (.inl (tg_Pruns S5 hP hk)) (ln_Pruns S5 hP hk) (k := 2) (by omega) (by omega)), if_pos (show ai _ 32 32 114 5 = true from a114 S5 (j := 5) (by omega)), C5.2.2.2.1 2 (by omega), zlt_e, ← e6]
    rw [tg_6 S6, if_pos rfl, gR_6_17 S6, zeR_e, tg_Plast S6 hP hk, if_pos rfl, if_pos (show ai _ 32 32 114 6 = true from a114 S6 (j := 6) (by omega)), C6.2.2.2.2.1, zlt_e, ← e7]
    rw [q_X11_tellFacts_60, ix7, tg_6 S7, if_pos rfl, gR_6_17 S7, zeR_e, if_pos rfl, h65', zeR_e, tg_P S7 hP, if_pos rfl, if_pos (show ai _ 32 32 114 7 = true from a114 S7 (j := 7) (by omega)), C7.2.2.2.2.2, zlt_e, ← e8]
  · rw [gx]
    rcases isF_cs hc with rfl | rfl | rfl | rfl | rfl | rfl | rfl | rfl
    · exact (eI_nat (so)).symm
    · exact (eI_nat (m)).symm
    · exact (eI_nat (f 0 + f 1)).symm
    · exact (eI_nat (f 3 + f 4)).symm
    · exact (eI_nat (g 0)).symm
    · exact (eI_nat (g 2)).symm
    · exact (eI_nat (pr)).symm
    · exact (eI_nat (ch)).symm
end
