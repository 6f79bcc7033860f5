/-! image: rows of bytes -/
def rowB (f : Nat → Nat) : Nat → List Nat
  | 0 => []
  | i + 1 => rowB f i ++ [f i / 256, f i % 256]
def ckn (L : List Nat) : Nat → Nat
  | 0 => 13
  | j + 1 => (5 * ckn L j + L.getD j 0) % 241
/-- the bytes of the class's image, of the reference's -/
def CI (σ : zS) (L : List Nat) : Prop := gI σ 110 1 = nI L.length ∧ (∀ j, j < L.length → gI σ 111 j = sb (L.getD j 0)) ∧ ∀ j, L.getD j 0 < 256
def RI (σ : zS) (L : List Nat) : Prop := gI σ 176 97 = nI L.length ∧ (∀ j, j < L.length → gI σ 252 j = nI (L.getD j 0)) ∧ ∀ j, L.getD j 0 < 256
section
variable {σ σ' σ1 σ2 : zS} {f : Nat → Nat} {L : List Nat} {A n b : Nat}
theorem gd_lo {j : Nat} (hj : j < L.length) : (L ++ [b]).getD j 0 = L.getD j 0 := by
  rw [List.getD_eq_getElem?_getD, List.getD_eq_getElem?_getD, List.getElem?_append_left hj]
theorem gd_at : (L ++ [b]).getD L.length 0 = b := by
  rw [List.getD_eq_getElem?_getD, List.getElem?_append_right (Nat.le_refl _), Nat.sub_self]
  rfl
theorem gd_all (h : ∀ j, L.getD j 0 < 256) (hb : b < 256) : ∀ j, (L ++ [b]).getD j 0 < 256 := fun j => by
  rcases Nat.lt_trichotomy j L.length with q | q | q
  · rw [gd_lo q]; exact h j
  · rw [q, gd_at]; exact hb
  · rw [List.getD_eq_getElem?_getD, List.getElem?_append_right (by omega), List.getElem?_eq_none (by simp only [List.length_cons, List.length_nil]; omega)]
    exact (by decide : (0 : Nat) < 256)
theorem len1 : (L ++ [b]).length = L.length + 1 := by rw [List.length_append]; rfl
theorem lb_nI {v : Nat} (h : v < 2 ^ 32) : lb (nI v) = v % 256 := by
  unfold lb
  rw [pk_tn h]
theorem c_putB (hS : Sh σ) (h : CI σ L) (hl : L.length < 290) {v : Int32} (hb : lb v = b) : ∃ σ', zM 19 [.ref 110, .int v] σ = some (none, σ') ∧ Sh σ' ∧ Un (fun r j => (r = 110 ∧ j = 1) ∨ r = 111) σ σ' ∧ CI σ' (L ++ [b]) := by
  have b256 : b < 256 := by rw [← hb]; exact lb_lt v
  have S1 : Sh (sI σ 111 L.length (sb b)) := hS.sI (by omega)
  have g1 : gI (sI σ 111 L.length (sb b)) 110 1 = nI L.length := by rw [gI_sI, if_neg (by omega)]; exact h.1
  refine ⟨sI (sI σ 111 L.length (sb b)) 110 1 (nI (L.length + 1)), ?_, S1.sI (by omega), (Un_sI (.inr rfl)).trans (Un_sI (.inl ⟨rfl, rfl⟩)), ?_, fun j hj => ?_, gd_all h.2.2 b256⟩
  · rw [q_X2_put, tg_110 hS, if_pos rfl, h.1, if_neg (show ¬ (290 : Int32) ≤ nI L.length from nI_ge (b := 290) hl (by omega)), if_pos rfl, gR_110_0 hS, zeR_e, if_pos rfl, if_pos (ai_nI (.inl (tg_111 hS)) (ln_111 hS) hl (by omega)), zlt_e, ixn (by omega), to8_sb, hb, tg_110 S1, if_pos rfl, if_pos rfl, g1, nI_1, zlt_e]
  · rw [gI_sI, if_pos ⟨rfl, rfl⟩, len1]
  · rw [gI_sI, if_neg (by omega), gI_sI]
    rw [len1] at hj
    by_cases q : j = L.length
    · rw [if_pos ⟨rfl, q⟩, q, gd_at]
    · rw [if_neg (fun x => q x.2), gd_lo (by omega)]; exact h.2.1 j (by omega)
theorem r_wr (hS : Sh σ) (h : RI σ L) (hl : L.length < 310) (hb : b < 256) : ∃ σ', zM 311 [.ref 176, .int (nI b)] σ = some (none, σ') ∧ Sh σ' ∧ Un (fun r j => (r = 176 ∧ j = 97) ∨ r = 252) σ σ' ∧ RI σ' (L ++ [b]) := by
  have S1 : Sh (sI σ 252 L.length (nI b)) := hS.sI (by omega)
  have g1 : gI (sI σ 252 L.length (nI b)) 176 97 = nI L.length := by rw [gI_sI, if_neg (by omega)]; exact h.1
  refine ⟨sI (sI σ 252 L.length (nI b)) 176 97 (nI (L.length + 1)), ?_, S1.sI (by omega), (Un_sI (.inr rfl)).trans (Un_sI (.inl ⟨rfl, rfl⟩)), ?_, fun j hj => ?_, gd_all h.2.2 hb⟩
  · rw [q_X12_writes, tg_176 hS, if_pos rfl, gR_176_96 hS, zeR_e, if_pos rfl, h.1, if_pos (ai_nI (.inl (tg_252 hS)) (ln_252 hS) hl (by omega)), zlt_e, ixn (by omega), tg_176 S1, if_pos rfl, if_pos rfl, g1, nI_1, zlt_e]
  · rw [gI_sI, if_pos ⟨rfl, rfl⟩, len1]
  · rw [gI_sI, if_neg (by omega), gI_sI]
    rw [len1] at hj
    by_cases q : j = L.length
    · rw [if_pos ⟨rfl, q⟩, q, gd_at]
    · rw [if_neg (fun x => q x.2), gd_lo (by omega)]; exact h.2.1 j (by omega)
theorem r_wr2 (hS : Sh σ) (h : RI σ L) (hl : L.length + 2 ≤ 310) {v : Nat} (hv : v ≤ 10000) : ∃ σ', zM 312 [.ref 176, .int (nI v)] σ = some (none, σ') ∧ Sh σ' ∧ Un (fun r j => (r = 176 ∧ j = 97) ∨ r = 252) σ σ' ∧ RI σ' (L ++ [v / 256, v % 256]) := by
  obtain ⟨s1, a1, a2, a3, a4⟩ := r_wr (b := v / 256) hS h (by omega) (by omega)
  obtain ⟨s2, b1, b2, b3, b4⟩ := r_wr (b := v % 256) a2 a4 (by rw [len1]; omega) (by omega)
  refine ⟨s2, ?_, b2, a3.trans b3, by rw [show L ++ [v / 256, v % 256] = L ++ [v / 256] ++ [v % 256] by rw [List.append_assoc]; rfl]; exact b4⟩
  rw [q_X12_writesTwo, tg_176 hS, if_pos rfl, show (256 : Int32) = nI 256 from rfl, pk_rem (by omega) (by omega) (by omega), pk_div (by omega) (by omega) (by omega), a1, zbV_e, tg_176 a2, if_pos rfl, b1, zbV_e]
theorem rowB_len : ∀ i, (rowB f i).length = 2 * i
  | 0 => rfl
  | i + 1 => by
    show (rowB f i ++ [f i / 256, f i % 256]).length = _
    rw [List.length_append, rowB_len i]
    rfl
theorem c_putRow (hS : Sh σ) (h : CI σ L) (hn : n ≤ 5) (hl : L.length + 2 * n ≤ 290) (tA : tg σ A = 32) (lA : ln σ A = n) (hA : 6 ≤ A ∧ A < 110 ∨ 112 ≤ A ∧ A < 253) (hf : ∀ i, i < n → f i ≤ 10000 ∧ gI σ A i = nI (f i)) : ∃ σ', zM 20 [.ref 110, .ref A] σ = some (none, σ') ∧ Sh σ' ∧ Un (fun r j => (r = 110 ∧ j = 1) ∨ r = 111) σ σ' ∧ CI σ' (L ++ rowB f n) := by
  obtain ⟨s1, e1, k1, k2, k3⟩ := lp_run (F := fun i (s : zS) => zR 2 20 2 [some (.ref 110), some (.ref A), some (.int (nI i))] [] s) (fun i s => Sh s ∧ Un (fun r j => (r = 110 ∧ j = 1) ∨ r = 111) σ s ∧ CI s (L ++ rowB f i)) n (by
    rintro i s hi ⟨k1, k2, k3⟩
    have fi := hf i hi
    have ll : (L ++ rowB f i).length = L.length + 2 * i := by rw [List.length_append, rowB_len]
    have tA1 : tg s A = 32 := by rw [tg_of1 k2.1]; exact tA
    have lA1 : ln s A = n := by rw [ln_of1 k2.1]; exact lA
    have gA : gI s A i = nI (f i) := by rw [k2.i (by omega) (by omega) (by omega) (by omega)]; exact fi.2
    have sh8 : nI (f i) >>> ((8 : Int32) &&& 31) = nI (f i / 256) := pk_shrN (by omega) _ 8 (by decide)
    obtain ⟨s2, a1, a2, a3, a4⟩ := c_putB (b := f i / 256) (v := nI (f i / 256)) k1 k3 (by rw [ll]; omega) (by rw [lb_nI (by omega)]; omega)
    have tA2 : tg s2 A = 32 := by rw [tg_of1 a3.1]; exact tA1
    have lA2 : ln s2 A = n := by rw [ln_of1 a3.1]; exact lA1
    have gA2 : gI s2 A i = nI (f i) := by rw [a3.i (by omega) (by omega) (by omega) (by omega)]; exact gA
    obtain ⟨s3, b1, b2, b3, b4⟩ := c_putB (b := f i % 256) (v := nI (f i)) a2 a4 (by rw [len1, ll]; omega) (lb_nI (by omega))
    refine ⟨s3, ?_, b2, k2.trans (a3.trans b3), ?_⟩
    · rw [q_X2_putRow_2, tA1, if_pos (by decide), lA1, if_neg (show ¬ Int32.ofNat n ≤ nI i from nI_ge hi (by omega)), if_pos (ai_nI (.inl tA1) lA1 hi (by omega)), tg_110 k1, if_pos rfl, ixn (by omega), gA, sh8, a1, zbV_e, if_pos (ai_nI (.inl tA2) lA2 hi (by omega)), tg_110 a2, if_pos rfl, gA2, b1, zbV_e, nI_1]
    · have : L ++ rowB f (i + 1) = L ++ rowB f i ++ [f i / 256] ++ [f i % 256] := by
        show L ++ (rowB f i ++ [f i / 256, f i % 256]) = _
        simp only [List.append_assoc]
        rfl
      rw [this]; exact b4) σ ⟨hS, Un.refl _ _, by show CI σ (L ++ []); rw [List.append_nil]; exact h⟩
  have tA1 : tg s1 A = 32 := by rw [tg_of1 k2.1]; exact tA
  have lA1 : ln s1 A = n := by rw [ln_of1 k2.1]; exact lA
  refine ⟨s1, ?_, k1, k2, k3⟩
  rw [q_X2_putRow]
  refine Eq.trans e1 ?_
  rw [q_X2_putRow_2, tA1, if_pos (by decide), lA1, if_pos (show Int32.ofNat n ≤ nI n from nI_le (Nat.le_refl _) (by omega))]
theorem ckn_lt : ∀ j, ckn L j < 241
  | 0 => (by decide : 13 < 241)
  | j + 1 => Nat.mod_lt _ (by omega)
theorem c_check (hS : Sh σ) (h : CI σ L) (hl : L.length ≤ 290) : zM 21 [.ref 111, .int (nI L.length)] σ = some (some (.int (nI (ckn L L.length))), σ) := by
  have e := lp_seq (G := fun j => zR 1 21 4 [some (.ref 111), some (.int (nI L.length)), some (.int (nI (ckn L j))), some (.int (nI j))] [] σ) L.length (fun j hj => by
    have c0 := ckn_lt (L := L) j
    have b0 := h.2.2 j
    rw [q_X2_check_4, if_neg (nI_ge hj (by omega)), tg_111 hS, if_pos (by decide), ln_111 hS, if_neg (show ¬ Int32.ofNat 290 ≤ nI j from nI_ge (b := 290) (by omega) (by omega)), if_pos (ai_nI (.inl (tg_111 hS)) (ln_111 hS) (show j < 290 by omega) (by omega)), ixn (by omega), h.2.1 j hj, sb_and _ b0, nI_mulL 5, nI_add, show (241 : Int32) = nI 241 from rfl, pk_rem (by omega) (by omega) (by omega), zli_e, nI_1]
    rfl)
  rw [q_X2_check]
  refine Eq.trans e ?_
  rw [q_X2_check_4, if_pos (nI_le (Nat.le_refl _) (by omega))]
theorem r_check (hS : Sh σ) (h : RI σ L) (hl : L.length ≤ 290) : zM 313 [.ref 252, .int (nI L.length)] σ = some (some (.int (nI (ckn L L.length))), σ) := by
  have e := lp_seq (G := fun j => zR 1 313 4 [some (.ref 252), some (.int (nI L.length)), some (.int (nI (ckn L j))), some (.int (nI j))] [] σ) L.length (fun j hj => by
    have c0 := ckn_lt (L := L) j
    have b0 := h.2.2 j
    rw [q_X12_checked_4, if_neg (nI_ge hj (by omega)), if_pos (ai_nI (.inl (tg_252 hS)) (ln_252 hS) (show j < 310 by omega) (by omega)), ixn (by omega), h.2.1 j hj, nI_mulL 5, nI_add, show (241 : Int32) = nI 241 from rfl, pk_rem (by omega) (by omega) (by omega), zli_e, nI_1]
    rfl)
  rw [q_X12_checked]
  refine Eq.trans e ?_
  rw [q_X12_checked_4, if_pos (nI_le (Nat.le_refl _) (by omega))]
end
