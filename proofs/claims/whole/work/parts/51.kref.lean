/-! the reference's reading of a text -/
def wL (w : Nat) : List Nat := ownW.getD w []
def RC (σ : zS) (t : Nat → Nat) (n : Nat) : Prop := Sh σ ∧ n ≤ 1600 ∧ (∀ j, t j < 256) ∧ (∀ j, j < 1600 → gI σ 177 j = nI (t j)) ∧ gI σ 176 3 = nI n ∧ (∀ w, w < 35 → ∀ i, i < (wL w).length → gI σ (178 + w) i = nI ((wL w).getD i 0))
def RS (σ : zS) (t : Nat → Nat) (n : Nat) (st : lx) : Prop := RC σ t n ∧ lO t n st ∧ match st with
  | .inl (s, e) => (∃ a, a ≤ n ∧ ru t n 5 a = s ∧ gI σ 176 2 = nI a) ∧ gI σ 176 4 = nI e - 1 ∧ gI σ 176 5 = 0 ∧ gI σ 176 6 = -1
  | .inr (f, p) => gI σ 176 5 = nI f ∧ gI σ 176 6 = nI p
def isW (t : Nat → Nat) (s m : Nat) (w : List Nat) : Prop := m = s + w.length ∧ ∀ i, i < w.length → t (s + i) = w.getD i 0
section
variable {t : Nat → Nat} {n : Nat} {σ : zS} {st : lx}
theorem ifc {α : Type} {p q : Prop} {hp : Decidable p} {hq : Decidable q} {a b : α} (h : p ↔ q) : @ite α p hp a b = @ite α q hq a b := by
  by_cases z : p
  · rw [if_pos z, if_pos (h.mp z)]
  · rw [if_neg z, if_neg (fun y => z (h.mpr y))]
theorem tg_word (h : Sh σ) {w : Nat} (hw : w < 35) : tg σ (178 + w) = 34 := by
  have : ∀ w, w < 35 → zK0[178 + w - 6]? = some (34, (wL w).length) := by decide +kernel
  exact h.tg (by omega) (by omega) (this w hw)
theorem ln_word (h : Sh σ) {w : Nat} (hw : w < 35) : ln σ (178 + w) = (wL w).length := by
  have : ∀ w, w < 35 → zK0[178 + w - 6]? = some (34, (wL w).length) := by decide +kernel
  exact h.ln (by omega) (by omega) (this w hw)
theorem wL_len {w : Nat} (hw : w < 35) : (wL w).length ≤ 6 ∧ 2 ≤ (wL w).length := by
  have : ∀ w, w < 35 → (wL w).length ≤ 6 ∧ 2 ≤ (wL w).length := by decide +kernel
  exact this w hw
theorem wL_in {w i : Nat} (hw : w < 35) (hi : i < (wL w).length) : 97 ≤ (wL w).getD i 0 ∧ (wL w).getD i 0 ≤ 122 := by
  have : ∀ w, w < 35 → ∀ i, i < (wL w).length → 97 ≤ (wL w).getD i 0 ∧ (wL w).getD i 0 ≤ 122 := by decide +kernel
  exact this w hw i hi
/-- a word's digit -/
def wD (w i : Nat) : Nat := (wL w).getD i 96 - 96
theorem wD_in {w i : Nat} (hw : w < 35) (hi : i < (wL w).length) : wD w i = (wL w).getD i 0 - 96 ∧ 1 ≤ wD w i ∧ wD w i ≤ 26 := by
  have : ∀ w, w < 35 → ∀ i, i < (wL w).length → wD w i = (wL w).getD i 0 - 96 ∧ 1 ≤ wD w i ∧ wD w i ≤ 26 := by decide +kernel
  exact this w hw i hi
theorem wD_out {w i : Nat} (hi : (wL w).length ≤ i) : wD w i = 0 := by
  unfold wD
  rw [List.getD_eq_getElem?_getD, List.getElem?_eq_none hi]
  rfl
theorem wD_le {w i : Nat} (hw : w < 35) : wD w i ≤ 26 := by
  rcases Nat.lt_or_ge i (wL w).length with h | h
  · exact (wD_in hw h).2.2
  · rw [wD_out h]; omega
theorem pvL_D (w : Nat) : pvL (wL w) = wD w 0 * 14348907 + wD w 1 * 531441 + wD w 2 * 19683 + wD w 3 * 729 + wD w 4 * 27 + wD w 5 := rfl
theorem wv_D (s m : Nat) : wv t s m = dg t s m 0 * 14348907 + dg t s m 1 * 531441 + dg t s m 2 * 19683 + dg t s m 3 * 729 + dg t s m 4 * 27 + dg t s m 5 := by
  unfold wv pw pw pw pw pw pw pw plc
  simp only [List.getD_cons_zero, List.getD_cons_succ, Nat.zero_add, Nat.mul_one]
theorem digits {a0 a1 a2 a3 a4 a5 b0 b1 b2 b3 b4 b5 : Nat} (h : a0 * 14348907 + a1 * 531441 + a2 * 19683 + a3 * 729 + a4 * 27 + a5 = b0 * 14348907 + b1 * 531441 + b2 * 19683 + b3 * 729 + b4 * 27 + b5) (ha0 : a0 ≤ 26) (ha1 : a1 ≤ 26) (ha2 : a2 ≤ 26) (ha3 : a3 ≤ 26) (ha4 : a4 ≤ 26) (ha5 : a5 ≤ 26) (hb0 : b0 ≤ 26) (hb1 : b1 ≤ 26) (hb2 : b2 ≤ 26) (hb3 : b3 ≤ 26) (hb4 : b4 ≤ 26) (hb5 : b5 ≤ 26) : a0 = b0 ∧ a1 = b1 ∧ a2 = b2 ∧ a3 = b3 ∧ a4 = b4 ∧ a5 = b5 := by
  have e0 : a0 = b0 := by omega
  subst e0
  have e1 : a1 = b1 := by omega
  subst e1
  have e2 : a2 = b2 := by omega
  subst e2
  have e3 : a3 = b3 := by omega
  subst e3
  have e4 : a4 = b4 := by omega
  subst e4
  exact ⟨rfl, rfl, rfl, rfl, rfl, by omega⟩
theorem wv_iff {s m w : Nat} (hw : w < 35) (hl : ∀ j, s ≤ j → j < m → kO (t j) = 1) (h6 : m ≤ s + 6) (hsm : s ≤ m) : wv t s m = pvL (wL w) ↔ isW t s m (wL w) := by
  have hd := dg_le hl
  have hw2 := wL_len hw
  constructor
  · intro h
    rw [wv_D, pvL_D] at h
    obtain ⟨e0, e1, e2, e3, e4, e5⟩ := digits h (hd 0) (hd 1) (hd 2) (hd 3) (hd 4) (hd 5) (wD_le hw) (wD_le hw) (wD_le hw) (wD_le hw) (wD_le hw) (wD_le hw)
    have ee : ∀ i, i < 6 → dg t s m i = wD w i := by
      intro i hi
      match i, hi with
      | 0, _ => exact e0
      | 1, _ => exact e1
      | 2, _ => exact e2
      | 3, _ => exact e3
      | 4, _ => exact e4
      | 5, _ => exact e5
    have hin : ∀ i, i < (wL w).length → s + i < m := by
      intro i hi
      have h1 := ee i (by omega)
      have h2 := (wD_in hw hi).2.1
      unfold dg at h1
      split at h1
      · assumption
      · omega
    refine ⟨?_, ?_⟩
    · have h1 := hin ((wL w).length - 1) (by omega)
      rcases Nat.lt_or_ge (s + (wL w).length) m with h2 | h2
      · have h3 := ee (wL w).length (by omega)
        rw [wD_out (Nat.le_refl _)] at h3
        unfold dg at h3
        rw [if_pos h2] at h3
        have := kO1 (hl _ (by omega) h2)
        omega
      · omega
    · intro i hi
      have h1 := ee i (by omega)
      have h2 := hin i hi
      have h3 := wD_in hw hi
      have h4 := wL_in hw hi
      have h5 := kO1 (hl _ (by omega) h2)
      unfold dg at h1
      rw [if_pos h2] at h1
      omega
  · intro h
    obtain ⟨h1, h2⟩ := h
    have ee : ∀ i, dg t s m i = wD w i := by
      intro i
      unfold dg
      rcases Nat.lt_or_ge i (wL w).length with h | h
      · rw [if_pos (by omega), h2 i h, (wD_in hw h).1]
      · rw [if_neg (by omega), wD_out h]
    rw [wv_D, pvL_D]
    simp only [ee]
theorem owN_iff {v w : Nat} (hw : w < 35) : owN v = w ↔ v = pvL (wL w) := by
  have h1 : ∀ w, w < 35 → owN (pvL (wL w)) = w := by decide +kernel
  have h2 : ∀ w, w < 35 → ownL.getD w 0 = pvL (wL w) := by decide +kernel
  constructor
  · intro h
    have hlt : owN v < ownL.length := by rw [h]; exact hw
    have hq := List.findIdx_getElem (xs := ownL) (p := fun q => q == v) (w := hlt)
    have hq : (ownL[owN v] == v) = true := hq
    have h3 := h2 w hw
    rw [List.getD_eq_getElem?_getD, List.getElem?_eq_getElem (by exact hw)] at h3
    have : ownL[owN v] = v := by simpa using hq
    rw [← this]
    simp only [h]
    exact h3
  · intro h
    rw [h]
    exact h1 w hw
theorem ow_iff {s e w : Nat} (hw : w < 35) (hs : s < n) (hk : kO (t s) = 1) (he : e ≠ s + 1) : owT t n s e = w ↔ isW t s (ru t n 1 s) (wL w) := by
  unfold owT owC
  have hin : ∀ j, s ≤ j → j < ru t n 1 s → kO (t j) = 1 := ru_in s
  by_cases h6 : ru t n 1 s ≤ s + 6
  · rw [if_pos (by simp [hs, hk, he, h6]), owN_iff hw]
    exact wv_iff hw hin h6 (ru_ge s)
  · rw [if_neg (by simp [h6])]
    constructor
    · intro q; omega
    · intro q
      have := q.1
      have := (wL_len hw).1
      omega
theorem kO5 {c : Nat} : kO c = 5 ↔ c = 10 ∨ c = 32 := by
  unfold kO
  repeat' split
  all_goals omega
theorem r_isLetter {c : Nat} (hc : c < 256) (σ : zS) : zM 192 [.int (nI c)] σ = some (some (.int (if kO c = 1 then 1 else 0)), σ) := by
  rw [q_X12_isLetter]
  have h1 : ∀ c, c < 256 → (nI c < 97 ↔ c < 97) := fun c h => nI_ltI (b := 97) (by omega) (by omega)
  have h2 : ∀ c, c < 256 → (122 < nI c ↔ 122 < c) := fun c h => nI_ltI (a := 122) (by omega) (by omega)
  simp only [h1 c hc, h2 c hc]
  unfold kO
  repeat' split
  all_goals first | rfl | omega
theorem r_isDigit {c : Nat} (hc : c < 256) (σ : zS) : zM 193 [.int (nI c)] σ = some (some (.int (if kO c = 2 then 1 else 0)), σ) := by
  rw [q_X12_isDigit]
  have h1 : ∀ c, c < 256 → (nI c < 48 ↔ c < 48) := fun c h => nI_ltI (b := 48) (by omega) (by omega)
  have h2 : ∀ c, c < 256 → (57 < nI c ↔ 57 < c) := fun c h => nI_ltI (a := 57) (by omega) (by omega)
  simp only [h1 c hc, h2 c hc]
  unfold kO
  repeat' split
  all_goals first | rfl | omega
theorem r_look0 (hR : RC σ t n) : ∀ a, a ≤ n → zR 1 194 0 [some (.ref 176)] [] (sI σ 176 2 (nI a)) = some (some (.int (if ru t n 5 a < n then nI (t (ru t n 5 a)) else -1)), sI σ 176 2 (nI (ru t n 5 a))) := by
  obtain ⟨hS, hn, hc, htx, h3, hw⟩ := hR
  refine ru_ind (t := t) (n := n) (k := 5) _ ?_ ?_
  · intro x h hx
    rw [ru_stop h, q_X12_look_0]
    simp -implicitDefEqProofs only [tg_sI, ln_sI, tg_sL, ln_sL, tg_sR, ln_sR, tg_sC, ln_sC, ai_sI, ai_sL, gL_sI, gR_sI, gI_sL, gR_sL, gI_sR, gL_sR, gI_sI, gL_sL, gR_sR, zlt_e, zln_e, zli_e, zll_e, zbI_e, zbL_e, zbR_e, zbV_e, zeR_e, zeN_s, zeN_n, Nat.reduceEqDiff, and_self, and_true, true_and, and_false, false_and, ite_true, ite_false, reduceIte, tg_176 hS, gR_176_0 hS, h3]
    by_cases hx2 : x < n
    · have hk : ¬ kO (t x) = 5 := fun q => h ⟨hx2, q⟩
      rw [kO5] at hk
      have := hc x
      rw [if_neg (nI_ge hx2 (by omega)), if_pos (ai_nI (.inl (tg_177 hS)) (ln_177 hS) (by omega) (by omega)), ixn (by omega), htx x (by omega), if_neg (show ¬ nI (t x) = 10 from fun q => hk (.inl ((nI_eq (b := 10) (by omega) (by omega)).mp q))), if_pos (ai_nI (.inl (tg_177 hS)) (ln_177 hS) (by omega) (by omega)), if_neg (show ¬ nI (t x) = 32 from fun q => hk (.inr ((nI_eq (b := 32) (by omega) (by omega)).mp q))), if_neg (nI_ge hx2 (by omega)), if_pos (ai_nI (.inl (tg_177 hS)) (ln_177 hS) (by omega) (by omega)), if_pos hx2]
    · rw [if_pos (nI_le (by omega) (by omega)), if_pos (nI_le (by omega) (by omega)), if_neg hx2]
  · intro x h ih hx
    have hk := kO5.mp h.2
    have := hc x
    have ih := ih (by omega)
    rw [ru_step h, ← ih, q_X12_look_0]
    simp -implicitDefEqProofs only [tg_sI, ln_sI, tg_sL, ln_sL, tg_sR, ln_sR, tg_sC, ln_sC, ai_sI, ai_sL, gL_sI, gR_sI, gI_sL, gR_sL, gI_sR, gL_sR, gI_sI, gL_sL, gR_sR, zlt_e, zln_e, zli_e, zll_e, zbI_e, zbL_e, zbR_e, zbV_e, zeR_e, zeN_s, zeN_n, Nat.reduceEqDiff, and_self, and_true, true_and, and_false, false_and, ite_true, ite_false, reduceIte, tg_176 hS, gR_176_0 hS, h3]
    rw [if_neg (nI_ge h.1 (by omega)), if_pos (ai_nI (.inl (tg_177 hS)) (ln_177 hS) (by omega) (by omega)), ixn (by omega), htx x (by omega), sI_same, nI_1]
    rcases hk with hk | hk
    · rw [hk, if_pos (show nI 10 = 10 from rfl)]
    · rw [hk, if_neg (show ¬ nI 32 = 10 by decide), if_pos (ai_nI (.inl (tg_177 hS)) (ln_177 hS) (by omega) (by omega)), if_pos (show nI 32 = 32 from rfl)]
theorem r_look {s e : Nat} (h : RS σ t n (.inl (s, e))) : zM 194 [.ref 176] σ = some (some (.int (if s < n then nI (t s) else -1)), sI σ 176 2 (nI s)) := by
  obtain ⟨hR, ho, ⟨a, ha, hs, h2⟩, -⟩ := h
  rw [(q_X12_look 176 σ).trans (q_X12_look_0 176 σ).symm]
  have := r_look0 hR a ha
  rw [sI_idv h2, hs] at this
  exact this
theorem RC_at {j : Nat} {v : Int32} (h : RC σ t n) (hj : j ≠ 3) : RC (sI σ 176 j v) t n := by
  obtain ⟨hS, hn, hc, htx, h3, hw⟩ := h
  refine ⟨hS.sI (by decide), hn, hc, fun i hi => ?_, ?_, fun w hw1 i hi => ?_⟩
  · rw [gI_sI, if_neg (by omega)]; exact htx i hi
  · rw [gI_sI, if_neg (by omega)]; exact h3
  · rw [gI_sI, if_neg (by omega)]; exact hw w hw1 i hi
theorem RS_look {s e : Nat} (h : RS σ t n (.inl (s, e))) : RS (sI σ 176 2 (nI s)) t n (.inl (s, e)) := by
  obtain ⟨hR, ho, ⟨a, ha, hs, h2⟩, h4, h5, h6⟩ := h
  exact ⟨RC_at hR (by decide), ho, ⟨s, ho.1, by rw [← hs]; exact ru_id a, rfl⟩, h4, h5, h6⟩
theorem ih_40 {s w : Nat} (hR : RC σ t n) (hw : w < 35) (hs : gI σ 176 2 = nI s) (hm : s + (wL w).length ≤ n) (x : Int32) : ∀ d i, d + i = (wL w).length → zR 2 195 40 [some (.ref 176), some (.ref (178 + w)), some (.int x), some (.int (nI i))] [] σ = some (some (.int (if ∀ j, j < (wL w).length → i ≤ j → t (s + j) = (wL w).getD j 0 then 1 else 0)), σ) := by
  obtain ⟨hS, hn, hc, htx, h3, hwd⟩ := hR
  have hl6 := wL_len hw
  intro d
  induction d with
  | zero =>
    intro i hi
    rw [q_X12_isHere_40, tg_word hS hw, ln_word hS hw, ofN, if_pos (by decide), if_pos (show nI (wL w).length ≤ nI i from nI_le (by omega) (by omega)), if_pos (show ∀ j, j < (wL w).length → i ≤ j → t (s + j) = (wL w).getD j 0 by intro j h1 h2; omega)]
  | succ d ih =>
    intro i hi
    have ih := ih (i + 1) (by omega)
    have := hc (s + i)
    have hwi := wL_in hw (i := i) (by omega)
    rw [q_X12_isHere_40]
    simp -implicitDefEqProofs only [tg_sI, ln_sI, tg_sL, ln_sL, tg_sR, ln_sR, tg_sC, ln_sC, ai_sI, ai_sL, gL_sI, gR_sI, gI_sL, gR_sL, gI_sR, gL_sR, gI_sI, gL_sL, gR_sR, zlt_e, zln_e, zli_e, zll_e, zbI_e, zbL_e, zbR_e, zbV_e, zeR_e, zeN_s, zeN_n, Nat.reduceEqDiff, and_self, and_true, true_and, and_false, false_and, ite_true, ite_false, reduceIte, tg_176 hS, gR_176_0 hS, tg_word hS hw, ln_word hS hw, hs, nI_add, ofN]
    rw [if_pos (by decide), if_neg (show ¬ nI (wL w).length ≤ nI i from nI_ge (by omega) (by omega)), if_pos (ai_nI (.inl (tg_177 hS)) (ln_177 hS) (by omega) (by omega)), if_pos (ai_nI (.inl (tg_word hS hw)) (ln_word hS hw) (by omega) (by omega)), ixn (by omega), ixn (by omega), htx (s + i) (by omega), hwd w hw i (by omega), nI_1, ih]
    by_cases hq : t (s + i) = (wL w).getD i 0
    · rw [if_pos (by rw [hq])]
      congr 4
      refine ifc ⟨fun h j h2 h1 => ?_, fun h j h2 h1 => h j h2 (by omega)⟩
      rcases Nat.eq_or_lt_of_le h1 with q | q
      · rw [← q]; exact hq
      · exact h j h2 q
    · rw [if_neg (show ¬ nI (t (s + i)) = nI ((wL w).getD i 0) from fun q => hq ((nI_eq (by omega) (by omega)).mp q)), if_neg (show ¬ ∀ j, j < (wL w).length → i ≤ j → t (s + j) = (wL w).getD j 0 from fun q => hq (q i (by omega) (Nat.le_refl _)))]
theorem ih_17 {s w : Nat} (hR : RC σ t n) (hw : w < 35) (hs : gI σ 176 2 = nI s) : ∀ k, s ≤ k → k ≤ n → zR 2 195 17 [some (.ref 176), some (.ref (178 + w)), some (.int (nI k)), none] [] σ = if ru t n 1 k - s = (wL w).length then zR 2 195 40 [some (.ref 176), some (.ref (178 + w)), some (.int (nI (ru t n 1 k))), some (.int 0)] [] σ else some (some (.int 0), σ) := by
  obtain ⟨hS, hn, hc, htx, h3, hwd⟩ := hR
  have hl6 := wL_len hw
  refine ru_ind (t := t) (n := n) (k := 1) _ ?_ ?_
  · intro x h hsx hx
    rw [ru_stop h, q_X12_isHere_17]
    simp -implicitDefEqProofs only [tg_sI, ln_sI, tg_sL, ln_sL, tg_sR, ln_sR, tg_sC, ln_sC, ai_sI, ai_sL, gL_sI, gR_sI, gI_sL, gR_sL, gI_sR, gL_sR, gI_sI, gL_sL, gR_sR, zlt_e, zln_e, zli_e, zll_e, zbI_e, zbL_e, zbR_e, zbV_e, zeR_e, zeN_s, zeN_n, Nat.reduceEqDiff, and_self, and_true, true_and, and_false, false_and, ite_true, ite_false, reduceIte, tg_176 hS, gR_176_0 hS, h3, tg_word hS hw, ln_word hS hw, hs, ofN]
    rw [pk_sub hsx]
    have e1 : (nI (x - s) = nI (wL w).length) = (x - s = (wL w).length) := propext (nI_eq (b := (wL w).length) (by omega) (by omega))
    simp only [e1]
    by_cases hx2 : x < n
    · have hk : ¬ kO (t x) = 1 := fun q => h ⟨hx2, q⟩
      rw [if_neg (nI_ge hx2 (by omega)), if_pos (ai_nI (.inl (tg_177 hS)) (ln_177 hS) (by omega) (by omega)), ixn (by omega), htx x (by omega), r_isLetter (hc x), if_neg hk]
      simp -implicitDefEqProofs only [tg_sI, ln_sI, tg_sL, ln_sL, tg_sR, ln_sR, tg_sC, ln_sC, ai_sI, ai_sL, gL_sI, gR_sI, gI_sL, gR_sL, gI_sR, gL_sR, gI_sI, gL_sL, gR_sR, zlt_e, zln_e, zli_e, zll_e, zbI_e, zbL_e, zbR_e, zbV_e, zeR_e, zeN_s, zeN_n, Nat.reduceEqDiff, and_self, and_true, true_and, and_false, false_and, ite_true, ite_false, reduceIte, tg_176 hS, tg_word hS hw, ln_word hS hw, hs, ofN]
      rw [pk_sub hsx, if_pos (by decide)]
      simp only [e1]
    · rw [if_pos (nI_le (by omega) (by omega)), if_pos (by decide)]
  · intro x h ih hsx hx
    rw [ru_step h, ← ih (by omega) (by omega), q_X12_isHere_17]
    simp -implicitDefEqProofs only [tg_sI, ln_sI, tg_sL, ln_sL, tg_sR, ln_sR, tg_sC, ln_sC, ai_sI, ai_sL, gL_sI, gR_sI, gI_sL, gR_sL, gI_sR, gL_sR, gI_sI, gL_sL, gR_sR, zlt_e, zln_e, zli_e, zll_e, zbI_e, zbL_e, zbR_e, zbV_e, zeR_e, zeN_s, zeN_n, Nat.reduceEqDiff, and_self, and_true, true_and, and_false, false_and, ite_true, ite_false, reduceIte, tg_176 hS, gR_176_0 hS, h3]
    rw [if_neg (nI_ge h.1 (by omega)), if_pos (ai_nI (.inl (tg_177 hS)) (ln_177 hS) (by omega) (by omega)), ixn (by omega), htx x (by omega), r_isLetter (hc x), if_pos h.2]
    simp -implicitDefEqProofs only [tg_sI, ln_sI, tg_sL, ln_sL, tg_sR, ln_sR, tg_sC, ln_sC, ai_sI, ai_sL, gL_sI, gR_sI, gI_sL, gR_sL, gI_sR, gL_sR, gI_sI, gL_sL, gR_sR, zlt_e, zln_e, zli_e, zll_e, zbI_e, zbL_e, zbR_e, zbV_e, zeR_e, zeN_s, zeN_n, Nat.reduceEqDiff, and_self, and_true, true_and, and_false, false_and, ite_true, ite_false, reduceIte]
    rw [if_neg (by decide), nI_1]
theorem eq_ended {s e : Nat} (hs : s < 2000) (he : e < 2002) : (nI s = nI e - 1) = (e = s + 1) := by
  refine propext ⟨fun h => ?_, fun h => by rw [h, nI_pred]⟩
  have h1 := congrArg (· + 1) h
  simp only [Int32.sub_add_cancel, nI_1] at h1
  exact ((nI_eq (by omega) (by omega)).mp h1).symm
theorem r_isHere {w : Nat} (hw : w < 35) {s e : Nat} (h : RS σ t n (.inl (s, e))) : zM 195 [.ref 176, .ref (178 + w)] σ = some (some (.int (if owT t n s e = w then 1 else 0)), sI σ 176 2 (nI s)) := by
  have hR := h.1
  have ho := h.2.1
  have hS := hR.1
  have hn := hR.2.1
  have hc := hR.2.2.1
  have ho1 := ho.1
  have ho2 := ho.2.1
  rw [q_X12_isHere]
  simp -implicitDefEqProofs only [tg_sI, ln_sI, tg_sL, ln_sL, tg_sR, ln_sR, tg_sC, ln_sC, ai_sI, ai_sL, gL_sI, gR_sI, gI_sL, gR_sL, gI_sR, gL_sR, gI_sI, gL_sL, gR_sR, zlt_e, zln_e, zli_e, zll_e, zbI_e, zbL_e, zbR_e, zbV_e, zeR_e, zeN_s, zeN_n, Nat.reduceEqDiff, and_self, and_true, true_and, and_false, false_and, ite_true, ite_false, reduceIte, tg_176 hS, h.2.2.2.2.1, r_look h]
  by_cases hs : s < n
  · rw [if_pos hs, r_isLetter (hc s)]
    simp -implicitDefEqProofs only [tg_sI, ln_sI, tg_sL, ln_sL, tg_sR, ln_sR, tg_sC, ln_sC, ai_sI, ai_sL, gL_sI, gR_sI, gI_sL, gR_sL, gI_sR, gL_sR, gI_sI, gL_sL, gR_sR, zlt_e, zln_e, zli_e, zll_e, zbI_e, zbL_e, zbR_e, zbV_e, zeR_e, zeN_s, zeN_n, Nat.reduceEqDiff, and_self, and_true, true_and, and_false, false_and, ite_true, ite_false, reduceIte, tg_176 hS, h.2.2.2.1]
    by_cases hk : kO (t s) = 1
    · rw [if_pos hk, if_neg (show ¬ (1 : Int32) = 0 by decide)]
      simp only [eq_ended (s := s) (e := e) (by omega) (by omega)]
      by_cases he : e = s + 1
      · rw [if_pos he]
        have q : owT t n s e = 35 := by
          unfold owT owC
          rw [if_neg (by simp [he])]
        rw [q, if_neg (by omega)]
      · rw [if_neg he]
        have hR2 := RC_at (j := 2) (v := nI s) hR (by decide)
        rw [ih_17 hR2 hw rfl s (Nat.le_refl _) (by omega)]
        have hle : ru t n 1 s ≤ n := ru_le (by omega)
        have hge : s ≤ ru t n 1 s := ru_ge s
        by_cases hl : ru t n 1 s - s = (wL w).length
        · rw [if_pos hl, show (some (Value.int 0) : Option Value) = some (.int (nI 0)) from rfl, ih_40 hR2 hw rfl (by omega) _ _ 0 rfl]
          congr 4
          refine ifc ?_
          rw [ow_iff hw hs hk he]
          exact ⟨fun q => ⟨by omega, fun i hi => q i hi (by omega)⟩, fun q j h2 _ => q.2 j h2⟩
        · rw [if_neg hl, if_neg (fun q => by have := ((ow_iff hw hs hk he).mp q).1; omega)]
    · rw [if_neg hk, if_pos rfl, if_neg (fun q => hk (owT_lt (by rw [q]; exact hw)).2.1)]
  · rw [if_neg hs, q_X12_isLetter, if_pos (by decide)]
    simp -implicitDefEqProofs only [tg_sI, ln_sI, tg_sL, ln_sL, tg_sR, ln_sR, tg_sC, ln_sC, ai_sI, ai_sL, gL_sI, gR_sI, gI_sL, gR_sL, gI_sR, gL_sR, gI_sI, gL_sL, gR_sR, zlt_e, zln_e, zli_e, zll_e, zbI_e, zbL_e, zbR_e, zbV_e, zeR_e, zeN_s, zeN_n, Nat.reduceEqDiff, and_self, and_true, true_and, and_false, false_and, ite_true, ite_false, reduceIte]
    rw [if_neg (fun q => hs (owT_lt (by rw [q]; exact hw)).1)]
theorem r_isHereD {w : Nat} {f p : Nat} (h : RS σ t n (.inr (f, p))) : zM 195 [.ref 176, .ref (178 + w)] σ = some (some (.int 0), σ) := by
  have hS := h.1.1
  have h5 := h.2.2.1
  have ho := h.2.1
  rw [q_X12_isHere]
  simp -implicitDefEqProofs only [tg_sI, ln_sI, tg_sL, ln_sL, tg_sR, ln_sR, tg_sC, ln_sC, ai_sI, ai_sL, gL_sI, gR_sI, gI_sL, gR_sL, gI_sR, gL_sR, gI_sI, gL_sL, gR_sR, zlt_e, zln_e, zli_e, zll_e, zbI_e, zbL_e, zbR_e, zbV_e, zeR_e, zeN_s, zeN_n, Nat.reduceEqDiff, and_self, and_true, true_and, and_false, false_and, ite_true, ite_false, reduceIte, tg_176 hS, h5]
  rw [if_neg (nI_ne0 ho.1 (by have := ho.2.1; omega))]
/-- a word here or not: the state stays -/
theorem r_here {w : Nat} (hw : w < 35) (h : RS σ t n st) : ∃ σ', zM 195 [.ref 176, .ref (178 + w)] σ = some (some (.int (if lw t n st = w then 1 else 0)), σ') ∧ RS σ' t n st := by
  match st, h with
  | .inl (s, e), h => exact ⟨_, r_isHere hw h, RS_look h⟩
  | .inr (f, p), h =>
    refine ⟨σ, ?_, h⟩
    rw [r_isHereD h, show lw t n (.inr (f, p)) = 35 from rfl, if_neg (by omega)]
end
