/-! the class's tokens -/
def ownW : List (List Nat) := [[108, 97, 115, 116], [112, 114, 105, 99, 101], [114, 117, 110, 115], [115, 111, 114, 116], [111, 102, 102], [119, 101, 97, 114], [103, 114, 111, 119], [108, 101, 97, 118, 101], [107, 101, 101, 112, 115], [102, 97, 114, 101], [119, 105, 112, 101], [102, 101, 101], [115, 116, 111, 99, 107], [97, 115, 107], [115, 101, 110, 100], [100, 111, 119, 110], [98, 101, 108, 111, 119], [115, 97, 109, 101], [97, 98, 111, 118, 101], [117, 112], [119, 104, 101, 110], [111, 114], [97, 110, 100], [110, 111, 116], [97, 108, 108], [107, 105, 110, 100], [116, 114, 105, 101, 100], [108, 101, 115, 115], [109, 111, 114, 101], [115, 109, 97, 108, 108], [108, 97, 114, 103, 101], [99, 111, 115, 116], [99, 104, 97, 114, 103, 101], [109, 105, 110], [109, 97, 120]]
def plc (i : Nat) : Nat := ([14348907, 531441, 19683, 729, 27, 1] : List Nat).getD i 0
/-- the padded number of a word's letters -/
def pvL (w : List Nat) : Nat := (w.getD 0 96 - 96) * 14348907 + (w.getD 1 96 - 96) * 531441 + (w.getD 2 96 - 96) * 19683 + (w.getD 3 96 - 96) * 729 + (w.getD 4 96 - 96) * 27 + (w.getD 5 96 - 96)
def ownL : List Nat := ownW.map pvL
def owN (v : Nat) : Nat := ownL.findIdx (fun q => q == v)
def owI (v : Nat) : Int32 := if owN v < 35 then nI (owN v) else -1
def dg (t : Nat → Nat) (s m i : Nat) : Nat := if s + i < m then t (s + i) - 96 else 0
def pw (t : Nat → Nat) (s m : Nat) : Nat → Nat
  | 0 => 0
  | i + 1 => pw t s m i + dg t s m i * plc i
/-- a word from s to m as one number -/
def wv (t : Nat → Nat) (s m : Nat) : Nat := pw t s m 6
def nvp (t : Nat → Nat) (s : Nat) : Nat → Nat
  | 0 => 0
  | i + 1 => 10 * nvp t s i + (t (s + i) - 48)
/-- up to four digits from s to m -/
def nv (t : Nat → Nat) (s m : Nat) : Nat := nvp t s (min 4 (m - s))
/-- the text t of n bytes lies before the class's tokens -/
def TC (σ : zS) (t : Nat → Nat) (n : Nat) : Prop := Sh σ ∧ n ≤ 1600 ∧ (∀ j, t j < 256) ∧ (∀ j, gI σ 7 j = sb (t j)) ∧ gR σ 8 1 = some 7 ∧ gI σ 8 2 = nI n ∧ (∀ i, i < 35 → gI σ 9 i = nI (ownL.getD i 0))
/-- the token at s, glued to the one ahead of it where g -/
def TD (σ : zS) (t : Nat → Nat) (n s : Nat) (g : Prop) : Prop := gI σ 8 5 = nI s ∧
  (n ≤ s → gI σ 8 4 = 0 ∧ gI σ 8 3 = nI s) ∧
  (s < n → kO (t s) = 3 → gI σ 8 4 = 3 ∧ gI σ 8 6 = nI (t s) ∧ gI σ 8 3 = nI (s + 1)) ∧
  (s < n → kO (t s) = 1 → (g → gI σ 8 4 = 4) ∧ (¬ g → gI σ 8 4 = 1) ∧ gI σ 8 6 = nI (wv t s (ru t n 1 s)) ∧ gI σ 8 3 = nI (ru t n 1 s) ∧ gI σ 8 7 = if ru t n 1 s ≤ s + 6 then owI (wv t s (ru t n 1 s)) else -1) ∧
  (s < n → kO (t s) = 2 → (g → gI σ 8 4 = 4) ∧ (¬ g → gI σ 8 4 = 2) ∧ gI σ 8 6 = nI (nv t s (ru t n 2 s)) ∧ gI σ 8 3 = nI (ru t n 2 s))
section
variable {σ : zS} {t : Nat → Nat} {n : Nat}
theorem TC.sI {r j : Nat} {v : Int32} (h : TC σ t n) (h1 : r ≠ 1) (h7 : r ≠ 7) (h9 : r ≠ 9) (h2 : ¬ (r = 8 ∧ j = 2)) : TC (sI σ r j v) t n := by
  obtain ⟨a, b, c, d, e, f, g⟩ := h
  refine ⟨a.sI h1, b, c, fun i => ?_, e, ?_, fun i hi => ?_⟩
  · rw [gI_sI, if_neg (by omega)]; exact d i
  · rw [gI_sI, if_neg (by omega)]; exact f
  · rw [gI_sI, if_neg (by omega)]; exact g i hi
theorem TC.tok {j : Nat} {v : Int32} (h : TC σ t n) (hj : j ≠ 2) : TC (Jvm.Pilot.@@N@@.sI σ 8 j v) t n := h.sI (by decide) (by decide) (by decide) (by omega)
theorem pw_rest {s m i : Nat} (h : m ≤ s + i) : ∀ j, pw t s m (i + j) = pw t s m i
  | 0 => rfl
  | j + 1 => by
    show pw t s m (i + j) + dg t s m (i + j) * plc (i + j) = _
    rw [pw_rest h j]
    unfold dg
    rw [if_neg (by omega)]
    omega
theorem kO1 {c : Nat} (h : kO c = 1) : 97 ≤ c ∧ c ≤ 122 := by
  unfold kO at h
  repeat' split at h
  all_goals first | assumption | omega
theorem kO2 {c : Nat} (h : kO c = 2) : 48 ≤ c ∧ c ≤ 57 := by
  unfold kO at h
  repeat' split at h
  all_goals first | assumption | omega
/-- the loop over a word's letters -/
theorem rw_loop {s m : Nat} (hT : TC σ t n) (hs : gI σ 8 5 = nI s) (hm : gI σ 8 3 = nI m) (hmn : m ≤ n) (hl : ∀ j, s ≤ j → j < m → kO (t j) = 1) : ∀ d i, d + i = 6 → zR 1 99 5 [some (.ref 8), some (.int (nI i))] [] (sI σ 8 6 (nI (pw t s m i))) = zR 1 99 39 [some (.ref 8), some (.int 0)] [] (sI σ 8 6 (nI (wv t s m))) := by
  intro d
  induction d with
  | zero =>
    intro i hi
    have : i = 6 := by omega
    subst this
    rw [q_X10_readWord_5, if_pos (by decide)]
    rfl
  | succ d ih =>
    intro i hi
    obtain ⟨hS, hn, hc, htx, h81, h82, h9⟩ := hT
    have hi6 : i < 6 := by omega
    rw [q_X10_readWord_5, if_neg (by rw [show (6 : Int32) = nI 6 from rfl, nI_leI (by omega) (by omega)]; omega)]
    simp only [tg_sI, tg_8 hS, if_true, gI_sI, hs, hm, gR_sI, h81, zeR_e, ai_sI, nI_add]
    simp only [show ¬ ((8 = 8 ∧ 5 = 6)) by decide, show ¬ ((8 = 8 ∧ 3 = 6)) by decide, if_false, show ¬ ((1 : Nat) = 8) by decide, false_and, show (8 = 8 ∧ 6 = 6) by decide, if_true, show ¬ ((7 : Nat) = 8) by decide]
    sorry
end
