/-! alike: both answer alike -/
theorem lp_find {F : Nat → zO} {A : zO} (p : Nat → Prop) (N : Nat) (h1 : ∀ i, i < N → p i → F i = A) (h0 : ∀ i, i < N → ¬ p i → F i = F (i + 1)) : ((∃ i, i < N ∧ p i) → F 0 = A) ∧ ((¬ ∃ i, i < N ∧ p i) → F 0 = F N) := by
  constructor
  · have : ∀ d i, i + d = N → (∃ j, i ≤ j ∧ j < N ∧ p j) → F i = A := by
      intro d
      induction d with
      | zero => rintro i hi ⟨j, a, b, _⟩; omega
      | succ d ih =>
        rintro i hi ⟨j, a, b, hp⟩
        by_cases q : p i
        · exact h1 i (by omega) q
        · rw [h0 i (by omega) q]
          exact ih (i + 1) (by omega) ⟨j, by
            rcases Nat.lt_or_ge i j with z | z
            · omega
            · have : j = i := by omega
              rw [this] at hp
              exact absurd hp q, b, hp⟩
    rintro ⟨i, a, b⟩
    exact this N 0 (by omega) ⟨i, by omega, a, b⟩
  · intro hn
    exact lp_seq N (fun i hi => h0 i hi (fun q => hn ⟨i, hi, q⟩))
section
variable {σ σ' σ1 σ2 α α' β β' : zS} {X : Nat → Nat → Prop} {u : Option Value} {B P S N M K np c k n m i so p q l s z mC mR : Nat} {aC aR : List Value} {t : Nat → Nat} {st : lx}
theorem r_alike (hS : Sh σ) (hp : p < 20) (hq : q < 20) : ((∃ j, j < 160 ∧ ¬ gI σ 242 (160 * p + j) ≤ 0 ∧ ¬ gI σ 242 (160 * q + j) ≤ 0) → zM 301 [.ref 176, .int (nI p), .int (nI q)] σ = some (some (.int 1), σ)) ∧ ((¬ ∃ j, j < 160 ∧ ¬ gI σ 242 (160 * p + j) ≤ 0 ∧ ¬ gI σ 242 (160 * q + j) ≤ 0) → zM 301 [.ref 176, .int (nI p), .int (nI q)] σ = some (some (.int 0), σ)) := by
  have st : ∀ i, i < 160 → zR 1 301 2 [some (.ref 176), some (.int (nI p)), some (.int (nI q)), some (.int (nI i))] [] σ = if gI σ 242 (160 * p + i) ≤ 0 then zR 1 301 2 [some (.ref 176), some (.int (nI p)), some (.int (nI q)), some (.int (nI (i + 1)))] [] σ else if gI σ 242 (160 * q + i) ≤ 0 then zR 1 301 2 [some (.ref 176), some (.int (nI p)), some (.int (nI q)), some (.int (nI (i + 1)))] [] σ else some (some (.int 1), σ) := fun i hi => by
    rw [q_X12_areAlike_2, if_neg (show ¬ (160 : Int32) ≤ nI i from nI_ge (b := 160) hi (by omega))]
    simp -implicitDefEqProofs only [tg_sI, ln_sI, tg_sL, ln_sL, tg_sR, ln_sR, tg_sC, ln_sC, ai_sI, ai_sL, gL_sI, gR_sI, gI_sL, gR_sL, gI_sR, gL_sR, gI_sI, gL_sL, gR_sR, zlt_e, zln_e, zli_e, zll_e, zbI_e, zbL_e, zbR_e, zbV_e, zeR_e, zeN_s, zeN_n, Nat.reduceEqDiff, and_self, and_true, true_and, and_false, false_and, ite_true, ite_false, reduceIte, tg_176 hS, gR_176_81 hS]
    rw [nI_mulL 160 p, nI_mulL 160 q, nI_add, nI_add, if_pos (ai_nI (.inl (tg_242 hS)) (ln_242 hS) (show 160 * p + i < 3200 by omega) (by omega)), if_pos (ai_nI (.inl (tg_242 hS)) (ln_242 hS) (show 160 * q + i < 3200 by omega) (by omega)), ixn (show 160 * p + i < 2 ^ 31 by omega), ixn (show 160 * q + i < 2 ^ 31 by omega), nI_1]
  obtain ⟨a, b⟩ := lp_find (F := fun i => zR 1 301 2 [some (.ref 176), some (.int (nI p)), some (.int (nI q)), some (.int (nI i))] [] σ) (A := some (some (.int 1), σ)) (fun j => ¬ gI σ 242 (160 * p + j) ≤ 0 ∧ ¬ gI σ 242 (160 * q + j) ≤ 0) 160 (fun i hi h => by
    show zR 1 301 2 _ _ _ = _
    rw [st i hi, if_neg h.1, if_neg h.2]) (fun i hi h => by
    show zR 1 301 2 _ _ _ = zR 1 301 2 _ _ _
    rw [st i hi]
    by_cases x : gI σ 242 (160 * p + i) ≤ 0
    · rw [if_pos x]
    · rw [if_neg x, if_pos (by
        by_cases y : gI σ 242 (160 * q + i) ≤ 0
        · exact y
        · exact absurd ⟨x, y⟩ h)])
  constructor
  · intro h
    rw [q_X12_areAlike]; exact a h
  · intro h
    rw [q_X12_areAlike]
    refine Eq.trans (b h) ?_
    show zR 1 301 2 [some (.ref 176), some (.int (nI p)), some (.int (nI q)), some (.int (nI 160))] [] σ = _
    rw [q_X12_areAlike_2, if_pos (show (160 : Int32) ≤ nI 160 by decide)]
def hks (σ : zS) (p l s : Nat) : Prop := (30 ≤ s ∧ s ≤ 49) ∧ hk σ p l (s - 30)
theorem c_alike {z' : Nat} (hS : Sh σ) (hp : p < 20) (hq : q < 20) (hz : z ≤ 49 ∧ 30 ≤ z) (hz' : z' ≤ 49 ∧ 30 ≤ z') (h1 : gI σ (116 + 3 * p) 1 = nI z) (h1' : gI σ (116 + 3 * q) 1 = nI z') (hK : PK σ p z) (hK' : PK σ q z') : ((∃ l, l < 8 ∧ ∃ d, d < 5 ∧ hks σ p l (z - 2 + d) ∧ hks σ q l (z - 2 + d)) → zM 40 [.ref (116 + 3 * p), .ref (116 + 3 * q)] σ = some (some (.int 1), σ)) ∧ ((¬ ∃ l, l < 8 ∧ ∃ d, d < 5 ∧ hks σ p l (z - 2 + d) ∧ hks σ q l (z - 2 + d)) → zM 40 [.ref (116 + 3 * p), .ref (116 + 3 * q)] σ = some (some (.int 0), σ)) := by
  have nu : ∀ (l : Nat) (u : Option Value), zR 2 40 2 [some (.ref (116 + 3 * p)), some (.ref (116 + 3 * q)), some (.int (nI l)), u] [] σ = zR 2 40 2 [some (.ref (116 + 3 * p)), some (.ref (116 + 3 * q)), some (.int (nI l)), none] [] σ := fun l u => by
    rw [q_X4_isAlike_2, q_X4_isAlike_2]
  have inner : ∀ l, l < 8 → ((∃ d, d < 5 ∧ hks σ p l (z - 2 + d) ∧ hks σ q l (z - 2 + d)) → zR 2 40 10 [some (.ref (116 + 3 * p)), some (.ref (116 + 3 * q)), some (.int (nI l)), some (.int (nI (z - 2 + 0)))] [] σ = some (some (.int 1), σ)) ∧ ((¬ ∃ d, d < 5 ∧ hks σ p l (z - 2 + d) ∧ hks σ q l (z - 2 + d)) → zR 2 40 10 [some (.ref (116 + 3 * p)), some (.ref (116 + 3 * q)), some (.int (nI l)), some (.int (nI (z - 2 + 0)))] [] σ = zR 2 40 10 [some (.ref (116 + 3 * p)), some (.ref (116 + 3 * q)), some (.int (nI l)), some (.int (nI (z - 2 + 5)))] [] σ) := fun l hl => by
    have st : ∀ d, d < 5 → zR 2 40 10 [some (.ref (116 + 3 * p)), some (.ref (116 + 3 * q)), some (.int (nI l)), some (.int (nI (z - 2 + d)))] [] σ = zbI (some (some (.int (if (30 ≤ z - 2 + d ∧ z - 2 + d ≤ 49) ∧ hk σ p l (z - 2 + d - 30) then 1 else 0)), σ)) (fun x1 σ1 => if x1 = 0 then (zR 2 40 10 [some (.ref (116 + 3 * p)), some (.ref (116 + 3 * q)), some (.int (nI l)), some (.int (nI (z - 2 + d) + 1))] [] σ1) else (if tg σ1 (116 + 3 * q) = 5 then zbI (zM 39 [.ref (116 + 3 * q), .int (nI l), .int (nI (z - 2 + d))] σ1) (fun x2 σ2 => if x2 = 0 then (zR 2 40 10 [some (.ref (116 + 3 * p)), some (.ref (116 + 3 * q)), some (.int (nI l)), some (.int (nI (z - 2 + d) + 1))] [] σ2) else (some (some (.int 1), σ2))) else none)) := fun d hd => by
      rw [q_X4_isAlike_10, tg_person hS hp, if_pos rfl, h1, nI_addR 2 z, if_neg (Int32.not_lt.mpr (nI_le (by omega) (by omega))), if_pos rfl, c_kept hS hp hl hz h1 hK (by omega)]
    have st2 : ∀ d, d < 5 → zR 2 40 10 [some (.ref (116 + 3 * p)), some (.ref (116 + 3 * q)), some (.int (nI l)), some (.int (nI (z - 2 + d)))] [] σ = if (30 ≤ z - 2 + d ∧ z - 2 + d ≤ 49) ∧ hk σ p l (z - 2 + d - 30) then (if (30 ≤ z - 2 + d ∧ z - 2 + d ≤ 49) ∧ hk σ q l (z - 2 + d - 30) then some (some (.int 1), σ) else zR 2 40 10 [some (.ref (116 + 3 * p)), some (.ref (116 + 3 * q)), some (.int (nI l)), some (.int (nI (z - 2 + (d + 1))))] [] σ) else zR 2 40 10 [some (.ref (116 + 3 * p)), some (.ref (116 + 3 * q)), some (.int (nI l)), some (.int (nI (z - 2 + (d + 1))))] [] σ := fun d hd => by
      rw [st d hd, zbI_e, nI_1]
      by_cases x : (30 ≤ z - 2 + d ∧ z - 2 + d ≤ 49) ∧ hk σ p l (z - 2 + d - 30)
      · rw [if_pos x, if_neg (by decide), if_pos x, tg_person hS hq, if_pos rfl, c_kept hS hq hl hz' h1' hK' (by omega), zbI_e]
        by_cases y : (30 ≤ z - 2 + d ∧ z - 2 + d ≤ 49) ∧ hk σ q l (z - 2 + d - 30)
        · rw [if_pos y, if_neg (by decide), if_pos y]
        · rw [if_neg y, if_pos rfl, if_neg y]; rfl
      · rw [if_neg x, if_pos rfl, if_neg x]; rfl
    exact lp_find (F := fun d => zR 2 40 10 [some (.ref (116 + 3 * p)), some (.ref (116 + 3 * q)), some (.int (nI l)), some (.int (nI (z - 2 + d)))] [] σ) (fun d => hks σ p l (z - 2 + d) ∧ hks σ q l (z - 2 + d)) 5 (fun d hd h => by
      show zR 2 40 10 _ _ _ = _
      have x : (30 ≤ z - 2 + d ∧ z - 2 + d ≤ 49) ∧ hk σ p l (z - 2 + d - 30) := h.1
      have y : (30 ≤ z - 2 + d ∧ z - 2 + d ≤ 49) ∧ hk σ q l (z - 2 + d - 30) := h.2
      rw [st2 d hd, if_pos x, if_pos y]) (fun d hd h => by
      show zR 2 40 10 _ _ _ = zR 2 40 10 _ _ _
      rw [st2 d hd]
      by_cases x : (30 ≤ z - 2 + d ∧ z - 2 + d ≤ 49) ∧ hk σ p l (z - 2 + d - 30)
      · have y : ¬ ((30 ≤ z - 2 + d ∧ z - 2 + d ≤ 49) ∧ hk σ q l (z - 2 + d - 30)) := fun y => h ⟨x, y⟩
        rw [if_pos x, if_neg y]
      · rw [if_neg x])
  have e1 : ∀ l, l < 8 → zR 2 40 2 [some (.ref (116 + 3 * p)), some (.ref (116 + 3 * q)), some (.int (nI l)), none] [] σ = zR 2 40 10 [some (.ref (116 + 3 * p)), some (.ref (116 + 3 * q)), some (.int (nI l)), some (.int (nI (z - 2 + 0)))] [] σ := fun l hl => by
    rw [q_X4_isAlike_2, if_neg (show ¬ (8 : Int32) ≤ nI l from nI_ge (b := 8) hl (by omega)), tg_person hS hp, if_pos rfl, h1, nI_subR (n := 2) (by omega)]
    rfl
  obtain ⟨a, b⟩ := lp_find (F := fun l => zR 2 40 2 [some (.ref (116 + 3 * p)), some (.ref (116 + 3 * q)), some (.int (nI l)), none] [] σ) (A := some (some (.int 1), σ)) (fun l => ∃ d, d < 5 ∧ hks σ p l (z - 2 + d) ∧ hks σ q l (z - 2 + d)) 8 (fun l hl h => by
    show zR 2 40 2 _ _ _ = _
    rw [e1 l hl]; exact (inner l hl).1 h) (fun l hl h => by
    show zR 2 40 2 _ _ _ = zR 2 40 2 _ _ _
    rw [e1 l hl, (inner l hl).2 h, q_X4_isAlike_10, tg_person hS hp, if_pos rfl, h1, nI_addR 2 z, if_pos (nI_lt (by omega) (by omega)), nI_1, nu])
  constructor
  · intro h
    rw [q_X4_isAlike]; exact a h
  · intro h
    rw [q_X4_isAlike]
    refine Eq.trans (b h) ?_
    show zR 2 40 2 [some (.ref (116 + 3 * p)), some (.ref (116 + 3 * q)), some (.int (nI 8)), none] [] σ = _
    rw [q_X4_isAlike_2, if_pos (show (8 : Int32) ≤ nI 8 by decide)]
end
