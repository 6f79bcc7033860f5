/-! how the machine's heap holds the clean machine's memories -/
def zmv (ρ : Nat → Nat) (v : Value) : Value := match v with
  | .ref k => .ref (ρ k)
  | v => v
theorem zmv_cat (ρ : Nat → Nat) (v : Value) : (zmv ρ v).category = zcat v := by cases v <;> rfl
theorem zmv_cats (ρ : Nat → Nat) (l : List Value) : ((l.map (zmv ρ)).map fun v => v.category).sum = zcats l := by
  induction l with
  | nil => rfl
  | cons v l ih =>
    simp only [List.map_cons, List.sum_cons, zcats, zmv_cat]
    rw [← ih]
/-! locals -/
theorem zld_iff {cl : List (Option Value)} {i : Nat} {v : Value} : zld cl i = some v ↔ cl[i]? = some (some v) := by
  unfold zld
  split
  · rename_i w h
    rw [h]
    simp
  · rename_i h
    constructor
    · intro q; cases q
    · intro q; exact absurd q (h v)
def zlv (ρ : Nat → Nat) (cl : List (Option Value)) : List (Nat × Value) := (List.range cl.length).filterMap (fun i => (zld cl i).map (fun v => (i, zmv ρ v)))
theorem zlv_mem {ρ : Nat → Nat} {cl : List (Option Value)} {i : Nat} {w : Value} : (i, w) ∈ zlv ρ cl ↔ ∃ v, zld cl i = some v ∧ w = zmv ρ v := by
  unfold zlv
  rw [List.mem_filterMap]
  constructor
  · rintro ⟨j, -, h⟩
    cases hz : zld cl j with
    | none => rw [hz] at h; cases h
    | some v =>
      rw [hz] at h
      cases h
      exact ⟨v, hz, rfl⟩
  · rintro ⟨v, hz, rfl⟩
    refine ⟨i, ?_, by rw [hz]; rfl⟩
    rw [List.mem_range]
    exact (List.getElem?_eq_some_iff.mp (zld_iff.mp hz)).1
theorem zlv_at {ρ : Nat → Nat} {cl : List (Option Value)} {ls : Array Slot} {n i : Nat} {v : Value} (h : lv_has ls n (zlv ρ cl)) (hz : zld cl i = some v) : ls[i]? = some (.val (zmv ρ v)) := h.2.2 (i, zmv ρ v) (zlv_mem.mpr ⟨v, hz, rfl⟩)
theorem zun_ld {cl : List (Option Value)} {i j : Nat} {u : Value} (h : zld (zun cl i) j = some u) : zld cl j = some u ∧ ¬ (j + 1 = i ∧ zcat u = 2) := by
  cases i with
  | zero => exact ⟨h, fun q => by omega⟩
  | succ i =>
    unfold zun at h
    dsimp only at h
    cases hw : zld cl i with
    | none =>
      rw [hw] at h
      refine ⟨h, fun q => ?_⟩
      have : j = i := by omega
      subst this
      dsimp only at h
      rw [hw] at h
      cases h
    | some w =>
      rw [hw] at h
      dsimp only at h
      cases hb : Nat.beq (zcat w) 2
      · rw [hb] at h
        refine ⟨h, fun q => ?_⟩
        have hj : j = i := by omega
        subst hj
        have hh : zld cl j = some u := h
        rw [hw] at hh
        cases hh
        rw [q.2] at hb
        cases hb
      · rw [hb] at h
        have h1 : (cl.set i none)[j]? = some (some u) := zld_iff.mp h
        rw [List.getElem?_set] at h1
        split at h1
        · split at h1 <;> cases h1
        · rename_i hne
          exact ⟨zld_iff.mpr h1, fun q => hne (by omega)⟩
theorem zst1_ld {cl : List (Option Value)} {i j : Nat} {u v : Value} (h : zld (zst1 cl i v) j = some u) : (j = i ∧ u = v) ∨ (j ≠ i ∧ zld cl j = some u ∧ ¬ (j + 1 = i ∧ zcat u = 2)) := by
  have h1 : ((zun cl i).set i (some v))[j]? = some (some u) := zld_iff.mp h
  rw [List.getElem?_set] at h1
  split at h1
  · rename_i he
    split at h1
    · cases h1; exact Or.inl ⟨he.symm, rfl⟩
    · cases h1
  · rename_i hne
    obtain ⟨g1, g2⟩ := zun_ld (zld_iff.mpr h1)
    exact Or.inr ⟨fun q => hne q.symm, g1, g2⟩
theorem zst2_ld {cl : List (Option Value)} {i j : Nat} {u v : Value} (h : zld (zst2 cl i v) j = some u) : (j = i ∧ u = v) ∨ (j ≠ i ∧ j ≠ i + 1 ∧ zld cl j = some u ∧ ¬ (j + 1 = i ∧ zcat u = 2)) := by
  have h1 : ((zst1 cl i v).set (i + 1) none)[j]? = some (some u) := zld_iff.mp h
  rw [List.getElem?_set] at h1
  split at h1
  · split at h1 <;> cases h1
  · rename_i hne
    rcases zst1_ld (zld_iff.mpr h1) with g | ⟨g1, g2, g3⟩
    · exact Or.inl g
    · exact Or.inr ⟨g1, fun q => hne q.symm, g2, g3⟩
theorem zlv_st1 {ρ : Nat → Nat} {cl : List (Option Value)} {ls : Array Slot} {n i : Nat} {v : Value} (h : lv_has ls n ((i, zmv ρ v) :: (zlv ρ cl).filter (fun q => !(q.1 == i) && !(q.1 + 1 == i && q.2.category == 2)))) : lv_has ls n (zlv ρ (zst1 cl i v)) := by
  refine ⟨h.1, h.2.1, fun q hq => h.2.2 q ?_⟩
  obtain ⟨j, w⟩ := q
  obtain ⟨u, hu, rfl⟩ := zlv_mem.mp hq
  rcases zst1_ld hu with ⟨rfl, rfl⟩ | ⟨g1, g2, g3⟩
  · exact List.mem_cons_self
  · refine List.mem_cons_of_mem _ (List.mem_filter.mpr ⟨zlv_mem.mpr ⟨u, g2, rfl⟩, ?_⟩)
    dsimp only
    rw [zmv_cat]
    have e1 : (j == i) = false := by simp [g1]
    rw [e1]
    cases hc : (j + 1 == i && zcat u == 2)
    · rfl
    · simp at hc
      exact absurd hc g3
theorem zlv_st2 {ρ : Nat → Nat} {cl : List (Option Value)} {ls : Array Slot} {n i : Nat} {v : Value} (h : lv_has ls n ((i, zmv ρ v) :: (zlv ρ cl).filter (fun q => !(q.1 == i) && (!(q.1 == i + 1) && !(q.1 + 1 == i && q.2.category == 2))))) : lv_has ls n (zlv ρ (zst2 cl i v)) := by
  refine ⟨h.1, h.2.1, fun q hq => h.2.2 q ?_⟩
  obtain ⟨j, w⟩ := q
  obtain ⟨u, hu, rfl⟩ := zlv_mem.mp hq
  rcases zst2_ld hu with ⟨rfl, rfl⟩ | ⟨g1, g1', g2, g3⟩
  · exact List.mem_cons_self
  · refine List.mem_cons_of_mem _ (List.mem_filter.mpr ⟨zlv_mem.mpr ⟨u, g2, rfl⟩, ?_⟩)
    dsimp only
    rw [zmv_cat]
    have e1 : (j == i) = false := by simp [g1]
    have e2 : (j == i + 1) = false := by simp [g1']
    rw [e1, e2]
    cases hc : (j + 1 == i && zcat u == 2)
    · rfl
    · simp at hc
      exact absurd hc g3
theorem zargs_in {ρ : Nat → Nat} : ∀ (args : List Value) (k i : Nat) (v : Value), zld (zargs args) i = some v → (k + i, zmv ρ v) ∈ lv_args k (args.map (zmv ρ)) := by
  intro args
  induction args with
  | nil => intro k i v h; have := zld_iff.mp h; simp [zargs] at this
  | cons a l ih =>
    intro k i v h
    have h1 := zld_iff.mp h
    unfold zargs at h1
    show _ ∈ (k, zmv ρ a) :: lv_args (if (zmv ρ a).category = 2 then k + 2 else k + 1) (l.map (zmv ρ))
    rw [zmv_cat]
    cases hb : Nat.beq (zcat a) 2
    · rw [hb] at h1
      have hne : ¬ zcat a = 2 := fun q => by rw [q] at hb; cases hb
      rw [if_neg hne]
      cases i with
      | zero => simp at h1; subst h1; exact List.mem_cons_self
      | succ i =>
        simp at h1
        have := ih (k + 1) i v (zld_iff.mpr h1)
        rw [show k + 1 + i = k + (i + 1) by omega] at this
        exact List.mem_cons_of_mem _ this
    · rw [hb] at h1
      have he : zcat a = 2 := Nat.eq_of_beq_eq_true hb
      rw [if_pos he]
      match i, h1 with
      | 0, h1 => simp at h1; subst h1; exact List.mem_cons_self
      | 1, h1 => simp at h1
      | i + 2, h1 =>
        simp at h1
        have := ih (k + 2) i v (zld_iff.mpr h1)
        rw [show k + 2 + i = k + (i + 2) by omega] at this
        exact List.mem_cons_of_mem _ this
theorem zargs_len (ρ : Nat → Nat) (args : List Value) : (lg_sl (args.map (zmv ρ))).length = (zargs args).length := by
  induction args with
  | nil => rfl
  | cons a l ih =>
    have e : lg_sl ((a :: l).map (zmv ρ)) = (if (zmv ρ a).category = 2 then [Slot.val (zmv ρ a), .second] else [.val (zmv ρ a)]) ++ lg_sl (l.map (zmv ρ)) := by simp [lg_sl]
    rw [e, List.length_append, ih, zmv_cat]
    show _ = (bif Nat.beq (zcat a) 2 then some a :: none :: zargs l else some a :: zargs l).length
    cases hb : Nat.beq (zcat a) 2
    · have hne : ¬ zcat a = 2 := fun q => by rw [q] at hb; cases hb
      rw [if_neg hne]
      show 1 + _ = (zargs l).length + 1
      omega
    · rw [if_pos (Nat.eq_of_beq_eq_true hb)]
      show 2 + _ = (zargs l).length + 1 + 1
      omega
/-- the locals as a method begins -/
theorem zlv_entry (ρ : Nat → Nat) (args : List Value) {n : Nat} (h : (zargs args).length ≤ n) : lv_has ((lg_sl (args.map (zmv ρ)) ++ List.replicate (n - (lg_sl (args.map (zmv ρ))).length) Slot.unset).toArray) n (zlv ρ (zpad n (zargs args))) := by
  have h0 := lv_entry (args.map (zmv ρ)) (n := n) (by rw [zargs_len]; exact h)
  refine ⟨h0.1, h0.2.1, fun q hq => h0.2.2 q ?_⟩
  obtain ⟨j, w⟩ := q
  obtain ⟨u, hu, rfl⟩ := zlv_mem.mp hq
  have h1 := zld_iff.mp hu
  unfold zpad at h1
  have : (zargs args)[j]? = some (some u) := by
    rw [List.getElem?_append] at h1
    split at h1
    · exact h1
    · rw [List.getElem?_replicate] at h1
      split at h1 <;> cases h1
  have := zargs_in (ρ := ρ) args 0 j u (zld_iff.mpr this)
  rwa [Nat.zero_add] at this
/-! the world -/
def zty (t : Nat) : FieldType := match t with
  | 32 => .int
  | 33 => .byte
  | 34 => .char
  | 35 => .boolean
  | 36 => .long
  | 48 => .int
  | 49 => .byte
  | 68 => .object RX3
  | 73 => .object RX8
  | 70 => .object RX5
  | 69 => .object RX4
  | _ => .array .int
/-- the tags of arrays that may be written -/
def zwt : List Nat := [32, 33, 34, 35, 36, 68, 73, 70, 69, 80]
def ztys (dA : Nat → ClassId) : List (ClassId × FieldType) := zwt.map (fun t => (dA t, zty t))
def zPl : List Int32 := [14348907, 531441, 19683, 729, 27, 1]
def zfv (ρ : Nat → Nat) (σ : zS) (t r j : Nat) : Value := match zfk (zFd t j).2.2 with
  | 0 => .int (gI σ r j)
  | 1 => .long (gL σ r j)
  | _ => va_rf ((gR σ r j).map ρ)
def zel (ρ : Nat → Nat) (σ : zS) (t r j : Nat) : Value := bif Nat.beq t 36 then .long (gL σ r j) else bif Nat.ble 64 t then va_rf ((gR σ r j).map ρ) else .int (gI σ r j)
def zCel (ρ : Nat → Nat) (dC : Nat → ClassId) (dI : Nat → Nat → Nat) (dA : Nat → ClassId) (σ : zS) (H : Heap) (k t n : Nat) : Prop :=
  (1 ≤ t ∧ t ≤ 13 ∧ t_OB (ρ k) (dC (t - 1)) (zNf t) (dI (t - 1)) H (fun j => zfv ρ σ t k j)) ∨ (t ∈ zwt ∧ H[ρ k]? = some (arrV (dA t) n (fun j => zel ρ σ t k j)))
def zTx : List Int32 := [108, 97, 115, 116, 32, 112, 114, 105, 99, 101, 32, 114, 117, 110, 115, 32, 115, 111, 114, 116, 32, 111, 102, 102, 32, 119, 101, 97, 114, 32, 103, 114, 111, 119, 32, 108, 101, 97, 118, 101, 32, 107, 101, 101, 112, 115, 32, 102, 97, 114, 101, 32, 119, 105, 112, 101, 32, 102, 101, 101, 32, 115, 116, 111, 99, 107, 32, 97, 115, 107, 32, 115, 101, 110, 100, 32, 100, 111, 119, 110, 32, 98, 101, 108, 111, 119, 32, 115, 97, 109, 101, 32, 97, 98, 111, 118, 101, 32, 117, 112, 32, 119, 104, 101, 110, 32, 111, 114, 32, 97, 110, 100, 32, 110, 111, 116, 32, 97, 108, 108, 32, 107, 105, 110, 100, 32, 116, 114, 105, 101, 100, 32, 108, 101, 115, 115, 32, 109, 111, 114, 101, 32, 115, 109, 97, 108, 108, 32, 108, 97, 114, 103, 101, 32, 99, 111, 115, 116, 32, 99, 104, 97, 114, 103, 101, 32, 109, 105, 110, 32, 109, 97, 120, 32]
def zTxS : String := "last price runs sort off wear grow leave keeps fare wipe fee stock ask send down below same above up when or and not all kind tried less more small large cost charge min max "
def zpre (L : Nat) : List (Nat × Nat) := [(48, L), (48, 6), (20, 2), (49, 174), (21, 1), (22, 0)]
/-- the cells that were there before -/
def zRo (L : Nat) (xs : Nat → Int32) (fo : Option Nat) (σ : zS) : Prop := (∃ K, σ.1 = zpre L ++ K) ∧ (∀ j, j < L → gI σ 0 j = xs j) ∧ (∀ j, j < 6 → gI σ 1 j = zPl.getD j 0) ∧ gR σ 2 0 = some 3 ∧ gI σ 2 1 = 0 ∧ (∀ j, j < 174 → gI σ 3 j = zTx.getD j 0) ∧ gR σ 4 0 = fo
def zRep (s0 : State) (ρ : Nat → Nat) (dC : Nat → ClassId) (dI : Nat → Nat → Nat) (dA : Nat → ClassId) (L : Nat) (xs : Nat → Int32) (fo : Option Nat) (σ : zS) (H : Heap) : Prop := H.size = s0.heap.size + (σ.1.length - 6) ∧ (∀ q, q < s0.heap.size → H[q]? = s0.heap[q]?) ∧ (∀ k t n, 6 ≤ k → σ.1[k]? = some (t, n) → zCel ρ dC dI dA σ H k t n) ∧ zRo L xs fo σ
def zA0 (s0 : State) : Nat → Prop := fun q => s0.heap.size ≤ q
def zG (s0 : State) (ρ : Nat → Nat) (dC : Nat → ClassId) (dI : Nat → Nat → Nat) (dA : Nat → ClassId) (L : Nat) (xs : Nat → Int32) (fo : Option Nat) : Prop := (∀ k, 6 ≤ k → ρ k = s0.heap.size + (k - 6)) ∧ va_K (dC, dI) vwCl (ztys dA) s0 ∧ va_X (ρ 0) L xs s0 s0.heap ∧ va_T .int (ρ 1) 6 (fun j => .int (zPl.getD j 0)) (zA0 s0) s0 s0.heap ∧ va_O "java/lang/String" (ρ 2) (zA0 s0) s0 s0.heap ∧ va_OF "java/lang/String" "value" "[B" (.ref (ρ 3)) (ρ 2) (zA0 s0) s0 s0.heap ∧ va_OF "java/lang/String" "coder" "B" (.int 0) (ρ 2) (zA0 s0) s0 s0.heap ∧ va_T .byte (ρ 3) 174 (fun j => .int (zTx.getD j 0)) (zA0 s0) s0 s0.heap ∧ va_Z "ThreeSizes$Tokens" "PLACES" "[I" (.ref (ρ 1)) (zA0 s0) s0 s0.heap ∧ va_Z "java/lang/String" "COMPACT_STRINGS" "Z" (.int 1) (zA0 s0) s0 s0.heap ∧ va_Z "jdk/internal/util/Preconditions" "SIOOBE_FORMATTER" "Ljava/util/function/BiFunction;" (va_rf (fo.map ρ)) (zA0 s0) s0 s0.heap ∧ (∃ kA kc : Class, s0.vm.classes[dA 80]? = some kA ∧ kA.kind = .array (dA 32) (.array .int) ∧ s0.vm.classes[dA 32]? = some kc) ∧ va_AO RX3 s0 ∧ va_AO RX8 s0 ∧ va_AO RX5 s0 ∧ va_AO RX4 s0 ∧ (Cond.arrayOver (.array .int)).before #[] s0 = true
def zU (s0 : State) (ρ : Nat → Nat) (s : State) : Prop := s0.vm.Alike s.vm ∧ vk_R "ThreeSizes$Tokens" 26 zTxS (ρ 2) s ∧ ∀ (o : String) (i : Nat) (y : MethodName) (h : String), Cond.methodLinkNest o i y h ∈ lw_tbl → va_Nw (.methodLinkNest o i y h) s
theorem zU.warm {s0 : State} {ρ : Nat → Nat} {s U : State} (h : zU s0 ρ s) (hW : s.WarmedH U.vm) : zU s0 ρ U := ⟨h.1.trans hW.alike, h.2.1.warm hW, fun o i y q hm => va_Nw.warmM hW (h.2.2 o i y q hm)⟩
section
variable {s0 : State} {ρ : Nat → Nat} {dC : Nat → ClassId} {dI : Nat → Nat → Nat} {dA : Nat → ClassId} {L : Nat} {xs : Nat → Int32} {fo : Option Nat} {σ σ' : zS} {H H' : Heap}
theorem zwt_big {t : Nat} (h : t ∈ zwt) : 32 ≤ t ∧ t ≠ 48 ∧ t ≠ 49 := by
  simp only [zwt, List.mem_cons, List.not_mem_nil, or_false] at h
  omega
theorem zRo_at (h : zRo L xs fo σ) {k : Nat} (hk : k < 6) : σ.1[k]? = (zpre L)[k]? := by
  obtain ⟨⟨K, hK⟩, -⟩ := h
  rw [hK, List.getElem?_append_left (by simpa [zpre] using hk)]
theorem zRep_len (h : zRep s0 ρ dC dI dA L xs fo σ H) : 6 ≤ σ.1.length := by
  obtain ⟨-, -, -, ⟨K, hK⟩, -⟩ := h
  rw [hK]
  simp [zpre]
theorem zel_w (t r j : Nat) (h : t = 48 ∨ t = 49) : zel ρ σ t r j = .int (gI σ r j) := by
  rcases h with rfl | rfl <;> rfl
/-- an array's cell, to be read -/
theorem z_arr {s : State} (hG : zG s0 ρ dC dI dA L xs fo) (hal : s0.vm.Alike s.vm) (hR : zRep s0 ρ dC dI dA L xs fo σ H) {r t n : Nat} (hk : kd σ r = some (t, n)) (ht : t ∈ zwt ∨ t = 48 ∨ t = 49) : ∃ cell : Cell, H[ρ r]? = some cell ∧ s.isArrayOf cell (zty t) ∧ cell.vm ≠ .unknown ∧ n ≤ cell.slots.size ∧ cell.slots.size.toInt32 = Int32.ofNat n ∧ ∀ j, j < n → cell.slots[j]? = some (zel ρ σ t r j) := by
  obtain ⟨g1, gK, gX, gT1, -, -, -, gT3, -⟩ := hG
  obtain ⟨r1, r2, r3, r4⟩ := hR
  unfold kd at hk
  by_cases hr : r < 6
  · rw [zRo_at r4 hr] at hk
    obtain ⟨-, o1, o2, -, -, o5, -⟩ := r4
    match r, hr, hk with
    | 0, _, hk =>
      cases hk
      obtain ⟨scr, h1, h2, h3, h4, h5⟩ := gX
      refine ⟨scr, ?_, State.isArrayOf_alike hal h2, h3, by omega, by rw [h4], fun j hj => ?_⟩
      · rw [r2 _ (Array.getElem?_eq_some_iff.mp h1).1]; exact h1
      · rw [h5 j hj, zel_w _ _ _ (Or.inl rfl), o1 j hj]
    | 1, _, hk =>
      cases hk
      obtain ⟨cell, h1, h2, h3, h4, h5, h6, -⟩ := gT1
      refine ⟨cell, ?_, State.isArrayOf_alike hal h2, h3, h4, h5, fun j hj => ?_⟩
      · rw [r2 _ (Array.getElem?_eq_some_iff.mp h1).1]; exact h1
      · rw [h6 j hj, zel_w _ _ _ (Or.inl rfl), o2 j hj]
    | 2, _, hk => cases hk; exact absurd ht (by decide)
    | 3, _, hk =>
      cases hk
      obtain ⟨cell, h1, h2, h3, h4, h5, h6, -⟩ := gT3
      refine ⟨cell, ?_, State.isArrayOf_alike hal h2, h3, h4, h5, fun j hj => ?_⟩
      · rw [r2 _ (Array.getElem?_eq_some_iff.mp h1).1]; exact h1
      · rw [h6 j hj, zel_w _ _ _ (Or.inr rfl), o5 j hj]
    | 4, _, hk => cases hk; exact absurd ht (by decide)
    | 5, _, hk => cases hk; exact absurd ht (by decide)
  · rcases r3 r t n (by omega) hk with ⟨h1, h2, -⟩ | ⟨h1, h2⟩
    · rcases ht with q | q | q
      · have := zwt_big q; omega
      · omega
      · omega
    · refine ⟨_, h2, ?_, fun q => (by cases q), ?_, ?_, fun j hj => ?_⟩
      · obtain ⟨p, hp⟩ := List.getElem?_of_mem h1
        have hp' : (ztys dA)[p]? = some (dA t, zty t) := by simp [ztys, hp]
        exact (((va_K.moved hal gK).2 p _ hp').1) n _
      · rw [arrV_size]; exact Nat.le_refl _
      · rw [arrV_size]
      · exact arrV_read _ _ hj
theorem ai_iff {t u r : Nat} {i : Int32} (ht : t ≠ 0) (hu : u ≠ 0) (h : ai σ t u r i = true) : ∃ t' n, kd σ r = some (t', n) ∧ (t' = t ∨ t' = u) ∧ vp_in i n := by
  unfold ai at h
  simp only [Bool.and_eq_true, Bool.or_eq_true, beq_iff_eq, decide_eq_true_eq] at h
  obtain ⟨⟨h1, h2⟩, h3⟩ := h
  unfold tg at h1
  unfold ln at h3
  cases hk : kd σ r with
  | none =>
    rw [hk] at h1
    rcases h1 with q | q
    · exact absurd q.symm ht
    · exact absurd q.symm hu
  | some q =>
    obtain ⟨t', n⟩ := q
    rw [hk] at h1 h3
    exact ⟨t', n, rfl, h1, vp_in_iff.mpr ⟨h2, h3⟩⟩
theorem vp_in_lt {i : Int32} {n : Nat} (h : vp_in i n) : ix i < n := Nat.not_le.mp fun q => h (Or.inr q)
theorem zCel_congr {k t n : Nat} (h : zCel ρ dC dI dA σ H k t n) (hh : H'[ρ k]? = H[ρ k]?) (hI : ∀ j, gI σ' k j = gI σ k j) (hL : ∀ j, gL σ' k j = gL σ k j) (hRr : ∀ j, gR σ' k j = gR σ k j) : zCel ρ dC dI dA σ' H' k t n := by
  rcases h with ⟨h1, h2, h3⟩ | ⟨h1, h2⟩
  · refine Or.inl ⟨h1, h2, (h3.kept hh).to fun j _ => ?_⟩
    unfold zfv
    rw [hI, hL, hRr]
  · refine Or.inr ⟨h1, ?_⟩
    rw [hh, h2]
    have : (fun j => zel ρ σ t k j) = (fun j => zel ρ σ' t k j) := by
      funext j
      unfold zel
      rw [hI, hL, hRr]
    rw [this]
theorem zrho_inj (hG : zG s0 ρ dC dI dA L xs fo) {a b : Nat} (ha : 6 ≤ a) (hb : 6 ≤ b) (h : ρ a = ρ b) : a = b := by
  rw [hG.1 a ha, hG.1 b hb] at h
  omega
/-- one written cell -/
theorem zRep_set (hG : zG s0 ρ dC dI dA L xs fo) (hR : zRep s0 ρ dC dI dA L xs fo σ H) {k t n : Nat} (hK : σ'.1 = σ.1) (hk : 6 ≤ k) (hkd : σ.1[k]? = some (t, n)) (hs : H'.size = H.size) (ho : ∀ q, q ≠ ρ k → H'[q]? = H[q]?) (hc : zCel ρ dC dI dA σ' H' k t n) (hI : ∀ r j, r ≠ k → gI σ' r j = gI σ r j) (hL : ∀ r j, r ≠ k → gL σ' r j = gL σ r j) (hRr : ∀ r j, r ≠ k → gR σ' r j = gR σ r j) : zRep s0 ρ dC dI dA L xs fo σ' H' := by
  obtain ⟨r1, r2, r3, ⟨K, hKK⟩, o1, o2, o3, o4, o5, o6⟩ := hR
  refine ⟨by rw [hs, hK]; exact r1, fun q hq => ?_, fun k' t' n' hk' hkd' => ?_, ⟨K, by rw [hK]; exact hKK⟩, fun j hj => ?_, fun j hj => ?_, ?_, ?_, fun j hj => ?_, ?_⟩
  · rw [ho q (by rw [hG.1 k hk]; omega)]
    exact r2 q hq
  · by_cases he : k' = k
    · subst he
      rw [hK, hkd] at hkd'
      cases hkd'
      exact hc
    · rw [hK] at hkd'
      exact zCel_congr (r3 k' t' n' hk' hkd') (ho _ (fun q => he (zrho_inj hG hk' hk q))) (fun j => hI _ j he) (fun j => hL _ j he) (fun j => hRr _ j he)
  · rw [hI 0 j (by omega)]; exact o1 j hj
  · rw [hI 1 j (by omega)]; exact o2 j hj
  · rw [hRr 2 0 (by omega)]; exact o3
  · rw [hI 2 1 (by omega)]; exact o4
  · rw [hI 3 j (by omega)]; exact o5 j hj
  · rw [hRr 4 0 (by omega)]; exact o6
theorem kd_lt {r : Nat} {q : Nat × Nat} (h : kd σ r = some q) : r < σ.1.length := (List.getElem?_eq_some_iff.mp h).1
/-- a new cell -/
theorem zRep_new (hG : zG s0 ρ dC dI dA L xs fo) (hR : zRep s0 ρ dC dI dA L xs fo σ H) {t n : Nat} (hs : H'.size = H.size + 1) (ho : ∀ q, q < H.size → H'[q]? = H[q]?) (hc : zCel ρ dC dI dA (sN σ t n) H' (sz σ) t n) : zRep s0 ρ dC dI dA L xs fo (sN σ t n) H' := by
  have h6 := zRep_len hR
  obtain ⟨r1, r2, r3, ⟨K, hKK⟩, o1, o2, o3, o4, o5, o6⟩ := hR
  have hl : (sN σ t n).1 = σ.1 ++ [(t, n)] := rfl
  have mI : ∀ r j, r ≠ σ.1.length → gI (sN σ t n) r j = gI σ r j := fun r j h => by simp [gI, sN, h]
  have mL : ∀ r j, r ≠ σ.1.length → gL (sN σ t n) r j = gL σ r j := fun r j h => by simp [gL, sN, h]
  have mR : ∀ r j, r ≠ σ.1.length → gR (sN σ t n) r j = gR σ r j := fun r j h => by simp [gR, sN, h]
  refine ⟨by rw [hs, r1, hl, List.length_append]; simp; omega, fun q hq => ?_, fun k' t' n' hk' hkd' => ?_, ⟨K ++ [(t, n)], by rw [hl, hKK, List.append_assoc]⟩, fun j hj => ?_, fun j hj => ?_, ?_, ?_, fun j hj => ?_, ?_⟩
  · rw [ho q (by rw [r1]; omega)]
    exact r2 q hq
  · rw [hl] at hkd'
    by_cases he : k' < σ.1.length
    · rw [List.getElem?_append_left he] at hkd'
      refine zCel_congr (r3 k' t' n' hk' hkd') (ho _ (by rw [hG.1 k' hk', r1]; omega)) (fun j => mI _ j (by omega)) (fun j => mL _ j (by omega)) (fun j => mR _ j (by omega))
    · rw [List.getElem?_append_right (by omega)] at hkd'
      have hz : k' - σ.1.length < 1 := (List.getElem?_eq_some_iff.mp hkd').1
      have e : k' = σ.1.length := by omega
      subst e
      rw [Nat.sub_self] at hkd'
      cases hkd'
      exact hc
  · rw [mI 0 j (by omega)]; exact o1 j hj
  · rw [mI 1 j (by omega)]; exact o2 j hj
  · rw [mR 2 0 (by omega)]; exact o3
  · rw [mI 2 1 (by omega)]; exact o4
  · rw [mI 3 j (by omega)]; exact o5 j hj
  · rw [mR 4 0 (by omega)]; exact o6
theorem zrho_new (hG : zG s0 ρ dC dI dA L xs fo) (hR : zRep s0 ρ dC dI dA L xs fo σ H) : ρ (sz σ) = H.size := by
  have h6 := zRep_len hR
  rw [hG.1 (sz σ) h6, hR.1]
  rfl
theorem gI_sI (r j : Nat) (v : Int32) (r' j' : Nat) : gI (sI σ r j v) r' j' = if r' = r ∧ j' = j then v else gI σ r' j' := rfl
theorem gL_sL (r j : Nat) (v : Int64) (r' j' : Nat) : gL (sL σ r j v) r' j' = if r' = r ∧ j' = j then v else gL σ r' j' := rfl
theorem gR_sR (r j : Nat) (v : Option Nat) (r' j' : Nat) : gR (sR σ r j v) r' j' = if r' = r ∧ j' = j then v else gR σ r' j' := rfl
end
/-! the cells only grow -/
def zsl (σ : zS) : Nat := (σ.1.map (fun q => q.2)).sum
def zPr (σ : zS) (a : zA) : Prop := match a with
  | none => True
  | some (.inl (_, _, _, σ1)) => σ.1 <+: σ1.1
  | some (.inr (.inl (_, σ1))) => σ.1 <+: σ1.1
  | some (.inr (.inr (_, _, _, _, _, σ1))) => σ.1 <+: σ1.1
theorem zPr_ite {σ : zS} {p : Prop} {hp : Decidable p} {a b : zA} (h1 : zPr σ a) (h2 : zPr σ b) : zPr σ (@ite _ p hp a b) := by cases hp <;> assumption
theorem zPr_cond {σ : zS} {c : Bool} {a b : zA} (h1 : zPr σ a) (h2 : zPr σ b) : zPr σ (bif c then a else b) := by cases c <;> assumption
theorem zPr_sw {σ : zS} {f : Nat → zA} (l : List (Int32 × Nat)) (x : Int32) (d : Nat) (h : ∀ t, zPr σ (f t)) : zPr σ (zsw l x d f) := by
  induction l with
  | nil => exact h d
  | cons q l ih => obtain ⟨v, t⟩ := q; unfold zsw; exact zPr_ite (h t) ih
theorem zPr_eR {σ : zS} {o : Option Nat} {f : Nat → zA} (h : ∀ q, zPr σ (f q)) : zPr σ (zeR none o f) := by cases o <;> first | trivial | exact h _
theorem zPr_eN {σ : zS} {o : Option Nat} {g : zA} {f : Nat → zA} (h1 : zPr σ g) (h : ∀ q, zPr σ (f q)) : zPr σ (zeN o g f) := by cases o <;> first | exact h1 | exact h _
theorem zPr_cal (d a b nx : Nat) (cl : List (Option Value)) (st : List Value) (σ : zS) : zPr σ (zcal zmi none (fun m args nx cl st σ => some (.inr (.inr (m, args, nx, cl, st, σ)))) d a b nx cl st σ) := by
  unfold zcal
  refine zPr_cond (zPr_cond (zPr_cond (zPr_cond ?_ trivial) trivial) trivial) trivial
  split <;> first | exact List.prefix_refl _ | (split <;> first | trivial | exact List.prefix_refl _ | exact zPr_ite (List.prefix_refl _) trivial)
set_option maxHeartbeats 4000000 in
theorem zstep_pre (d m : Nat) (e : zI) (cl : List (Option Value)) (st : List Value) (σ : zS) : zPr σ (zstep d m e cl st σ) := by
  unfold zstep
  obtain ⟨bp, ins, nx, a, b, c, cI, cL⟩ := e
  have hr : σ.1 <+: σ.1 := List.prefix_refl _
  cases ins <;> unfold zx <;> dsimp only <;>
    first
    | trivial
    | exact hr
    | exact zPr_cond hr hr
    | exact zPr_cond (zPr_cal _ _ _ _ _ _ _) trivial
    | exact List.prefix_append _ _
    | (unfold zret; split <;> first | trivial | (split <;> first | trivial | exact hr | exact zPr_ite hr trivial))
    | (split <;> first | trivial | exact hr | exact zPr_cond hr trivial | exact zPr_ite hr trivial | exact zPr_ite trivial hr | exact zPr_ite hr hr | exact zPr_sw _ _ _ (fun _ => hr) | exact zPr_cond (zPr_ite hr trivial) (zPr_ite hr trivial) | exact zPr_cond (zPr_ite hr trivial) trivial | exact zPr_cond (zPr_ite hr trivial) (zPr_ite (zPr_ite hr trivial) trivial) | exact zPr_ite (zPr_ite hr trivial) trivial | exact zPr_ite trivial (zPr_ite trivial (List.prefix_append _ _)) | exact zPr_ite (zPr_cond (zPr_eR (fun _ => hr)) (zPr_eN hr (fun _ => hr))) trivial | exact zPr_eN hr (fun _ => hr) | exact zPr_cal _ _ _ _ _ _ _ | (split <;> first | trivial | exact hr | exact zPr_ite hr hr | exact zPr_cond hr trivial | exact zPr_ite (zPr_cond hr trivial) trivial) | (refine zPr_ite ?_ trivial; split <;> first | exact hr | exact zPr_eR (fun _ => hr)))
theorem zbk_pre {t : Nat} {o : zO} {f : List Value → zS → zO} {x : Option Value × zS} {σ : zS} (h : zbk t o f = some x) (ho : ∀ y, o = some y → σ.1 <+: y.2.1) (hf : ∀ vs σ1, f vs σ1 = some x → σ1.1 <+: x.2.1) : σ.1 <+: x.2.1 := by
  obtain ⟨y, vs, h1, -, h3, -⟩ := zbk_some h
  exact (ho y h1).trans (hf _ _ h3)
theorem zf_pre (n : Nat) : ∀ (d m i : Nat) (cl : List (Option Value)) (st : List Value) (σ : zS) (x : Option Value × zS), zf n d m i cl st σ = some x → σ.1 <+: x.2.1 := by
  induction n with
  | zero => intro d m i cl st σ x h; simp [zf] at h
  | succ n ih =>
    intro d m i cl st σ x h
    rw [zf_succ] at h
    split at h
    · simp at h
    · rename_i e _
      have hp := zstep_pre d m e cl st σ
      match hz : zstep d m e cl st σ, hp, h with
      | some (.inl (i', cl', st', σ1)), hp, h => exact List.IsPrefix.trans hp (ih _ _ _ _ _ _ _ h)
      | some (.inr (.inl (v, σ1))), hp, h => cases h; exact hp
      | some (.inr (.inr (m', args, nx, cl', st', σ1))), hp, h =>
        have h : zbk (zmi m').1 (zfM n m' args σ1) (fun vs σ => zf n d m nx cl' (vs ++ st') σ) = some x := h
        exact List.IsPrefix.trans hp (zbk_pre h (fun y hy => ih _ _ _ _ _ _ _ hy) (fun vs σ1 h => ih _ _ _ _ _ _ _ h))
theorem zsl_le {σ σ1 : zS} (h : σ.1 <+: σ1.1) : zsl σ ≤ zsl σ1 := by
  obtain ⟨t, ht⟩ := h
  unfold zsl
  rw [← ht, List.map_append, List.sum_append]
  omega
theorem zck_of {m i : Nat} {e : zI} (h : (zL m)[i]? = some e) : zck m e = true := by
  have hm : m < zLL.length := by
    unfold zL at h
    by_cases q : m < zLL.length
    · exact q
    · rw [List.getD_eq_getElem?_getD, List.getElem?_eq_none (l := zLL) (i := m) (by omega)] at h
      simp at h
  have h1 : (zL m, m) ∈ zLL.zipIdx := by
    rw [List.mem_zipIdx_iff_getElem?]
    unfold zL
    rw [List.getD_eq_getElem?_getD, List.getElem?_eq_getElem hm]
    rfl
  exact List.all_eq_true.mp (zLL_ok _ h1) e (List.mem_of_getElem? h)
