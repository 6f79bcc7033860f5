/-! one step; laid by wip/whole/gen/kstp.py -/
theorem zbif_of {k : Nat → List (Option Value) → List Value → zS → zO} {M : Nat → List Value → zS → zO} {c : Bool} {a b : zA} {x : Option Value × zS} (h : zdo k M (bif c then a else b) = some x) : (c = true ∧ zdo k M a = some x) ∨ (c = false ∧ zdo k M b = some x) := by
  cases c
  · exact Or.inr ⟨rfl, h⟩
  · exact Or.inl ⟨rfl, h⟩
theorem zite_of {k : Nat → List (Option Value) → List Value → zS → zO} {M : Nat → List Value → zS → zO} {p : Prop} {hp : Decidable p} {a b : zA} {x : Option Value × zS} (h : zdo k M (@ite _ p hp a b) = some x) : (p ∧ zdo k M a = some x) ∨ (¬ p ∧ zdo k M b = some x) := by
  cases hp with
  | isTrue q => exact Or.inl ⟨q, h⟩
  | isFalse q => exact Or.inr ⟨q, h⟩
theorem zst1_len (cl : List (Option Value)) (i : Nat) (v : Value) : (zst1 cl i v).length = cl.length := by
  unfold zst1
  rw [List.length_set]
  cases i with
  | zero => rfl
  | succ i =>
    unfold zun
    dsimp only
    split
    · cases Nat.beq (zcat _) 2 <;> simp
    · rfl
theorem zst2_len (cl : List (Option Value)) (i : Nat) (v : Value) : (zst2 cl i v).length = cl.length := by
  unfold zst2
  rw [List.length_set]
  exact zst1_len cl i v
theorem zjmp_of {m b t : Nat} {off : Int} (h : zjmp m b t off = true) : ∃ q, zbp m t = some q ∧ (b : Int) + off = (q : Int) := by
  unfold zjmp at h
  split at h
  · rename_i q hq
    exact ⟨q, hq, of_decide_eq_true h⟩
  · cases h
theorem zckT_at {m b : Nat} : ∀ (l : List (Int32 × Nat)) (os : List Int) (lo : Int), zckT m b l os lo = true → ∀ (j : Nat) (v : Int32) (t : Nat), l[j]? = some (v, t) → ∃ o, os[j]? = some o ∧ v.toInt = lo + j ∧ zjmp m b t o = true := by
  intro l
  induction l with
  | nil => intro os lo _ j v t h; simp at h
  | cons q l ih =>
    intro os lo h j v t hj
    obtain ⟨v0, t0⟩ := q
    cases os with
    | nil => simp [zckT] at h
    | cons o os =>
      simp only [zckT, Bool.and_eq_true, decide_eq_true_eq] at h
      obtain ⟨⟨h1, h2⟩, h3⟩ := h
      cases j with
      | zero =>
        simp at hj
        obtain ⟨rfl, rfl⟩ := hj
        exact ⟨o, rfl, by simpa using h1, h2⟩
      | succ j =>
        simp at hj
        obtain ⟨o', g1, g2, g3⟩ := ih os (lo + 1) h3 j v t hj
        refine ⟨o', by simpa using g1, ?_, g3⟩
        rw [g2]
        omega
theorem zckT_len {m b : Nat} : ∀ (l : List (Int32 × Nat)) (os : List Int) (lo : Int), zckT m b l os lo = true → l.length = os.length := by
  intro l
  induction l with
  | nil => intro os lo h; cases os with
    | nil => rfl
    | cons o os => simp [zckT] at h
  | cons q l ih =>
    intro os lo h
    cases os with
    | nil => obtain ⟨v0, t0⟩ := q; simp [zckT] at h
    | cons o os =>
      obtain ⟨v0, t0⟩ := q
      simp only [zckT, Bool.and_eq_true] at h
      simp [ih os (lo + 1) h.2]
theorem zsw_pick {α : Type} {f : Nat → Option α} {y : α} : ∀ {l : List (Int32 × Nat)} {x : Int32} {d : Nat}, zsw l x d f = some y → ∃ t, f t = some y ∧ ((∃ j : Nat, l[j]? = some (x, t)) ∨ (t = d ∧ ∀ (j : Nat) (q : Int32 × Nat), l[j]? = some q → ¬ q.1 = x)) := by
  intro l
  induction l with
  | nil => intro x d h; exact ⟨d, h, Or.inr ⟨rfl, fun j q hq => by simp at hq⟩⟩
  | cons q l ih =>
    intro x d h
    obtain ⟨v, t⟩ := q
    unfold zsw at h
    split at h
    · rename_i he
      exact ⟨t, h, Or.inl ⟨0, by simp [he]⟩⟩
    · rename_i hne
      obtain ⟨t', h1, h2⟩ := ih h
      refine ⟨t', h1, ?_⟩
      rcases h2 with ⟨j, hj⟩ | ⟨rfl, hno⟩
      · exact Or.inl ⟨j + 1, by simpa using hj⟩
      · refine Or.inr ⟨rfl, fun j q hq => ?_⟩
        cases j with
        | zero => simp at hq; subst hq; exact fun z => hne z.symm
        | succ j => exact hno j q (by simpa using hq)
theorem zckP_pick {m b : Nat} {α : Type} {f : Nat → Option α} {y : α} {x : Int32} {d : Nat} {df : Int} : ∀ (l : List (Int32 × Nat)) (ps : List (Int × Int)), zckP m b l ps = true → zjmp m b d df = true → zsw l x d f = some y → ∃ t o, f t = some y ∧ zjmp m b t o = true ∧ Op.lookupswitch.offset ps df x.toInt = o := by
  intro l
  induction l with
  | nil =>
    intro ps h hd hz
    cases ps with
    | nil => exact ⟨d, df, hz, hd, rfl⟩
    | cons q ps => simp [zckP] at h
  | cons q l ih =>
    intro ps h hd hz
    obtain ⟨v, t⟩ := q
    cases ps with
    | nil => simp [zckP] at h
    | cons w ps =>
      obtain ⟨w, o⟩ := w
      simp only [zckP, Bool.and_eq_true, decide_eq_true_eq] at h
      obtain ⟨⟨h1, h2⟩, h3⟩ := h
      unfold zsw at hz
      split at hz
      · rename_i he
        refine ⟨t, o, hz, h2, ?_⟩
        simp [Op.lookupswitch.offset, he, h1]
      · rename_i hne
        obtain ⟨t', o', g1, g2, g3⟩ := ih ps h3 hd hz
        refine ⟨t', o', g1, g2, ?_⟩
        rw [lv_osw hne h1]
        exact g3
theorem zret_of {n d k : Nat} {t : Nat} {st : List Value} {σ : zS} {v : Option Value} {σ' : zS} (h : zdo (zf n d k) (zfM n) (zret none (fun v σ => some (.inr (.inl (v, σ)))) t st σ) = some (v, σ')) : ∃ x, st = [.int x] ∧ v = some (.int x) ∧ σ' = σ ∧ (t = 1 ∨ ((t = 4 ∨ t = 5 ∨ t = 6) ∧ zfit t x = true)) := by
  unfold zret at h
  split at h
  · rename_i x
    split at h
    · have h2 : some (some (Value.int x), σ) = some (v, σ') := h
      cases h2
      exact ⟨x, rfl, rfl, rfl, Or.inl rfl⟩
    · rcases zite_of h with ⟨hc, h⟩ | ⟨hc, h⟩
      · have h2 : some (some (Value.int x), σ) = some (v, σ') := h
        cases h2
        exact ⟨x, rfl, rfl, rfl, Or.inr ⟨Or.inl rfl, hc⟩⟩
      · have h2 : (none : zO) = some (v, σ') := h
        cases h2
    · rcases zite_of h with ⟨hc, h⟩ | ⟨hc, h⟩
      · have h2 : some (some (Value.int x), σ) = some (v, σ') := h
        cases h2
        exact ⟨x, rfl, rfl, rfl, Or.inr ⟨Or.inr (Or.inl rfl), hc⟩⟩
      · have h2 : (none : zO) = some (v, σ') := h
        cases h2
    · rcases zite_of h with ⟨hc, h⟩ | ⟨hc, h⟩
      · have h2 : some (some (Value.int x), σ) = some (v, σ') := h
        cases h2
        exact ⟨x, rfl, rfl, rfl, Or.inr ⟨Or.inr (Or.inr rfl), hc⟩⟩
      · have h2 : (none : zO) = some (v, σ') := h
        cases h2
    · have h2 : (none : zO) = some (v, σ') := h
      cases h2
  · have h2 : (none : zO) = some (v, σ') := h
    cases h2
theorem zrt2_narrow {r : Option FieldType} {x : Int32} (h : zrt2 r = 1 ∨ ((zrt2 r = 4 ∨ zrt2 r = 5 ∨ zrt2 r = 6) ∧ zfit (zrt2 r) x = true)) : ∃ ty, r = some ty ∧ narrow ty (.int x) = .int x := by
  match r with
  | none => simp [zrt2] at h
  | some .int => exact ⟨_, rfl, rfl⟩
  | some .boolean =>
    rcases h with h | h
    · simp [zrt2] at h
    · exact ⟨_, rfl, zfit_narrow h.2 (Or.inl ⟨rfl, rfl⟩)⟩
  | some .char =>
    rcases h with h | h
    · simp [zrt2] at h
    · exact ⟨_, rfl, zfit_narrow h.2 (Or.inr (Or.inl ⟨rfl, rfl⟩))⟩
  | some .byte =>
    rcases h with h | h
    · simp [zrt2] at h
    · exact ⟨_, rfl, zfit_narrow h.2 (Or.inr (Or.inr ⟨rfl, rfl⟩))⟩
  | some .long => simp [zrt2] at h
  | some .float => simp [zrt2] at h
  | some .double => simp [zrt2] at h
  | some .short => simp [zrt2] at h
  | some (.object _) => simp [zrt2] at h
  | some (.array _) => simp [zrt2] at h
theorem zrt2_long {r : Option FieldType} (h : zrt2 r = 2) : r = some .long := by
  unfold zrt2 at h
  split at h <;> first | rfl | (simp at h)
theorem zrt2_none {r : Option FieldType} (h : zrt2 r = 0) : r = none := by
  unfold zrt2 at h
  split at h <;> first | rfl | (simp at h)
theorem zret_ok {k : Nat} (hk : k < 339) : ∀ t, (zY k).2.2.2.1 = some t → t ≠ .float ∧ t ≠ .double ∧ t ≠ .short := by
  intro t ht
  have h1 := zmok_ok k hk
  unfold zmok at h1
  simp only [Bool.and_eq_true] at h1
  have h2 := h1.2
  rw [ht] at h2
  refine ⟨?_, ?_, ?_⟩ <;> (rintro rfl; simp at h2)
theorem zrt2_ref {r : Option FieldType} (h : zrt2 r = 3) (hs : ∀ t, r = some t → t ≠ .float ∧ t ≠ .double ∧ t ≠ .short) : ∃ rt, r = some rt ∧ ((∃ n, rt = .object n) ∨ ∃ t, rt = .array t) := by
  match r, h, hs with
  | none, h, _ => simp [zrt2] at h
  | some .int, h, _ => simp [zrt2] at h
  | some .boolean, h, _ => simp [zrt2] at h
  | some .char, h, _ => simp [zrt2] at h
  | some .byte, h, _ => simp [zrt2] at h
  | some .long, h, _ => simp [zrt2] at h
  | some .float, _, hs => exact absurd rfl (hs _ rfl).1
  | some .double, _, hs => exact absurd rfl (hs _ rfl).2.1
  | some .short, _, hs => exact absurd rfl (hs _ rfl).2.2
  | some (.object n), _, _ => exact ⟨_, rfl, Or.inl ⟨n, rfl⟩⟩
  | some (.array t), _, _ => exact ⟨_, rfl, Or.inr ⟨t, rfl⟩⟩
theorem zoc_small : ∀ k, k < 339 → (zY k).2.2.2.2.2.1 = 0 → zoc k ≠ 13 → zoc k ≤ 12 := by decide +kernel
theorem zlaw_flag : ∀ k, k < 339 → zoc k = 19 → (zY k).2.2.2.2.2.1 = 2 → False := by decide +kernel
set_option maxRecDepth 100000 in
theorem zac_32 : Cond.arrayClass (zty 32) ∈ lw_tbl := zt1 (List.mem_of_getElem? (i := 119) rfl)
set_option maxRecDepth 100000 in
theorem zac_33 : Cond.arrayClass (zty 33) ∈ lw_tbl := zt1 (List.mem_of_getElem? (i := 118) rfl)
set_option maxRecDepth 100000 in
theorem zac_34 : Cond.arrayClass (zty 34) ∈ lw_tbl := zt7 (List.mem_of_getElem? (i := 102) rfl)
set_option maxRecDepth 100000 in
theorem zac_35 : Cond.arrayClass (zty 35) ∈ lw_tbl := zt7 (List.mem_of_getElem? (i := 103) rfl)
set_option maxRecDepth 100000 in
theorem zac_36 : Cond.arrayClass (zty 36) ∈ lw_tbl := zt2 (List.mem_of_getElem? (i := 104) rfl)
set_option maxRecDepth 100000 in
theorem zao_68 : Cond.arrayOver (.object RX3) ∈ lw_tbl := zt1 (List.mem_of_getElem? (i := 164) rfl)
set_option maxRecDepth 100000 in
theorem zao_73 : Cond.arrayOver (.object RX8) ∈ lw_tbl := zt1 (List.mem_of_getElem? (i := 166) rfl)
set_option maxRecDepth 100000 in
theorem zao_70 : Cond.arrayOver (.object RX5) ∈ lw_tbl := zt1 (List.mem_of_getElem? (i := 168) rfl)
set_option maxRecDepth 100000 in
theorem zao_69 : Cond.arrayOver (.object RX4) ∈ lw_tbl := zt2 (List.mem_of_getElem? (i := 79) rfl)
set_option maxRecDepth 100000 in
theorem zao_80 : Cond.arrayOver (.array .int) ∈ lw_tbl := zt1 (List.mem_of_getElem? (i := 137) rfl)
set_option maxRecDepth 100000 in
theorem zob_i : Cond.instanceMethod objectInit ∈ lw_tbl := zt1 (List.mem_of_getElem? (i := 28) rfl)
set_option maxRecDepth 100000 in
theorem zob_c : Cond.code objectInit ⟨#[0xb1]⟩ 1 none ∈ lw_tbl := zt1 (List.mem_of_getElem? (i := 29) rfl)
set_option maxRecDepth 100000 in
theorem zcp_n : Cond.native arraycopyName ∈ lw_tbl := zt3 (List.mem_of_getElem? (i := 230) rfl)
set_option maxRecDepth 100000 in
theorem zcp_s : Cond.static arraycopyName ∈ lw_tbl := zt3 (List.mem_of_getElem? (i := 229) rfl)
set_option maxRecDepth 100000 in
theorem zcp_i : Cond.initialized "java/lang/System" ∈ lw_tbl := zt1 (List.mem_of_getElem? (i := 20) rfl)
set_option maxRecDepth 100000 in
theorem zLok_0 {o i a b : Nat} (h : zLok (o, i, a, b, 0)) (ha : a < 900) : Cond.methodLink (zcn o) i (zY a).1 ∈ lw_tbl := by
  have h : Cond.methodLink (zcn o) i (zMn a) ∈ lw_tbl := h
  have e : zMn a = (zY a).1 := by
    unfold zMn
    rw [show Nat.beq a 999 = false from by cases q : Nat.beq a 999 with | false => rfl | true => (have := Nat.eq_of_beq_eq_true q; omega), show Nat.beq a 998 = false from by cases q : Nat.beq a 998 with | false => rfl | true => (have := Nat.eq_of_beq_eq_true q; omega)]
    rfl
  rw [e] at h
  exact h
theorem zLok_1 {o i a b : Nat} (h : zLok (o, i, a, b, 1)) (ha : a < 900) : Cond.methodLinkNest (zcn o) i (zY a).1 "ThreeSizes" ∈ lw_tbl := by
  have h : Cond.methodLinkNest (zcn o) i (zMn a) "ThreeSizes" ∈ lw_tbl := h
  have e : zMn a = (zY a).1 := by
    unfold zMn
    rw [show Nat.beq a 999 = false from by cases q : Nat.beq a 999 with | false => rfl | true => (have := Nat.eq_of_beq_eq_true q; omega), show Nat.beq a 998 = false from by cases q : Nat.beq a 998 with | false => rfl | true => (have := Nat.eq_of_beq_eq_true q; omega)]
    rfl
  rw [e] at h
  exact h
theorem zIn_at {a : Nat} (h1 : 1 ≤ a) (h2 : a ≤ 13) : Cond.instantiable (zCln a) (vwCl.getD (a - 1) ("", TX0, 0)).2.2 ∈ lw_tbl ∧ Cond.initialized (zCln a) ∈ lw_tbl := zIn_ok a (by simp; omega)
theorem zatN_ty {a : Nat} {t : ArrayType} (h : zatN a = some t) : a ∈ zwt ∧ newarray.typeOf t = zty a ∧ (a = 32 ∨ a = 33 ∨ a = 34 ∨ a = 35 ∨ a = 36) := by
  unfold zatN at h
  split at h <;> first | (cases h; exact ⟨by decide, rfl, by decide⟩) | cases h
theorem zbytes {a : Nat} (h : a = 32 ∨ a = 33 ∨ a = 34 ∨ a = 35 ∨ a = 36) {n : Nat} (hn : n < 10000) : n * componentBytes (zty a) ≤ 536870912 := by
  have : componentBytes (zty a) ≤ 8 := by rcases h with rfl | rfl | rfl | rfl | rfl <;> decide
  exact Nat.le_trans (Nat.mul_le_mul (Nat.le_of_lt hn) this) (by decide)
theorem zix_lt {n : Int32} (h0 : ¬ n < 0) (h : ¬ 10000 ≤ n) : ix n < 10000 := by
  have h1 := Int32.not_lt.mp h0
  have h2 : n < 10000 := Int32.not_le.mp h
  rw [Int32.le_iff_toInt_le] at h1
  rw [Int32.lt_iff_toInt_lt] at h2
  have e1 : (0 : Int32).toInt = 0 := rfl
  have e2 : (10000 : Int32).toInt = 10000 := rfl
  show n.toInt.toNat < 10000
  omega
theorem zsl_sN (σ : zS) (t n : Nat) : zsl (sN σ t n) = zsl σ + n := by
  show ((σ.1 ++ [(t, n)]).map _).sum = _
  rw [List.map_append, List.sum_append]
  simp [zsl]
theorem zsz_sN (σ : zS) (t n : Nat) : (sN σ t n).1.length = σ.1.length + 1 := by
  show (σ.1 ++ [(t, n)]).length = _
  simp
theorem zself (vm : Vm) (c : ClassId) : vm.assignable c c = true := by
  show (c == c || _) = true
  simp
theorem zst_split {st : List Value} {n r : Nat} {as : List Value} (h : (st.take n).reverse = .ref r :: as) (ρ : Nat → Nat) : st.map (zmv ρ) = (as.map (zmv ρ)).reverse ++ .ref (ρ r) :: (st.drop n).map (zmv ρ) := by
  have h1 : st.take n = as.reverse ++ [.ref r] := by
    have := congrArg List.reverse h
    simpa using this
  have h2 : st = (as.reverse ++ [.ref r]) ++ st.drop n := by rw [← h1, List.take_append_drop]
  have h3 := congrArg (List.map (zmv ρ)) h2
  rw [h3]
  simp [zmv]
theorem zst_split0 {st : List Value} {n : Nat} {as : List Value} (h : (st.take n).reverse = as) (ρ : Nat → Nat) : st.map (zmv ρ) = (as.map (zmv ρ)).reverse ++ (st.drop n).map (zmv ρ) := by
  have h1 : st.take n = as.reverse := by
    have := congrArg List.reverse h
    simpa using this
  have h2 : st = as.reverse ++ st.drop n := by rw [← h1, List.take_append_drop]
  have h3 := congrArg (List.map (zmv ρ)) h2
  rw [h3]
  simp
theorem zst_len {st : List Value} {n : Nat} {as : List Value} (h : (st.take n).reverse = as) (hn : n ≤ st.length) : as.length = n := by
  rw [← h]
  simp
  omega
/-- the parts of a call -/
theorem zcal_of {n d k d0 a b nx : Nat} {cl : List (Option Value)} {st : List Value} {σ : zS} {x : Option Value × zS} (h : zdo (zf n d k) (zfM n) (zcal zmi none (fun m args nx cl st σ => some (.inr (.inr (m, args, nx, cl, st, σ)))) d0 a b nx cl st σ) = some x) : ∃ (as : List Value) (y : Option Value × zS), (st.take (zmi a).2.1).reverse = as ∧ (zmi a).2.1 ≤ st.length ∧ zcats (st.drop (zmi a).2.1) ≤ 8 ∧ zrk a as < d0 ∧ (zargs as).length ≤ (zmi a).2.2.1 ∧ (b ≠ 1 → ∃ r as', as = .ref r :: as' ∧ (b = 0 → tg σ r = (zmi a).2.2.2.1)) ∧ zfM n a as σ = some y ∧ zf n d k nx cl (y.1.toList ++ st.drop (zmi a).2.1) y.2 = some x := by
  unfold zcal at h
  rcases zbif_of h with ⟨h1, h⟩ | ⟨_, h⟩
  rcases zbif_of h with ⟨h2, h⟩ | ⟨_, h⟩
  rcases zbif_of h with ⟨h3, h⟩ | ⟨_, h⟩
  rcases zbif_of h with ⟨h4, h⟩ | ⟨_, h⟩
  · have fin : ∀ as, (st.take (zmi a).2.1).reverse = as → zdo (zf n d k) (zfM n) (some (.inr (.inr (a, as, nx, cl, st.drop (zmi a).2.1, σ)))) = some x → ∃ y : Option Value × zS, zfM n a as σ = some y ∧ zf n d k nx cl (y.1.toList ++ st.drop (zmi a).2.1) y.2 = some x := by
      intro as _ h
      have h : zbk (zmi a).1 (zfM n a as σ) (fun vs σ => zf n d k nx cl (vs ++ st.drop (zmi a).2.1) σ) = some x := h
      obtain ⟨y, vs, g1, g2, g3, -⟩ := zbk_some h
      exact ⟨y, g1, by rw [g2]; exact g3⟩
    have h1' : (zmi a).2.1 ≤ st.length := Nat.le_of_ble_eq_true h1
    have h2' : zcats (st.drop (zmi a).2.1) ≤ 8 := Nat.le_of_ble_eq_true h2
    have h3' : zrk a (st.take (zmi a).2.1).reverse < d0 := Nat.le_of_ble_eq_true h3
    have h4' : (zargs (st.take (zmi a).2.1).reverse).length ≤ (zmi a).2.2.1 := Nat.le_of_ble_eq_true h4
    split at h
    · obtain ⟨y, g1, g2⟩ := fin _ rfl h
      exact ⟨_, y, rfl, h1', h2', h3', h4', fun q => absurd rfl q, g1, g2⟩
    · split at h
      · rename_i r as' hr
        rcases zite_of h with ⟨hc, h⟩ | ⟨hc, h⟩
        · obtain ⟨y, g1, g2⟩ := fin _ hr h
          exact ⟨_, y, hr, h1', h2', by rw [hr] at h3'; exact h3', by rw [hr] at h4'; exact h4', fun _ => ⟨r, as', rfl, fun _ => hc⟩, g1, g2⟩
        · have h2 : (none : zO) = some x := h
          cases h2
      · have h2 : (none : zO) = some x := h
        cases h2
    · rename_i n1 n2
      split at h
      · rename_i r as' hr
        obtain ⟨y, g1, g2⟩ := fin _ hr h
        exact ⟨_, y, hr, h1', h2', by rw [hr] at h3'; exact h3', by rw [hr] at h4'; exact h4', fun _ => ⟨r, as', rfl, fun q => absurd q n2⟩, g1, g2⟩
      · have h2 : (none : zO) = some x := h
        cases h2
  all_goals (have h2 : (none : zO) = some x := h; cases h2)
/-- a copy of ints -/
theorem z_copy {p : Program} {l : Launch} {e : Env} {R : Room} {s : State} {m : MethodId} {args : Array Value} {below : List Frame} {meth : Method} {c : Code} {H : Heap} {locs : List Loc} {cells slots : Nat} {Q : State → Prop} {cc : ByteArray} {pc : Nat} {ls : Array Slot} {rest : List Value} (hexec : p.tables.exec = Jvm.exec) (hb : c.code = cc) (hml : c.maxLocals = ls.size) {own : String} {index : Nat} (hown : s.vm.findClass own = some m.cls) (hlink : (Cond.methodLink own index arraycopyName).before args s = true) (hnat : (Cond.native arraycopyName).before args s = true) (hstat : (Cond.static arraycopyName).before args s = true) (hini : (Cond.initialized "java/lang/System").before args s = true)
    {a0 a : Nat} {cA : ClassId} {n0 n1 : Nat} {f g : Nat → Int32} (hc0 : H[a0]? = some (vp_cell cA (n0, .inl f))) (hc1 : H[a]? = some (vp_cell cA (n1, .inl g))) (harr : ArrOfT s cA .int)
    {sp dp n : Int32} (h1 : ¬ sp < 0) (h2 : ¬ dp < 0) (h3 : ¬ n < 0) (h4 : sp.toNatClampNeg + n.toNatClampNeg ≤ n0) (h5 : dp.toNatClampNeg + n.toNatClampNeg ≤ n1)
    (hframes : 1 ≤ R.frames) (hlocals : (rest.map fun v => v.category).sum + (nativeFrameWords "java/lang/System" "arraycopy" 5 + 11) ≤ R.locals) (hdg : decode cc pc = .ok (.invokestatic index, 3))
    (kk : ∀ (H1 : Heap) (locs1 : List Loc), H1.size = H.size → H1[a]? = some (vp_cell cA (n1, .inl (va_cpy f g sp.toNatClampNeg dp.toNatClampNeg n.toNatClampNeg))) → (∀ q, q ≠ a → H1[q]? = H[q]?) → (∀ q ∈ locs1, q ∈ locs ∨ q.base = a) → W p l e R s m args below meth c H1 locs1 cells slots Q (F0 m (pc + 3) ls rest)) : W p l e R s m args below meth c H locs cells slots Q (F0 m pc ls (.int n :: .int dp :: .ref a :: .int sp :: .ref a0 :: rest)) := by
  have nn : ∀ z : Int32, ¬ z < 0 → z.toInt = (z.toNatClampNeg : Int) := by
    intro z hz
    have hz0 : (0 : Int) ≤ z.toInt := by
      have := Int32.not_lt.mp hz
      simpa using Int32.le_iff_toInt_le.mp this
    show z.toInt = ((z.toInt.toNat : Nat) : Int)
    omega
  intro T hT X
  obtain ⟨-, k0, hk0, cm0, hkk0⟩ := harr n0 (fun j => .int (f j))
  obtain ⟨-, k1, hk1, cm1, hkk1⟩ := harr n1 (fun j => .int (g j))
  obtain ⟨vm', X', step⟩ := X.arraycopy hexec hown hlink hnat hstat hini (src := a0) (dst := a) (cs := vp_cell cA (n0, .inl f)) (cd := vp_cell cA (n1, .inl g)) (srcPos := sp) (destPos := dp) (n := n) (by rw [hT]; exact hc0) (by rw [hT]; exact hc1)
    (fun _ h => by cases h) (fun _ h => by cases h) (fun h => by cases h) (fun h => by cases h) hk0 hk1 hkk0 hkk1 (by simp [refKind]) h1 h2 h3
    (by rw [nn sp h1, nn n h3]; show ¬ _ > ((arrV cA n0 (fun j => .int (f j))).slots.size : Int); rw [arrV_size]; omega)
    (by rw [nn dp h2, nn n h3]; show ¬ _ > ((arrV cA n1 (fun j => .int (g j))).slots.size : Int); rw [arrV_size]; omega)
    (fun vm₁ _ i hi => by
      have e : (vp_cell cA (n0, .inl f)).slots.getD (sp.toNatClampNeg + i) .null = .int (f (sp.toNatClampNeg + i)) := by
        show (arrV cA n0 (fun j => .int (f j))).slots.getD _ _ = _
        rw [Array.getD_eq_getD_getElem?, arrV_read _ _ (by omega)]
        rfl
      refine ⟨?_, ?_⟩
      · rw [e]
        rfl
      · rw [e]
        exact trivial)
    (g := F0 m pc ls (.int n :: .int dp :: .ref a :: .int sp :: .ref a0 :: rest)) rfl (by rw [hml]) (rest := rest) rfl (by rw [hb]; exact hdg) hframes (by show 2 * 0 + _ + _ ≤ _; omega)
  have e1 : copied (vp_cell cA (n0, .inl f)) (vp_cell cA (n1, .inl g)) sp dp n = vp_cell cA (n1, .inl (va_cpy f g sp.toNatClampNeg dp.toNatClampNeg n.toNatClampNeg)) := va_copied (fun z => .int z) cA cA f g h4
  rw [e1] at X' step
  have hl : a < H.size := (Array.getElem?_eq_some_iff.mp hc1).1
  have hheap : ((T.setVm vm').setCell a (vp_cell cA (n1, .inl (va_cpy f g sp.toNatClampNeg dp.toNatClampNeg n.toNatClampNeg)))).heap = H.setIfInBounds a (vp_cell cA (n1, .inl (va_cpy f g sp.toNatClampNeg dp.toNatClampNeg n.toNatClampNeg))) := by rw [← hT]; rfl
  obtain ⟨t, a1, b1⟩ := kk _ _ (by simp) (by simp [Array.getElem?_setIfInBounds, hl]) (fun q hq => by simp [Array.getElem?_setIfInBounds, Ne.symm hq]) (fun q hq => by
      rcases List.mem_append.mp hq with h | h
      · exact Or.inl h
      · obtain ⟨z, -, hz⟩ := List.mem_map.mp h
        rw [← hz]
        exact Or.inr rfl) _ hheap X'
  exact ⟨t, step t a1, b1⟩
theorem zcp_iff {σ : zS} {src dst : Nat} {sp dp n : Int32} (h : zcp σ src sp dst dp n = true) : (∃ n0, kd σ src = some (32, n0) ∧ ix sp + ix n ≤ n0) ∧ (∃ n1, kd σ dst = some (32, n1) ∧ ix dp + ix n ≤ n1) ∧ ¬ sp < 0 ∧ ¬ dp < 0 ∧ ¬ n < 0 := by
  unfold zcp at h
  simp only [Bool.and_eq_true, beq_iff_eq, decide_eq_true_eq] at h
  obtain ⟨⟨⟨⟨⟨⟨h1, h2⟩, h3⟩, h4⟩, h5⟩, h6⟩, h7⟩ := h
  have key : ∀ r, tg σ r = 32 → ∃ n0, kd σ r = some (32, n0) ∧ ln σ r = n0 := by
    intro r hr
    unfold tg at hr
    unfold ln
    cases hk : kd σ r with
    | none => rw [hk] at hr; cases hr
    | some q =>
      obtain ⟨t, n0⟩ := q
      rw [hk] at hr
      dsimp only at hr
      subst hr
      exact ⟨n0, rfl, rfl⟩
  have pos : ∀ z : Int32, 0 ≤ z.toInt → ¬ z < 0 := by
    intro z hz
    rw [Int32.lt_iff_toInt_lt]
    have : (0 : Int32).toInt = 0 := rfl
    omega
  obtain ⟨n0, k0, l0⟩ := key src h1
  obtain ⟨n1, k1, l1⟩ := key dst h2
  exact ⟨⟨n0, k0, by omega⟩, ⟨n1, k1, by omega⟩, pos sp h3, pos dp h4, pos n h5⟩
theorem zret_init : ∀ k, k < 339 → (zY k).2.2.2.2.2.1 = 2 → (zY k).2.2.2.1 = none := by decide +kernel
/-! classes -/
theorem zcl_at {t : Nat} (h1 : 1 ≤ t) (h2 : t ≤ 13) : ∃ q : vw_C, vwCl[t - 1]? = some q ∧ (∀ j, zFd t j = ((q.2.1 j).1, (q.2.1 j).2.1, (q.2.1 j).2.2.1)) ∧ zNf t = q.2.2 ∧ zCln t = q.1 ∧ (vwCl.getD (t - 1) ("", TX0, 0)) = q ∧ zcn (t - 1) = q.1 := by
  match t, h1, h2 with
  | 1, _, _ => exact ⟨_, rfl, fun _ => rfl, rfl, rfl, rfl, rfl⟩
  | 2, _, _ => exact ⟨_, rfl, fun _ => rfl, rfl, rfl, rfl, rfl⟩
  | 3, _, _ => exact ⟨_, rfl, fun _ => rfl, rfl, rfl, rfl, rfl⟩
  | 4, _, _ => exact ⟨_, rfl, fun _ => rfl, rfl, rfl, rfl, rfl⟩
  | 5, _, _ => exact ⟨_, rfl, fun _ => rfl, rfl, rfl, rfl, rfl⟩
  | 6, _, _ => exact ⟨_, rfl, fun _ => rfl, rfl, rfl, rfl, rfl⟩
  | 7, _, _ => exact ⟨_, rfl, fun _ => rfl, rfl, rfl, rfl, rfl⟩
  | 8, _, _ => exact ⟨_, rfl, fun _ => rfl, rfl, rfl, rfl, rfl⟩
  | 9, _, _ => exact ⟨_, rfl, fun _ => rfl, rfl, rfl, rfl, rfl⟩
  | 10, _, _ => exact ⟨_, rfl, fun _ => rfl, rfl, rfl, rfl, rfl⟩
  | 11, _, _ => exact ⟨_, rfl, fun _ => rfl, rfl, rfl, rfl, rfl⟩
  | 12, _, _ => exact ⟨_, rfl, fun _ => rfl, rfl, rfl, rfl, rfl⟩
  | 13, _, _ => exact ⟨_, rfl, fun _ => rfl, rfl, rfl, rfl, rfl⟩
theorem zdec : ∀ (c : Nat) (q : vw_C), vwCl[c]? = some q → ∀ j, j < q.2.2 → (q.2.1 j).1 = q.1 := by
  intro c q hq
  match c, hq with
  | 0, hq => cases hq; decide +kernel
  | 1, hq => cases hq; decide +kernel
  | 2, hq => cases hq; decide +kernel
  | 3, hq => cases hq; decide +kernel
  | 4, hq => cases hq; decide +kernel
  | 5, hq => cases hq; decide +kernel
  | 6, hq => cases hq; decide +kernel
  | 7, hq => cases hq; decide +kernel
  | 8, hq => cases hq; decide +kernel
  | 9, hq => cases hq; decide +kernel
  | 10, hq => cases hq; decide +kernel
  | 11, hq => cases hq; decide +kernel
  | 12, hq => cases hq; decide +kernel
  | c + 13, hq => simp [vwCl] at hq
theorem zlay_good (C : String) (T : u_T) (j : Nat) : goodWord (u_lay C T j) = true := by
  unfold u_lay
  split <;> rfl
theorem zlay_ts {args : Array Value} {s : State} (hts : ∀ w ∈ lw_tbl, goodWord w = true → w.before args s = true) {c : Nat} {q : vw_C} (hq : vwCl[c]? = some q) : ∀ w ∈ u_ws q.1 q.2.1 q.2.2, w.before args s = true := by
  intro w hw
  refine hts w ((zcls c q hq).1 w hw) ?_
  unfold u_ws at hw
  obtain ⟨j, -, rfl⟩ := List.mem_map.mp hw
  exact zlay_good _ _ _
section
variable {s0 : State} {ρ : Nat → Nat} {dC : Nat → ClassId} {dI : Nat → Nat → Nat} {dA : Nat → ClassId} {L : Nat} {xs : Nat → Int32} {fo : Option Nat}
theorem zarr_tag {σ : zS} {H : Heap} (hR : zRep s0 ρ dC dI dA L xs fo σ H) {r : Nat} (h : 32 ≤ tg σ r) : ∃ t n, kd σ r = some (t, n) ∧ (t ∈ zwt ∨ t = 48 ∨ t = 49) := by
  unfold tg at h
  cases hk : kd σ r with
  | none => rw [hk] at h; simp at h
  | some q =>
    obtain ⟨t, n⟩ := q
    rw [hk] at h
    refine ⟨t, n, rfl, ?_⟩
    obtain ⟨r1, r2, r3, r4⟩ := hR
    unfold kd at hk
    by_cases hr : r < 6
    · rw [zRo_at r4 hr] at hk
      match r, hr, hk with
      | 0, _, hk => cases hk; exact Or.inr (Or.inl rfl)
      | 1, _, hk => cases hk; exact Or.inr (Or.inl rfl)
      | 2, _, hk => cases hk; simp at h
      | 3, _, hk => cases hk; exact Or.inr (Or.inr rfl)
      | 4, _, hk => cases hk; simp at h
      | 5, _, hk => cases hk; simp at h
    · rcases r3 r t n (by omega) hk with ⟨h1, h2, -⟩ | ⟨h1, -⟩
      · dsimp only at h
        omega
      · exact Or.inl h1
/-- an array's cell, to be written -/
theorem z_own {s : State} {σ : zS} {H : Heap} (hG : zG s0 ρ dC dI dA L xs fo) (hal : s0.vm.Alike s.vm) (hR : zRep s0 ρ dC dI dA L xs fo σ H) {r t n : Nat} (hk : kd σ r = some (t, n)) (ht : t ∈ zwt) : 6 ≤ r ∧ H[ρ r]? = some (arrV (dA t) n (fun j => zel ρ σ t r j)) ∧ s.isArrayOf (arrV (dA t) n (fun j => zel ρ σ t r j)) (zty t) := by
  obtain ⟨g1, gK, -⟩ := hG
  obtain ⟨r1, r2, r3, r4⟩ := hR
  have hb := zwt_big ht
  have h6 : 6 ≤ r := by
    unfold kd at hk
    by_cases hr : r < 6
    · rw [zRo_at r4 hr] at hk
      match r, hr, hk with
      | 0, _, hk => cases hk; exact absurd rfl hb.2.1
      | 1, _, hk => cases hk; exact absurd rfl hb.2.1
      | 2, _, hk => cases hk; omega
      | 3, _, hk => cases hk; exact absurd rfl hb.2.2
      | 4, _, hk => cases hk; omega
      | 5, _, hk => cases hk; omega
    · omega
  refine ⟨h6, ?_⟩
  rcases r3 r t n h6 hk with ⟨h1, h2, -⟩ | ⟨h1, h2⟩
  · omega
  · refine ⟨h2, ?_⟩
    obtain ⟨p, hp⟩ := List.getElem?_of_mem h1
    have hp' : (ztys dA)[p]? = some (dA t, zty t) := by simp [ztys, hp]
    exact (((va_K.moved hal gK).2 p _ hp').1) n _
theorem zlocs {locs : List Loc} {r j : Nat} (hl : ∀ q ∈ locs, s0.heap.size ≤ q.base) (h6 : 6 ≤ r) (hG : zG s0 ρ dC dI dA L xs fo) : ∀ q ∈ locs ++ [(⟨ρ r, j⟩ : Loc)], s0.heap.size ≤ q.base := by
  intro q hq
  rcases List.mem_append.mp hq with h | h
  · exact hl q h
  · rw [List.mem_singleton.mp h]
    show s0.heap.size ≤ ρ r
    rw [hG.1 r h6]
    omega
theorem zstr_ok : ∀ k, (zL k).length ≠ 0 → k < 339 := by
  intro k h
  by_cases q : k < 339
  · exact q
  · exfalso
    apply h
    unfold zL
    have : zLL.length = 339 := by decide +kernel
    rw [List.getD_eq_getElem?_getD, List.getElem?_eq_none (by omega)]
    rfl
/-- an object's cell -/
theorem z_obj {σ : zS} {H : Heap} (hR : zRep s0 ρ dC dI dA L xs fo σ H) {r t : Nat} (h1 : 1 ≤ t) (h2 : t ≤ 13) (ht : tg σ r = t) : ∃ n, 6 ≤ r ∧ σ.1[r]? = some (t, n) ∧ t_OB (ρ r) (dC (t - 1)) (zNf t) (dI (t - 1)) H (fun j => zfv ρ σ t r j) := by
  obtain ⟨r1, r2, r3, r4⟩ := hR
  unfold tg at ht
  cases hk : kd σ r with
  | none => rw [hk] at ht; dsimp only at ht; omega
  | some q =>
    obtain ⟨t', n⟩ := q
    rw [hk] at ht
    dsimp only at ht
    subst ht
    unfold kd at hk
    have h6 : 6 ≤ r := by
      by_cases hr : r < 6
      · rw [zRo_at r4 hr] at hk
        match r, hr, hk with
        | 0, _, hk => cases hk; omega
        | 1, _, hk => cases hk; omega
        | 2, _, hk => cases hk; omega
        | 3, _, hk => cases hk; omega
        | 4, _, hk => cases hk; omega
        | 5, _, hk => cases hk; omega
      · omega
    refine ⟨n, h6, hk, ?_⟩
    rcases r3 r t' n h6 hk with ⟨-, -, h⟩ | ⟨h, -⟩
    · exact h
    · have := zwt_big h
      omega
theorem z_str {σ : zS} {H : Heap} (hR : zRep s0 ρ dC dI dA L xs fo σ H) {r : Nat} (ht : tg σ r = 20) : r = 2 := by
  obtain ⟨r1, r2, r3, r4⟩ := hR
  unfold tg at ht
  cases hk : kd σ r with
  | none => rw [hk] at ht; dsimp only at ht; omega
  | some q =>
    obtain ⟨t', n⟩ := q
    rw [hk] at ht
    dsimp only at ht
    subst ht
    unfold kd at hk
    by_cases hr : r < 6
    · rw [zRo_at r4 hr] at hk
      match r, hr, hk with
      | 0, _, hk => cases hk
      | 1, _, hk => cases hk
      | 2, _, hk => rfl
      | 3, _, hk => cases hk
      | 4, _, hk => cases hk
      | 5, _, hk => cases hk
    · rcases r3 r 20 n (by omega) hk with ⟨-, h, -⟩ | ⟨h, -⟩
      · omega
      · exact absurd h (by decide)
/-- a field, to be read -/
theorem z_getf {s : State} {args : Array Value} {σ : zS} {H : Heap} (hG : zG s0 ρ dC dI dA L xs fo) (hal : s0.vm.Alike s.vm) (hts : ∀ w ∈ lw_tbl, goodWord w = true → w.before args s = true) (hR : zRep s0 ρ dC dI dA L xs fo σ H) {r t j : Nat} (htag : t = 20 ∨ (1 ≤ t ∧ t ≤ 13)) (ht : tg σ r = t) (hj : j < zNf t) : ∃ (cf : ClassId) (k : Class) (i : Nat) (f : Field) (cell : Cell), s.fieldFound? (zFd t j).1 (zFd t j).2.1 (zFd t j).2.2 = some (cf, k, i, f) ∧ f.isStatic = false ∧ H[ρ r]? = some cell ∧ cell.vm ≠ .unknown ∧ cell.slots[f.slot]? = some (zfv ρ σ t r j) := by
  rcases htag with rfl | ⟨h1, h2⟩
  · obtain rfl := z_str hR ht
    obtain ⟨-, -, -, -, -, gv, gc, -⟩ := hG
    obtain ⟨r1, r2, r3, -, o1, o2, o3, o4, o5, o6⟩ := hR
    match j, hj with
    | 0, _ =>
      obtain ⟨cf, k, i, f, cell, q1, q2, q3, q4, q5, -⟩ := va_OF.moved hal gv
      refine ⟨cf, k, i, f, cell, q1, q2, by rw [r2 _ (Array.getElem?_eq_some_iff.mp q3).1]; exact q3, q4, ?_⟩
      rw [q5]
      show some _ = some (va_rf ((gR σ 2 0).map ρ))
      rw [o3]
      rfl
    | 1, _ =>
      obtain ⟨cf, k, i, f, cell, q1, q2, q3, q4, q5, -⟩ := va_OF.moved hal gc
      refine ⟨cf, k, i, f, cell, q1, q2, by rw [r2 _ (Array.getElem?_eq_some_iff.mp q3).1]; exact q3, q4, ?_⟩
      rw [q5]
      show some _ = some (Value.int (gI σ 2 1))
      rw [o4]
  · obtain ⟨q, hq, hfd, hnf, -⟩ := zcl_at h1 h2
    obtain ⟨n, h6, hkd, cell, c1, c2, c3, c4⟩ := z_obj hR h1 h2 ht
    have hKn := (va_K.moved hal hG.2.1).1 (t - 1) q hq
    obtain ⟨hS, hfc, kC, hkC, hkind⟩ := hKn
    rw [hnf] at hj
    obtain ⟨cf, kf, fi, f, hi, hsl⟩ := hS j hj
    have hlw := zlay_ts hts hq
    refine ⟨cf, kf, fi, f, cell, by rw [hfd]; exact hi, (u_facts hfc hkC (u_lays hlw (fun w h => h) hj) hi).1, c1, (by rw [c3]; intro h; cases h), ?_⟩
    rw [hsl]
    exact c4 j (by rw [hnf]; exact hj)
/-- the class of a cell that is put into an array -/
theorem z_comp {s : State} {σ : zS} {H : Heap} (hG : zG s0 ρ dC dI dA L xs fo) (hal : s0.vm.Alike s.vm) (hR : zRep s0 ρ dC dI dA L xs fo σ H) {a b v : Nat} (hab : (a = 68 ∧ b = 4) ∨ (a = 73 ∧ b = 9) ∨ (a = 70 ∧ b = 6) ∨ (a = 69 ∧ b = 5) ∨ (a = 80 ∧ b = 32)) (ht : tg σ v = b) : ∃ (kA kc : Class) (cc : ClassId) (t : FieldType) (cv : Cell), s.vm.classes[dA a]? = some kA ∧ kA.kind = .array cc t ∧ t.isReference = true ∧ s.vm.classes[cc]? = some kc ∧ H[ρ v]? = some cv ∧ (∀ q, cv.vm ≠ .statics q) ∧ cv.cls = cc := by
  have hKs := va_K.moved hal hG.2.1
  have obj : ∀ (b p : Nat) (C : String), 1 ≤ b → b ≤ 13 → tg σ v = b → (ztys dA)[p]? = some (dA a, .object C) → (∀ q, vwCl[b - 1]? = some q → q.1 = C) → ∃ (kA kc : Class) (cc : ClassId) (t : FieldType) (cv : Cell), s.vm.classes[dA a]? = some kA ∧ kA.kind = .array cc t ∧ t.isReference = true ∧ s.vm.classes[cc]? = some kc ∧ H[ρ v]? = some cv ∧ (∀ q, cv.vm ≠ .statics q) ∧ cv.cls = cc := by
    intro b p C h1 h2 ht hp hC
    obtain ⟨q, hq, -⟩ := zcl_at h1 h2
    obtain ⟨n, h6, hkd, cell, c1, c2, c3, c4⟩ := z_obj hR h1 h2 ht
    obtain ⟨hS, hfc, kC, hkC, hkind⟩ := hKs.1 (b - 1) q hq
    obtain ⟨kA, comp, k1, k2, k3, -⟩ := (hKs.2 p _ hp).2
    rw [hC q hq, k3] at hfc
    have hcomp : comp = dC (b - 1) := Option.some.inj hfc
    subst hcomp
    exact ⟨kA, kC, _, _, cell, k1, k2, rfl, hkC, c1, (fun z h => by rw [c3] at h; cases h), c2⟩
  rcases hab with ⟨rfl, rfl⟩ | ⟨rfl, rfl⟩ | ⟨rfl, rfl⟩ | ⟨rfl, rfl⟩ | ⟨rfl, rfl⟩
  · exact obj 4 5 RX3 (by decide) (by decide) ht rfl (fun q h => by cases h; rfl)
  · exact obj 9 6 RX8 (by decide) (by decide) ht rfl (fun q h => by cases h; rfl)
  · exact obj 6 7 RX5 (by decide) (by decide) ht rfl (fun q h => by cases h; rfl)
  · exact obj 5 8 RX4 (by decide) (by decide) ht rfl (fun q h => by cases h; rfl)
  · obtain ⟨kA, kc, h1, h2, h3⟩ := hG.2.2.2.2.2.2.2.2.2.2.2.1
    obtain ⟨kA', hk', he⟩ := hal.2.2 _ _ h1
    obtain ⟨kc', hkc', -⟩ := hal.2.2 _ _ h3
    obtain ⟨t, n, hkd, -⟩ := zarr_tag hR (r := v) (by rw [ht]; decide)
    have : t = 32 := by unfold tg at ht; rw [hkd] at ht; exact ht
    subst this
    obtain ⟨h6, g1, -⟩ := z_own hG hal hR hkd (by decide)
    exact ⟨kA', kc', dA 32, .array .int, _, hk', by rw [he]; exact h2, rfl, hkc', g1, (fun z h => by cases h), rfl⟩
/-- the receiver's cell -/
theorem z_recv {s : State} {σ : zS} {H : Heap} (hG : zG s0 ρ dC dI dA L xs fo) (hal : s0.vm.Alike s.vm) (hR : zRep s0 ρ dC dI dA L xs fo σ H) {r a : Nat} (ha : a ∈ zCal) (hf : (zY a).2.2.2.2.2.1 = 0) (ht : tg σ r = (zmi a).2.2.2.1) : ∃ cell : Cell, H[ρ r]? = some cell ∧ cell.vm.isStatics = false ∧ s.vm.findClass (zY a).1.cls = some cell.cls := by
  have hlt : a < 339 := Nat.lt_succ_of_lt (zCal_lt ha)
  obtain ⟨-, -, -, -, -, h6⟩ := zmok_of hlt
  obtain ⟨-, -, ⟨-, -, -, -, y7⟩, -⟩ := zCal_ok a ha
  have y7 : zcn (zoc a) = (zY a).1.cls := y7
  rcases h6 with h6 | h6
  · rw [hf] at h6; cases h6
  · rw [h6] at ht
    cases hb : Nat.beq (zoc a) 13
    · rw [hb] at ht
      have ht : tg σ r = zoc a + 1 := ht
      have h13 : zoc a ≤ 12 := zoc_small a hlt hf (fun q => by rw [q] at hb; cases hb)
      obtain ⟨q, hq, -, -, -, -, hcn⟩ := zcl_at (t := zoc a + 1) (by omega) (by omega)
      obtain ⟨n, g6, hkd, cell, c1, c2, c3, c4⟩ := z_obj hR (by omega) (by omega) ht
      obtain ⟨-, hfc, -⟩ := (va_K.moved hal hG.2.1).1 _ q hq
      refine ⟨cell, c1, by rw [c3]; rfl, ?_⟩
      rw [← y7, c2, show zcn (zoc a) = q.1 from hcn]
      exact hfc
    · rw [hb] at ht
      have ht : tg σ r = 20 := ht
      obtain rfl := z_str hR ht
      obtain ⟨-, -, -, -, gO, -⟩ := hG
      obtain ⟨cell, c1, c2, c3, -⟩ := va_O.moved hal gO
      refine ⟨cell, by rw [hR.2.1 _ (Array.getElem?_eq_some_iff.mp c1).1]; exact c1, c2, ?_⟩
      rw [← y7, Nat.eq_of_beq_eq_true hb]
      exact c3
theorem zel_upd {σ σ' : zS} {t r i : Nat} {v : Value} (hv : zel ρ σ' t r i = v) (ho : ∀ j, j ≠ i → gI σ' r j = gI σ r j ∧ gL σ' r j = gL σ r j ∧ gR σ' r j = gR σ r j) : updV (fun j => zel ρ σ t r j) i v = fun j => zel ρ σ' t r j := by
  funext j
  unfold updV
  by_cases q : j = i
  · subst q
    simp [hv]
  · rw [if_neg q]
    obtain ⟨h1, h2, h3⟩ := ho j q
    unfold zel
    rw [h1, h2, h3]
theorem zfv_0 {σ : zS} {t r j : Nat} (h : zfk (zFd t j).2.2 = 0) : zfv ρ σ t r j = .int (gI σ r j) := by unfold zfv; rw [h]; rfl
theorem zfv_1 {σ : zS} {t r j : Nat} (h : zfk (zFd t j).2.2 = 1) : zfv ρ σ t r j = .long (gL σ r j) := by unfold zfv; rw [h]; rfl
theorem zfv_2 {σ : zS} {t r j : Nat} (h0 : ¬ zfk (zFd t j).2.2 = 0) (h1 : ¬ zfk (zFd t j).2.2 = 1) : zfv ρ σ t r j = va_rf ((gR σ r j).map ρ) := by
  unfold zfv
  split <;> first | (exfalso; apply h0; assumption) | (exfalso; apply h1; assumption) | rfl
theorem zfv_set {σ σ' : zS} {t r j : Nat} {v : Value} (hv : zfv ρ σ' t r j = v) (ho : ∀ j', j' ≠ j → gI σ' r j' = gI σ r j' ∧ gL σ' r j' = gL σ r j' ∧ gR σ' r j' = gR σ r j') (j' : Nat) : updV (fun j => zfv ρ σ t r j) j v j' = zfv ρ σ' t r j' := by
  unfold updV
  by_cases q : j' = j
  · subst q
    simp [hv]
  · rw [if_neg q]
    obtain ⟨h1, h2, h3⟩ := ho j' q
    unfold zfv
    rw [h1, h2, h3]
/-- a field, to be written -/
theorem z_putf {p : Program} {l : Launch} {e : Env} {R : Room} {s : State} {m : MethodId} {args : Array Value} {below : List Frame} {meth : Method} {c : Code} {H : Heap} {locs : List Loc} {cells slots : Nat} {Q : State → Prop} {cc : ByteArray} {pc : Nat} {ls : Array Slot} {rest : List Value} {σ σ' : zS} (hG : zG s0 ρ dC dI dA L xs fo) (hal : s0.vm.Alike s.vm) (hx : p.tables.exec = Jvm.exec) (hb : c.code = cc) {own : String} {index : Nat} (hown : s.vm.findClass own = some m.cls) (hts : ∀ w ∈ lw_tbl, goodWord w = true → w.before args s = true) (hR : zRep s0 ρ dC dI dA L xs fo σ H) {r t j : Nat} (h1 : 1 ≤ t) (h2 : t ≤ 13) (ht : tg σ r = t) (hj : j < zNf t) (hlink : (Cond.fieldLink own index (zFd t j).1 (zFd t j).2.1 (zFd t j).2.2).before args s = true) (hfin : ((vwCl.getD (t - 1) ("", TX0, 0)).2.1 j).2.2.2 = true → meth.name = "<init>" ∧ own = zcn (t - 1)) {v : Value} (hv : zfv ρ σ' t r j = v) (hfit : ∀ ty, zkt (zFd t j).2.2 ty = true → narrow ty v = v ∧ fits ty v = true) (hK : σ'.1 = σ.1)
    (ho : ∀ r' j', ¬ (r' = r ∧ j' = j) → gI σ' r' j' = gI σ r' j' ∧ gL σ' r' j' = gL σ r' j' ∧ gR σ' r' j' = gR σ r' j') (hlc : ∀ q ∈ locs, s0.heap.size ≤ q.base) (hd : decode cc pc = .ok (.putfield index, 3))
    (kk : ∀ (H1 : Heap) (locs1 : List Loc), zRep s0 ρ dC dI dA L xs fo σ' H1 → (∀ q ∈ locs1, s0.heap.size ≤ q.base) → W p l e R s m args below meth c H1 locs1 cells slots Q (F0 m (pc + 3) ls rest)) : W p l e R s m args below meth c H locs cells slots Q (F0 m pc ls (v :: .ref (ρ r) :: rest)) := by
  obtain ⟨q, hq, hfd, hnf, hcln, hgd, hcn⟩ := zcl_at h1 h2
  obtain ⟨n, h6, hkd, cell, c1, c2, c3, c4⟩ := z_obj hR h1 h2 ht
  have hKs := va_K.moved hal hG.2.1
  obtain ⟨hS, hfc, kC, hkC, hkind⟩ := hKs.1 (t - 1) q hq
  have hj' : j < q.2.2 := by rw [← hnf]; exact hj
  obtain ⟨cf, kf, fi, f, hi, hsl⟩ := hS j hj'
  have hlw := zlay_ts hts hq
  obtain ⟨-, hnm, ty, hty, hkt⟩ := zcls _ q hq
  have hst := (u_facts hfc hkC (u_lays hlw (fun w h => h) hj') hi).1
  have hlay := hlw _ (u_in_lay (C := q.1) (T := q.2.1) hj')
  have hfit' := hfit (ty j) (by rw [hfd]; exact hkt j hj')
  have hap := va_apart (D := (dC, dI)) (own := own) hlw (fun w h => h) ty hty hnm hKs hq
  rw [hfd] at hlink
  have fin : ∀ H1 : Heap, H1[ρ r]? = some (cell.setSlot f.slot v) → H1.size = H.size → (∀ x, x ≠ ρ r → H1[x]? = H[x]?) → zRep s0 ρ dC dI dA L xs fo σ' H1 := fun H1 e1 e2 e3 => by
    rw [hsl] at e1
    refine zRep_set hG hR hK h6 hkd e2 e3 (Or.inl ⟨h1, h2, t_OB.to (V := updV (fun j => zfv ρ σ t r j) j v) ⟨_, e1, c2, c3, ?_⟩ (fun j' _ => zfv_set hv (fun j' hne => ho r j' (fun z => hne z.2)) j')⟩) (fun r' j' hr => (ho r' j' (fun z => hr z.1)).1) (fun r' j' hr => (ho r' j' (fun z => hr z.1)).2.1) (fun r' j' hr => (ho r' j' (fun z => hr z.1)).2.2)
    exact t_set c4 (by rw [hnf]; exact hap) hj v
  unfold u_lay at hlay
  by_cases hf : (q.2.1 j).2.2.2 = true
  · rw [if_pos hf] at hlay
    obtain ⟨hin, hwn⟩ := hfin (by rw [hgd]; exact hf)
    have hcf : m.cls = cf := by
      obtain ⟨_, _, c', _, _, _, -, -, hf', -, -, -, hown2, -⟩ := Cond.laysFinal_spec hlay
      have e1 : c' = cf := by have := hi.symm.trans hf'; simp at this; exact this.1.symm
      rw [zdec _ q hq j hj', ← hcn, ← hwn] at hown2
      rw [← e1]; exact Option.some.inj (hown.symm.trans hown2)
    have h6' := u_fits hfc hkC hkind (Or.inr hlay) hi (hty j hj') hfit'.1 hfit'.2
    exact W.putFinK hx hb hown hlink hi hst hcf hin (by rw [c2]; exact h6') c1 c3 (by rw [hsl]; exact k2_hasslot (c4 j hj)) rfl rfl hd fun H1 e1 e2 e3 => kk H1 _ (fin H1 e1 e2 e3) (zlocs hlc h6 hG)
  · rw [if_neg hf] at hlay
    have h6' := u_store hfc hkC hkind hlay hi (hty j hj') hfit'.1 hfit'.2
    exact W.putK hx hb (f := f) ⟨hown, hlink, ⟨_, _, _, hi⟩, hst⟩ (by rw [c2]; exact h6') c1 c3 (by rw [hsl]; exact k2_hasslot (c4 j hj)) rfl rfl hd fun H1 e1 e2 e3 => kk H1 _ (fin H1 e1 e2 e3) (zlocs hlc h6 hG)
theorem zkt_int {d : String} {ty : FieldType} (h0 : zfk d = 0) (h : zkt d ty = true) (v : Int32) : narrow ty (.int v) = .int v ∧ fits ty (.int v) = true := by
  unfold zkt at h
  rw [h0] at h
  cases ty <;> first | exact ⟨rfl, rfl⟩ | (simp at h)
theorem zkt_long {d : String} {ty : FieldType} (h0 : zfk d = 1) (h : zkt d ty = true) (v : Int64) : narrow ty (.long v) = .long v ∧ fits ty (.long v) = true := by
  unfold zkt at h
  rw [h0] at h
  cases ty <;> first | exact ⟨rfl, rfl⟩ | (simp at h)
theorem zkt_ref {d : String} {ty : FieldType} (h0 : zfk d = 2) (h : zkt d ty = true) (v : Nat) : narrow ty (.ref v) = .ref v ∧ fits ty (.ref v) = true := by
  unfold zkt at h
  rw [h0] at h
  cases ty <;> first | exact ⟨rfl, rfl⟩ | (simp at h)
theorem zkt_def {d : String} {ty : FieldType} (h : zkt d ty = true) (ρ : Nat → Nat) : defaultValue ty = match zfk d with
    | 0 => Value.int 0
    | 1 => .long 0
    | _ => va_rf ((none : Option Nat).map ρ) := by
  unfold zkt at h
  split at h <;> first | (rename_i q; rw [q]; rfl) | (simp at h)
set_option maxHeartbeats 8000000 in
set_option maxRecDepth 100000 in
theorem z_step (hG : zG s0 ρ dC dI dA L xs fo) {n : Nat} (hn : zSound s0 ρ dC dI dA L xs fo n) : zSound s0 ρ dC dI dA L xs fo (n + 1) := by
  intro d k i cl st σ v σ' b h hbp p l e R s m args below meth c Q H locs cells slots ls E F hFr hfr hlo hd1 hC hS hR hlc hls hce hsl hQ hcl
  rw [zf_succ] at h
  cases hen : (zL k)[i]? with
  | none => rw [hen] at h; cases h
  | some en =>
    rw [hen] at h
    dsimp only at h
    have hk339 : k < 339 := zstr_ok k (fun q => by rw [List.length_eq_zero_iff.mp q] at hen; simp at hen)
    have hck := zck_of hen
    obtain ⟨b0, ins, nx, a, b1, c0, cI, cL⟩ := en
    have hb0 : b0 = b := by
      unfold zbp at hbp
      rw [hen] at hbp
      exact Option.some.inj hbp
    subst hb0
    unfold zck at hck
    dsimp only at hck
    rw [Bool.and_eq_true] at hck
    obtain ⟨hd, hck⟩ := hck
    have hd := of_decide_eq_true hd
    obtain ⟨hx, hb, hml, hown, hts, hini, hU⟩ := id hFr
    have hal := hU.1
    have K : ∀ (i' : Nat) (cl' : List (Option Value)) (st' : List Value) (σ1 : zS) (b' : Nat), zf n d k i' cl' st' σ1 = some (v, σ') → zbp k i' = some b' → ∀ (H1 : Heap) (locs1 : List Loc) (ls1 : Array Slot) (cells1 slots1 : Nat), zRep s0 ρ dC dI dA L xs fo σ1 H1 → (∀ q ∈ locs1, s0.heap.size ≤ q.base) → lv_has ls1 (zY k).2.2.1 (zlv ρ cl') → cells1 + E = σ1.1.length → slots1 + F = zsl σ1 → cl'.length = (zY k).2.2.1 → W p l e R s m args below meth c H1 locs1 cells1 slots1 Q (F0 m b' ls1 (st'.map (zmv ρ))) := fun i' cl' st' σ1 b' h1 h2 H1 locs1 ls1 cells1 slots1 h3 h4 h5 h6 h7 h8 => hn d k i' cl' st' σ1 v σ' b' h1 h2 p l e R s m args below meth c Q H1 locs1 cells1 slots1 ls1 E F hFr hfr hlo hd1 hC hS h3 h4 h5 h6 h7 hQ h8
    have K0 : ∀ (i' : Nat) (cl' : List (Option Value)) (st' : List Value) (b' : Nat), zf n d k i' cl' st' σ = some (v, σ') → zbp k i' = some b' → ∀ (ls1 : Array Slot), lv_has ls1 (zY k).2.2.1 (zlv ρ cl') → cl'.length = (zY k).2.2.1 → W p l e R s m args below meth c H locs cells slots Q (F0 m b' ls1 (st'.map (zmv ρ))) := fun i' cl' st' b' h1 h2 ls1 h5 h8 => K i' cl' st' σ b' h1 h2 H locs ls1 cells slots hR hlc h5 hce hsl h8
    cases ins with
    | iconst n0 =>
      dsimp only at hck
      (try simp only [Bool.and_eq_true, Bool.or_eq_true, decide_eq_true_eq] at hck)
      exact lv_iconst hx hb hd hck.1 (K0 _ _ _ _ h hck.2 ls hls hcl)
    | bipush n0 =>
      dsimp only at hck
      (try simp only [Bool.and_eq_true, Bool.or_eq_true, decide_eq_true_eq] at hck)
      exact lv_bipush hx hb hd hck.1 (K0 _ _ _ _ h hck.2 ls hls hcl)
    | sipush n0 =>
      dsimp only at hck
      (try simp only [Bool.and_eq_true, Bool.or_eq_true, decide_eq_true_eq] at hck)
      exact lv_sipush hx hb hd hck.1 (K0 _ _ _ _ h hck.2 ls hls hcl)
    | lconst n0 =>
      dsimp only at hck
      (try simp only [Bool.and_eq_true, Bool.or_eq_true, decide_eq_true_eq] at hck)
      exact lv_lconst hx hb hd hck.1 (K0 _ _ _ _ h hck.2 ls hls hcl)
    | ldc_w n0 =>
      dsimp only at hck
      (try simp only [Bool.and_eq_true, Bool.or_eq_true, decide_eq_true_eq] at hck)
      exact lv_ldcw hx hb hown (hts _ (zCI_ok _ (List.elem_iff.mp hck.1)) rfl) hd (K0 _ _ _ _ h hck.2 ls hls hcl)
    | ldc2_w n0 =>
      dsimp only at hck
      (try simp only [Bool.and_eq_true, Bool.or_eq_true, decide_eq_true_eq] at hck)
      exact lv_ldc2 hx hb hown (hts _ (zCJ_ok _ (List.elem_iff.mp hck.1)) rfl) hd (K0 _ _ _ _ h hck.2 ls hls hcl)
    | ldc n0 =>
      dsimp only at hck
      (try simp only [Bool.and_eq_true, Bool.or_eq_true, decide_eq_true_eq] at hck)
      unfold zstep zx at h
      dsimp only at h
      cases ha : Nat.beq a 0
      · rw [ha] at h hck
        simp only [cond_false, Bool.or_eq_true, decide_eq_true_eq] at hck
        obtain ⟨⟨q1, q2⟩, hck2⟩ := hck
        subst q2
        have hown' : s.vm.findClass "ThreeSizes$Tokens" = some m.cls := by rw [q1] at hown; exact hown
        exact va_ldcS hx hb hown' hU.2.1 hd (K0 _ _ _ _ h hck2 ls hls hcl)
      · rw [ha] at h hck
        exact lv_ldc hx hb hown (hts _ (zCI_ok _ (List.elem_iff.mp hck.1)) rfl) hd (K0 _ _ _ _ h hck.2 ls hls hcl)
    | iload n0 =>
      dsimp only at hck
      (try simp only [Bool.and_eq_true, Bool.or_eq_true, decide_eq_true_eq] at hck)
      unfold zstep zx at h
      dsimp only at h
      split at h
      · rename_i hz
        exact lv_iload hx hb hd (zlv_at hls hz) (K0 _ _ _ _ h hck ls hls hcl)
      · (have h2 : (none : zO) = some (v, σ') := h; cases h2)
    | lload n0 =>
      dsimp only at hck
      (try simp only [Bool.and_eq_true, Bool.or_eq_true, decide_eq_true_eq] at hck)
      unfold zstep zx at h
      dsimp only at h
      split at h
      · rename_i hz
        exact lv_lload hx hb hd (zlv_at hls hz) (K0 _ _ _ _ h hck ls hls hcl)
      · (have h2 : (none : zO) = some (v, σ') := h; cases h2)
    | iload_n n0 =>
      dsimp only at hck
      (try simp only [Bool.and_eq_true, Bool.or_eq_true, decide_eq_true_eq] at hck)
      unfold zstep zx at h
      dsimp only at h
      split at h
      · rename_i hz
        exact lv_iload_n hx hb hd rfl (zlv_at hls hz) (K0 _ _ _ _ h hck ls hls hcl)
      · (have h2 : (none : zO) = some (v, σ') := h; cases h2)
    | lload_n n0 =>
      dsimp only at hck
      (try simp only [Bool.and_eq_true, Bool.or_eq_true, decide_eq_true_eq] at hck)
      unfold zstep zx at h
      dsimp only at h
      split at h
      · rename_i hz
        exact lv_lload_n hx hb hd rfl (zlv_at hls hz) (K0 _ _ _ _ h hck ls hls hcl)
      · (have h2 : (none : zO) = some (v, σ') := h; cases h2)
    | aload n0 =>
      dsimp only at hck
      (try simp only [Bool.and_eq_true, Bool.or_eq_true, decide_eq_true_eq] at hck)
      unfold zstep zx at h
      dsimp only at h
      split at h
      · rename_i hz
        exact lv_aload hx hb hd (zlv_at hls hz) (K0 _ _ _ _ h hck ls hls hcl)
      · rename_i hz
        exact lv_aloadN hx hb hd (zlv_at hls hz) (K0 _ _ _ _ h hck ls hls hcl)
      · (have h2 : (none : zO) = some (v, σ') := h; cases h2)
    | aload_n n0 =>
      dsimp only at hck
      (try simp only [Bool.and_eq_true, Bool.or_eq_true, decide_eq_true_eq] at hck)
      unfold zstep zx at h
      dsimp only at h
      split at h
      · rename_i hz
        exact lv_aload_n hx hb hd rfl (zlv_at hls hz) (K0 _ _ _ _ h hck ls hls hcl)
      · rename_i hz
        exact lv_aload_nN hx hb hd rfl (zlv_at hls hz) (K0 _ _ _ _ h hck ls hls hcl)
      · (have h2 : (none : zO) = some (v, σ') := h; cases h2)
    | istore n0 =>
      dsimp only at hck
      (try simp only [Bool.and_eq_true, Bool.or_eq_true, decide_eq_true_eq] at hck)
      unfold zstep zx at h
      dsimp only at h
      split at h
      · rcases (show _ ∨ _ from zbif_of h) with ⟨hc, h9⟩ | ⟨hc, h9⟩ <;> clear h <;> (have h := h9; clear h9)
        · exact lv_istore hx hb hd hls (by rw [← hcl]; exact Nat.le_of_ble_eq_true hc) rfl (fun ls1 hl1 => K0 _ _ _ _ h hck ls1 (zlv_st1 (v := .int _) hl1) (by rw [← hcl]; exact zst1_len _ _ _))
        · (have h2 : (none : zO) = some (v, σ') := h; cases h2)
      · (have h2 : (none : zO) = some (v, σ') := h; cases h2)
    | istore_n n0 =>
      dsimp only at hck
      (try simp only [Bool.and_eq_true, Bool.or_eq_true, decide_eq_true_eq] at hck)
      unfold zstep zx at h
      dsimp only at h
      split at h
      · rcases (show _ ∨ _ from zbif_of h) with ⟨hc, h9⟩ | ⟨hc, h9⟩ <;> clear h <;> (have h := h9; clear h9)
        · exact lv_istore_n hx hb hd rfl hls (by rw [← hcl]; exact Nat.le_of_ble_eq_true hc) rfl (fun ls1 hl1 => K0 _ _ _ _ h hck ls1 (zlv_st1 (v := .int _) hl1) (by rw [← hcl]; exact zst1_len _ _ _))
        · (have h2 : (none : zO) = some (v, σ') := h; cases h2)
      · (have h2 : (none : zO) = some (v, σ') := h; cases h2)
    | lstore n0 =>
      dsimp only at hck
      (try simp only [Bool.and_eq_true, Bool.or_eq_true, decide_eq_true_eq] at hck)
      unfold zstep zx at h
      dsimp only at h
      split at h
      · rcases (show _ ∨ _ from zbif_of h) with ⟨hc, h9⟩ | ⟨hc, h9⟩ <;> clear h <;> (have h := h9; clear h9)
        · exact lv_lstore hx hb hd hls (by rw [← hcl]; exact Nat.le_of_ble_eq_true hc) rfl (fun ls1 hl1 => K0 _ _ _ _ h hck ls1 (zlv_st2 (v := .long _) hl1) (by rw [← hcl]; exact zst2_len _ _ _))
        · (have h2 : (none : zO) = some (v, σ') := h; cases h2)
      · (have h2 : (none : zO) = some (v, σ') := h; cases h2)
    | lstore_n n0 =>
      dsimp only at hck
      (try simp only [Bool.and_eq_true, Bool.or_eq_true, decide_eq_true_eq] at hck)
      unfold zstep zx at h
      dsimp only at h
      split at h
      · rcases (show _ ∨ _ from zbif_of h) with ⟨hc, h9⟩ | ⟨hc, h9⟩ <;> clear h <;> (have h := h9; clear h9)
        · exact lv_lstore_n hx hb hd rfl hls (by rw [← hcl]; exact Nat.le_of_ble_eq_true hc) rfl (fun ls1 hl1 => K0 _ _ _ _ h hck ls1 (zlv_st2 (v := .long _) hl1) (by rw [← hcl]; exact zst2_len _ _ _))
        · (have h2 : (none : zO) = some (v, σ') := h; cases h2)
      · (have h2 : (none : zO) = some (v, σ') := h; cases h2)
    | astore n0 =>
      dsimp only at hck
      (try simp only [Bool.and_eq_true, Bool.or_eq_true, decide_eq_true_eq] at hck)
      unfold zstep zx at h
      dsimp only at h
      split at h
      · rcases (show _ ∨ _ from zbif_of h) with ⟨hc, h9⟩ | ⟨hc, h9⟩ <;> clear h <;> (have h := h9; clear h9)
        · exact lv_astore hx hb hd hls (by rw [← hcl]; exact Nat.le_of_ble_eq_true hc) rfl (fun ls1 hl1 => K0 _ _ _ _ h hck ls1 (zlv_st1 (v := .ref _) hl1) (by rw [← hcl]; exact zst1_len _ _ _))
        · (have h2 : (none : zO) = some (v, σ') := h; cases h2)
      · (have h2 : (none : zO) = some (v, σ') := h; cases h2)
    | astore_n n0 =>
      dsimp only at hck
      (try simp only [Bool.and_eq_true, Bool.or_eq_true, decide_eq_true_eq] at hck)
      unfold zstep zx at h
      dsimp only at h
      split at h
      · rcases (show _ ∨ _ from zbif_of h) with ⟨hc, h9⟩ | ⟨hc, h9⟩ <;> clear h <;> (have h := h9; clear h9)
        · exact lv_astore_n hx hb hd rfl hls (by rw [← hcl]; exact Nat.le_of_ble_eq_true hc) rfl (fun ls1 hl1 => K0 _ _ _ _ h hck ls1 (zlv_st1 (v := .ref _) hl1) (by rw [← hcl]; exact zst1_len _ _ _))
        · (have h2 : (none : zO) = some (v, σ') := h; cases h2)
      · (have h2 : (none : zO) = some (v, σ') := h; cases h2)
    | iinc n0 n1 =>
      dsimp only at hck
      (try simp only [Bool.and_eq_true, Bool.or_eq_true, decide_eq_true_eq] at hck)
      unfold zstep zx at h
      dsimp only at h
      split at h
      · rename_i hz
        rcases (show _ ∨ _ from zbif_of h) with ⟨hc, h9⟩ | ⟨hc, h9⟩ <;> clear h <;> (have h := h9; clear h9)
        · obtain ⟨q, hq⟩ := List.getElem?_of_mem (zlv_mem.mpr ⟨_, hz, rfl⟩)
          exact lv_iinc hx hb hd hls hq (by rw [hck.1]) (by rw [← hcl]; exact Nat.le_of_ble_eq_true hc) rfl (fun ls1 hl1 => K0 _ _ _ _ h hck.2 ls1 (zlv_st1 (v := .int _) hl1) (by rw [← hcl]; exact zst1_len _ _ _))
        · (have h2 : (none : zO) = some (v, σ') := h; cases h2)
      · (have h2 : (none : zO) = some (v, σ') := h; cases h2)
    | iadd =>
      dsimp only at hck
      (try simp only [Bool.and_eq_true, Bool.or_eq_true, decide_eq_true_eq] at hck)
      unfold zstep zx at h
      dsimp only at h
      split at h
      · exact lv_iadd hx hb hd (K0 _ _ _ _ h hck ls hls hcl)
      · (have h2 : (none : zO) = some (v, σ') := h; cases h2)
    | isub =>
      dsimp only at hck
      (try simp only [Bool.and_eq_true, Bool.or_eq_true, decide_eq_true_eq] at hck)
      unfold zstep zx at h
      dsimp only at h
      split at h
      · exact lv_isub hx hb hd (K0 _ _ _ _ h hck ls hls hcl)
      · (have h2 : (none : zO) = some (v, σ') := h; cases h2)
    | imul =>
      dsimp only at hck
      (try simp only [Bool.and_eq_true, Bool.or_eq_true, decide_eq_true_eq] at hck)
      unfold zstep zx at h
      dsimp only at h
      split at h
      · exact lv_imul hx hb hd (K0 _ _ _ _ h hck ls hls hcl)
      · (have h2 : (none : zO) = some (v, σ') := h; cases h2)
    | iand =>
      dsimp only at hck
      (try simp only [Bool.and_eq_true, Bool.or_eq_true, decide_eq_true_eq] at hck)
      unfold zstep zx at h
      dsimp only at h
      split at h
      · exact lv_iand hx hb hd (K0 _ _ _ _ h hck ls hls hcl)
      · (have h2 : (none : zO) = some (v, σ') := h; cases h2)
    | ior =>
      dsimp only at hck
      (try simp only [Bool.and_eq_true, Bool.or_eq_true, decide_eq_true_eq] at hck)
      unfold zstep zx at h
      dsimp only at h
      split at h
      · exact lv_ior hx hb hd (K0 _ _ _ _ h hck ls hls hcl)
      · (have h2 : (none : zO) = some (v, σ') := h; cases h2)
    | ixor =>
      dsimp only at hck
      (try simp only [Bool.and_eq_true, Bool.or_eq_true, decide_eq_true_eq] at hck)
      unfold zstep zx at h
      dsimp only at h
      split at h
      · exact lv_ixor hx hb hd (K0 _ _ _ _ h hck ls hls hcl)
      · (have h2 : (none : zO) = some (v, σ') := h; cases h2)
    | ishl =>
      dsimp only at hck
      (try simp only [Bool.and_eq_true, Bool.or_eq_true, decide_eq_true_eq] at hck)
      unfold zstep zx at h
      dsimp only at h
      split at h
      · exact lv_ishl hx hb hd (K0 _ _ _ _ h hck ls hls hcl)
      · (have h2 : (none : zO) = some (v, σ') := h; cases h2)
    | ishr =>
      dsimp only at hck
      (try simp only [Bool.and_eq_true, Bool.or_eq_true, decide_eq_true_eq] at hck)
      unfold zstep zx at h
      dsimp only at h
      split at h
      · exact lv_ishr hx hb hd (K0 _ _ _ _ h hck ls hls hcl)
      · (have h2 : (none : zO) = some (v, σ') := h; cases h2)
    | ladd =>
      dsimp only at hck
      (try simp only [Bool.and_eq_true, Bool.or_eq_true, decide_eq_true_eq] at hck)
      unfold zstep zx at h
      dsimp only at h
      split at h
      · exact lv_ladd hx hb hd (K0 _ _ _ _ h hck ls hls hcl)
      · (have h2 : (none : zO) = some (v, σ') := h; cases h2)
    | lsub =>
      dsimp only at hck
      (try simp only [Bool.and_eq_true, Bool.or_eq_true, decide_eq_true_eq] at hck)
      unfold zstep zx at h
      dsimp only at h
      split at h
      · exact lv_lsub hx hb hd (K0 _ _ _ _ h hck ls hls hcl)
      · (have h2 : (none : zO) = some (v, σ') := h; cases h2)
    | lmul =>
      dsimp only at hck
      (try simp only [Bool.and_eq_true, Bool.or_eq_true, decide_eq_true_eq] at hck)
      unfold zstep zx at h
      dsimp only at h
      split at h
      · exact lv_lmul hx hb hd (K0 _ _ _ _ h hck ls hls hcl)
      · (have h2 : (none : zO) = some (v, σ') := h; cases h2)
    | lxor =>
      dsimp only at hck
      (try simp only [Bool.and_eq_true, Bool.or_eq_true, decide_eq_true_eq] at hck)
      unfold zstep zx at h
      dsimp only at h
      split at h
      · exact lv_lxor hx hb hd (K0 _ _ _ _ h hck ls hls hcl)
      · (have h2 : (none : zO) = some (v, σ') := h; cases h2)
    | iushr =>
      dsimp only at hck
      (try simp only [Bool.and_eq_true, Bool.or_eq_true, decide_eq_true_eq] at hck)
      unfold zstep zx at h
      dsimp only at h
      split at h
      · exact lv_iushr hx hb hd rfl (K0 _ _ _ _ h hck ls hls hcl)
      · (have h2 : (none : zO) = some (v, σ') := h; cases h2)
    | idiv =>
      dsimp only at hck
      (try simp only [Bool.and_eq_true, Bool.or_eq_true, decide_eq_true_eq] at hck)
      unfold zstep zx at h
      dsimp only at h
      split at h
      · rcases (show _ ∨ _ from zite_of h) with ⟨hc, h9⟩ | ⟨hc, h9⟩ <;> clear h <;> (have h := h9; clear h9)
        · (have h2 : (none : zO) = some (v, σ') := h; cases h2)
        · exact lv_idiv hx hb hd hc (K0 _ _ _ _ h hck ls hls hcl)
      · (have h2 : (none : zO) = some (v, σ') := h; cases h2)
    | irem =>
      dsimp only at hck
      (try simp only [Bool.and_eq_true, Bool.or_eq_true, decide_eq_true_eq] at hck)
      unfold zstep zx at h
      dsimp only at h
      split at h
      · rcases (show _ ∨ _ from zite_of h) with ⟨hc, h9⟩ | ⟨hc, h9⟩ <;> clear h <;> (have h := h9; clear h9)
        · (have h2 : (none : zO) = some (v, σ') := h; cases h2)
        · exact lv_irem hx hb hd hc (K0 _ _ _ _ h hck ls hls hcl)
      · (have h2 : (none : zO) = some (v, σ') := h; cases h2)
    | ldiv =>
      dsimp only at hck
      (try simp only [Bool.and_eq_true, Bool.or_eq_true, decide_eq_true_eq] at hck)
      unfold zstep zx at h
      dsimp only at h
      split at h
      · rcases (show _ ∨ _ from zite_of h) with ⟨hc, h9⟩ | ⟨hc, h9⟩ <;> clear h <;> (have h := h9; clear h9)
        · (have h2 : (none : zO) = some (v, σ') := h; cases h2)
        · exact lv_ldiv hx hb hd hc (K0 _ _ _ _ h hck ls hls hcl)
      · (have h2 : (none : zO) = some (v, σ') := h; cases h2)
    | lrem =>
      dsimp only at hck
      (try simp only [Bool.and_eq_true, Bool.or_eq_true, decide_eq_true_eq] at hck)
      unfold zstep zx at h
      dsimp only at h
      split at h
      · rcases (show _ ∨ _ from zite_of h) with ⟨hc, h9⟩ | ⟨hc, h9⟩ <;> clear h <;> (have h := h9; clear h9)
        · (have h2 : (none : zO) = some (v, σ') := h; cases h2)
        · exact lv_lrem hx hb hd hc (K0 _ _ _ _ h hck ls hls hcl)
      · (have h2 : (none : zO) = some (v, σ') := h; cases h2)
    | lcmp =>
      dsimp only at hck
      (try simp only [Bool.and_eq_true, Bool.or_eq_true, decide_eq_true_eq] at hck)
      unfold zstep zx at h
      dsimp only at h
      split at h
      · exact W.lcmp hx hb hd (K0 _ _ _ _ h hck ls hls hcl)
      · (have h2 : (none : zO) = some (v, σ') := h; cases h2)
    | i2l =>
      dsimp only at hck
      (try simp only [Bool.and_eq_true, Bool.or_eq_true, decide_eq_true_eq] at hck)
      unfold zstep zx at h
      dsimp only at h
      split at h
      · exact lv_i2l hx hb hd rfl (K0 _ _ _ _ h hck ls hls hcl)
      · (have h2 : (none : zO) = some (v, σ') := h; cases h2)
    | l2i =>
      dsimp only at hck
      (try simp only [Bool.and_eq_true, Bool.or_eq_true, decide_eq_true_eq] at hck)
      unfold zstep zx at h
      dsimp only at h
      split at h
      · exact lv_l2i hx hb hd rfl (K0 _ _ _ _ h hck ls hls hcl)
      · (have h2 : (none : zO) = some (v, σ') := h; cases h2)
    | i2b =>
      dsimp only at hck
      (try simp only [Bool.and_eq_true, Bool.or_eq_true, decide_eq_true_eq] at hck)
      unfold zstep zx at h
      dsimp only at h
      split at h
      · exact lv_i2b hx hb hd rfl (K0 _ _ _ _ h hck ls hls hcl)
      · (have h2 : (none : zO) = some (v, σ') := h; cases h2)
    | i2c =>
      dsimp only at hck
      (try simp only [Bool.and_eq_true, Bool.or_eq_true, decide_eq_true_eq] at hck)
      unfold zstep zx at h
      dsimp only at h
      split at h
      · exact lv_i2c hx hb hd rfl (K0 _ _ _ _ h hck ls hls hcl)
      · (have h2 : (none : zO) = some (v, σ') := h; cases h2)
    | dup =>
      dsimp only at hck
      (try simp only [Bool.and_eq_true, Bool.or_eq_true, decide_eq_true_eq] at hck)
      unfold zstep zx at h
      dsimp only at h
      split at h
      · exact lv_dup hx hb hd rfl (K0 _ _ _ _ h hck ls hls hcl)
      · exact lv_dup hx hb hd rfl (K0 _ _ _ _ h hck ls hls hcl)
      · (have h2 : (none : zO) = some (v, σ') := h; cases h2)
    | dup2 =>
      dsimp only at hck
      (try simp only [Bool.and_eq_true, Bool.or_eq_true, decide_eq_true_eq] at hck)
      unfold zstep zx at h
      dsimp only at h
      split at h
      · exact lv_dup2_11 hx hb hd rfl rfl (K0 _ _ _ _ h hck ls hls hcl)
      · (have h2 : (none : zO) = some (v, σ') := h; cases h2)
    | pop =>
      dsimp only at hck
      (try simp only [Bool.and_eq_true, Bool.or_eq_true, decide_eq_true_eq] at hck)
      unfold zstep zx at h
      dsimp only at h
      split at h
      · exact lv_pop hx hb hd rfl (K0 _ _ _ _ h hck ls hls hcl)
      · (have h2 : (none : zO) = some (v, σ') := h; cases h2)
    | goto n0 =>
      dsimp only at hck
      (try simp only [Bool.and_eq_true, Bool.or_eq_true, decide_eq_true_eq] at hck)
      obtain ⟨tb, ht1, ht2⟩ := zjmp_of hck
      exact lv_goto hx hb hd ht2 (K0 _ _ _ _ h ht1 ls hls hcl)
    | ifCond n0 n1 =>
      dsimp only at hck
      (try simp only [Bool.and_eq_true, Bool.or_eq_true, decide_eq_true_eq] at hck)
      obtain ⟨tb, ht1, ht2⟩ := zjmp_of hck.1
      have hn1 := hck.2
      unfold zstep zx at h
      dsimp only at h
      split at h
      · cases n0 <;> dsimp only at h
        · exact lv_if_eq hx hb hd ht2 (fun q => K0 _ _ _ _ (by rw [if_pos q] at h; exact h) ht1 ls hls hcl) (fun q => K0 _ _ _ _ (by rw [if_neg q] at h; exact h) hn1 ls hls hcl)
        · exact lv_if_ne hx hb hd ht2 (fun q => K0 _ _ _ _ (by rw [if_neg q] at h; exact h) ht1 ls hls hcl) (fun q => K0 _ _ _ _ (by rw [if_pos q] at h; exact h) hn1 ls hls hcl)
        · exact lv_if_lt hx hb hd ht2 (fun q => K0 _ _ _ _ (by rw [if_pos q] at h; exact h) ht1 ls hls hcl) (fun q => K0 _ _ _ _ (by rw [if_neg q] at h; exact h) hn1 ls hls hcl)
        · exact lv_if_ge hx hb hd ht2 (fun q => K0 _ _ _ _ (by rw [if_pos q] at h; exact h) ht1 ls hls hcl) (fun q => K0 _ _ _ _ (by rw [if_neg q] at h; exact h) hn1 ls hls hcl)
        · exact lv_if_gt hx hb hd ht2 (fun q => K0 _ _ _ _ (by rw [if_pos q] at h; exact h) ht1 ls hls hcl) (fun q => K0 _ _ _ _ (by rw [if_neg q] at h; exact h) hn1 ls hls hcl)
        · exact lv_if_le hx hb hd ht2 (fun q => K0 _ _ _ _ (by rw [if_pos q] at h; exact h) ht1 ls hls hcl) (fun q => K0 _ _ _ _ (by rw [if_neg q] at h; exact h) hn1 ls hls hcl)
      · (have h2 : (none : zO) = some (v, σ') := h; cases h2)
    | if_icmp n0 n1 =>
      dsimp only at hck
      (try simp only [Bool.and_eq_true, Bool.or_eq_true, decide_eq_true_eq] at hck)
      obtain ⟨tb, ht1, ht2⟩ := zjmp_of hck.1
      have hn1 := hck.2
      unfold zstep zx at h
      dsimp only at h
      split at h
      · cases n0 <;> dsimp only at h
        · exact lv_icmp_eq hx hb hd ht2 (fun q => K0 _ _ _ _ (by rw [if_pos q] at h; exact h) ht1 ls hls hcl) (fun q => K0 _ _ _ _ (by rw [if_neg q] at h; exact h) hn1 ls hls hcl)
        · exact lv_icmp_ne hx hb hd ht2 (fun q => K0 _ _ _ _ (by rw [if_neg q] at h; exact h) ht1 ls hls hcl) (fun q => K0 _ _ _ _ (by rw [if_pos q] at h; exact h) hn1 ls hls hcl)
        · exact lv_icmp_lt hx hb hd ht2 (fun q => K0 _ _ _ _ (by rw [if_pos q] at h; exact h) ht1 ls hls hcl) (fun q => K0 _ _ _ _ (by rw [if_neg q] at h; exact h) hn1 ls hls hcl)
        · exact lv_icmp_ge hx hb hd ht2 (fun q => K0 _ _ _ _ (by rw [if_pos q] at h; exact h) ht1 ls hls hcl) (fun q => K0 _ _ _ _ (by rw [if_neg q] at h; exact h) hn1 ls hls hcl)
        · exact lv_icmp_gt hx hb hd ht2 (fun q => K0 _ _ _ _ (by rw [if_pos q] at h; exact h) ht1 ls hls hcl) (fun q => K0 _ _ _ _ (by rw [if_neg q] at h; exact h) hn1 ls hls hcl)
        · exact lv_icmp_le hx hb hd ht2 (fun q => K0 _ _ _ _ (by rw [if_pos q] at h; exact h) ht1 ls hls hcl) (fun q => K0 _ _ _ _ (by rw [if_neg q] at h; exact h) hn1 ls hls hcl)
      · (have h2 : (none : zO) = some (v, σ') := h; cases h2)
    | ifnull n0 =>
      dsimp only at hck
      (try simp only [Bool.and_eq_true, Bool.or_eq_true, decide_eq_true_eq] at hck)
      obtain ⟨tb, ht1, ht2⟩ := zjmp_of hck.1
      unfold zstep zx at h
      dsimp only at h
      split at h
      · exact lv_ifnullN hx hb hd ht2 (K0 _ _ _ _ h ht1 ls hls hcl)
      · exact lv_ifnull hx hb hd (K0 _ _ _ _ h hck.2 ls hls hcl)
      · (have h2 : (none : zO) = some (v, σ') := h; cases h2)
    | tableswitch df lo hi offs =>
      dsimp only at hck
      (try simp only [Bool.and_eq_true, Bool.or_eq_true, decide_eq_true_eq] at hck)
      unfold zstep zx at h
      dsimp only at h
      split at h
      · obtain ⟨⟨hT, hJ⟩, hhi⟩ := hck
        rename_i x st1
        rw [zdo_zsw] at h
        obtain ⟨t, h2, hh⟩ := zsw_pick h
        rcases hh with ⟨j, hj⟩ | ⟨rfl, hno⟩
        · obtain ⟨o, ho, hv, hz⟩ := zckT_at _ _ _ hT j _ _ hj
          obtain ⟨tb, ht1, ht2⟩ := zjmp_of hz
          have hjl : j < offs.size := by
            have := (List.getElem?_eq_some_iff.mp ho).1
            simpa using this
          refine lv_tableIn hx hb hd (by omega) (by omega) (off := o) ?_ ht2 (K0 _ _ _ _ h2 ht1 ls hls hcl)
          rw [show (x.toInt - lo).toNat = j by omega]
          rw [← Array.getElem?_toList]
          exact ho
        · obtain ⟨tb, ht1, ht2⟩ := zjmp_of hJ
          refine lv_tableOut hx hb hd ?_ ht2 (K0 _ _ _ _ h2 ht1 ls hls hcl)
          by_cases q1 : x.toInt < lo
          · exact Or.inl q1
          by_cases q2 : hi < x.toInt
          · exact Or.inr q2
          exfalso
          have hlen := zckT_len _ _ _ hT
          obtain ⟨w, hw⟩ : ∃ w, (zSW.getD a ([], 0)).1[(x.toInt - lo).toNat]? = some w := by
            refine ⟨_, List.getElem?_eq_getElem ?_⟩
            rw [hlen, Array.length_toList]
            omega
          obtain ⟨o, ho, hv, -⟩ := zckT_at _ _ _ hT _ w.1 w.2 hw
          refine hno (x.toInt - lo).toNat w hw (Int32.toInt_inj.mp ?_)
          omega
      · (have h2 : (none : zO) = some (v, σ') := h; cases h2)
    | lookupswitch df ps =>
      dsimp only at hck
      (try simp only [Bool.and_eq_true, Bool.or_eq_true, decide_eq_true_eq] at hck)
      unfold zstep zx at h
      dsimp only at h
      split at h
      · obtain ⟨⟨hT, hJ⟩, hso⟩ := hck
        rename_i x st1
        rw [zdo_zsw] at h
        obtain ⟨t, o, h2, hz, ho⟩ := zckP_pick _ _ hT hJ h
        obtain ⟨tb, ht1, ht2⟩ := zjmp_of hz
        exact lv_lookup hx hb hd hso ho ht2 (K0 _ _ _ _ h2 ht1 ls hls hcl)
      · (have h2 : (none : zO) = some (v, σ') := h; cases h2)
    | iaload =>
      dsimp only at hck
      (try simp only [Bool.and_eq_true, Bool.or_eq_true, decide_eq_true_eq] at hck)
      unfold zstep zx at h
      dsimp only at h
      split at h
      · rcases (show _ ∨ _ from zite_of h) with ⟨hc, h9⟩ | ⟨hc, h9⟩ <;> clear h <;> (have h := h9; clear h9)
        · obtain ⟨t, n1, hk1, ht, hin⟩ := ai_iff (by decide) (by decide) hc
          have ht' : t ∈ zwt ∨ t = 48 ∨ t = 49 := by rcases ht with rfl | rfl <;> decide
          obtain ⟨cell, g1, g2, g3, g4, g5, g6⟩ := z_arr hG hal hR hk1 ht'
          have e1 : zty t = .int := by rcases ht with rfl | rfl <;> rfl
          have e2 : ∀ r j, zel ρ σ t r j = .int (gI σ r j) := by rcases ht with rfl | rfl <;> (intro r j; rfl)
          rw [e1] at g2
          exact W.iald hx hb g1 g2 g3 (fun q => hin (q.imp id (fun z => Nat.le_trans g4 z))) (g6 _ (vp_in_lt hin)) rfl rfl hd (by rw [e2]; exact K0 _ _ _ _ h hck ls hls hcl)
        · (have h2 : (none : zO) = some (v, σ') := h; cases h2)
      · (have h2 : (none : zO) = some (v, σ') := h; cases h2)
    | baload =>
      dsimp only at hck
      (try simp only [Bool.and_eq_true, Bool.or_eq_true, decide_eq_true_eq] at hck)
      unfold zstep zx at h
      dsimp only at h
      split at h
      · cases hbz : Nat.beq a 0
        · rw [hbz] at h
          simp only [cond_false] at h
          rcases (show _ ∨ _ from zite_of h) with ⟨hc, h9⟩ | ⟨hc, h9⟩ <;> clear h <;> (have h := h9; clear h9)
          · obtain ⟨t, n1, hk1, ht, hin⟩ := ai_iff (by decide) (by decide) hc
            obtain rfl : t = 35 := ht.elim id id
            obtain ⟨cell, g1, g2, g3, g4, g5, g6⟩ := z_arr hG hal hR hk1 (Or.inl (by decide))
            exact W.zald hx hb g1 g2 g3 (fun q => hin (q.imp id (fun z => Nat.le_trans g4 z))) (g6 _ (vp_in_lt hin)) rfl rfl hd (K0 _ _ _ _ h hck ls hls hcl)
          · (have h2 : (none : zO) = some (v, σ') := h; cases h2)
        · rw [hbz] at h
          simp only [cond_true] at h
          rcases (show _ ∨ _ from zite_of h) with ⟨hc, h9⟩ | ⟨hc, h9⟩ <;> clear h <;> (have h := h9; clear h9)
          · obtain ⟨t, n1, hk1, ht, hin⟩ := ai_iff (by decide) (by decide) hc
            have ht' : t ∈ zwt ∨ t = 48 ∨ t = 49 := by rcases ht with rfl | rfl <;> decide
            obtain ⟨cell, g1, g2, g3, g4, g5, g6⟩ := z_arr hG hal hR hk1 ht'
            have e1 : zty t = .byte := by rcases ht with rfl | rfl <;> rfl
            have e2 : ∀ r j, zel ρ σ t r j = .int (gI σ r j) := by rcases ht with rfl | rfl <;> (intro r j; rfl)
            rw [e1] at g2
            exact W.bald hx hb g1 g2 g3 (fun q => hin (q.imp id (fun z => Nat.le_trans g4 z))) (g6 _ (vp_in_lt hin)) rfl rfl hd (by rw [e2]; exact K0 _ _ _ _ h hck ls hls hcl)
          · (have h2 : (none : zO) = some (v, σ') := h; cases h2)
      · (have h2 : (none : zO) = some (v, σ') := h; cases h2)
    | caload =>
      dsimp only at hck
      (try simp only [Bool.and_eq_true, Bool.or_eq_true, decide_eq_true_eq] at hck)
      unfold zstep zx at h
      dsimp only at h
      split at h
      · rcases (show _ ∨ _ from zite_of h) with ⟨hc, h9⟩ | ⟨hc, h9⟩ <;> clear h <;> (have h := h9; clear h9)
        · obtain ⟨t, n1, hk1, ht, hin⟩ := ai_iff (by decide) (by decide) hc
          obtain rfl : t = 34 := ht.elim id id
          obtain ⟨cell, g1, g2, g3, g4, g5, g6⟩ := z_arr hG hal hR hk1 (Or.inl (by decide))
          exact W.cald hx hb g1 g2 g3 (fun q => hin (q.imp id (fun z => Nat.le_trans g4 z))) (g6 _ (vp_in_lt hin)) rfl rfl hd (K0 _ _ _ _ h hck ls hls hcl)
        · (have h2 : (none : zO) = some (v, σ') := h; cases h2)
      · (have h2 : (none : zO) = some (v, σ') := h; cases h2)
    | laload =>
      dsimp only at hck
      (try simp only [Bool.and_eq_true, Bool.or_eq_true, decide_eq_true_eq] at hck)
      unfold zstep zx at h
      dsimp only at h
      split at h
      · rcases (show _ ∨ _ from zite_of h) with ⟨hc, h9⟩ | ⟨hc, h9⟩ <;> clear h <;> (have h := h9; clear h9)
        · obtain ⟨t, n1, hk1, ht, hin⟩ := ai_iff (by decide) (by decide) hc
          obtain rfl : t = 36 := ht.elim id id
          obtain ⟨cell, g1, g2, g3, g4, g5, g6⟩ := z_arr hG hal hR hk1 (Or.inl (by decide))
          exact W.lald hx hb g1 g2 g3 (fun q => hin (q.imp id (fun z => Nat.le_trans g4 z))) (g6 _ (vp_in_lt hin)) rfl rfl hd (K0 _ _ _ _ h hck ls hls hcl)
        · (have h2 : (none : zO) = some (v, σ') := h; cases h2)
      · (have h2 : (none : zO) = some (v, σ') := h; cases h2)
    | aaload =>
      dsimp only at hck
      (try simp only [Bool.and_eq_true, Bool.or_eq_true, decide_eq_true_eq] at hck)
      unfold zstep zx at h
      dsimp only at h
      split at h
      · rename_i i1 r1 st1
        rcases (show _ ∨ _ from zite_of h) with ⟨hc, h9⟩ | ⟨hc, h9⟩ <;> clear h <;> (have h := h9; clear h9)
        · have ha0 : a ≠ 0 := by rcases hck.1 with q | q | q | q | q <;> rw [q] <;> decide
          obtain ⟨t, n1, hk1, ht, hin⟩ := ai_iff ha0 ha0 hc
          obtain rfl : t = a := ht.elim id id
          have htw : t ∈ zwt := by rcases hck.1 with q | q | q | q | q <;> rw [q] <;> decide
          obtain ⟨cell, g1, g2, g3, g4, g5, g6⟩ := z_arr hG hal hR hk1 (Or.inl htw)
          have e1 : (zty t).isReference = true := by rcases hck.1 with q | q | q | q | q <;> rw [q] <;> rfl
          have e2 : ∀ r j, zel ρ σ t r j = va_rf ((gR σ r j).map ρ) := by rcases hck.1 with q | q | q | q | q <;> (rw [q]; intro r j; rfl)
          refine W.aald hx hb g1 g2 e1 g3 (fun q => hin (q.imp id (fun z => Nat.le_trans g4 z))) (g6 _ (vp_in_lt hin)) rfl rfl hd ?_
          rw [e2]
          cases hgr : gR σ r1 (ix i1) with
          | none =>
            rw [hgr] at h
            cases hb0 : Nat.beq b1 0
            · rw [hb0] at h
              exact K0 _ _ _ _ h hck.2 ls hls hcl
            · rw [hb0] at h
              (have h2 : (none : zO) = some (v, σ') := h; cases h2)
          | some q =>
            rw [hgr] at h
            cases hb0 : Nat.beq b1 0
            · rw [hb0] at h
              exact K0 _ _ _ _ h hck.2 ls hls hcl
            · rw [hb0] at h
              exact K0 _ _ _ _ h hck.2 ls hls hcl
        · (have h2 : (none : zO) = some (v, σ') := h; cases h2)
      · (have h2 : (none : zO) = some (v, σ') := h; cases h2)
    | arraylength =>
      dsimp only at hck
      (try simp only [Bool.and_eq_true, Bool.or_eq_true, decide_eq_true_eq] at hck)
      unfold zstep zx at h
      dsimp only at h
      split at h
      · rename_i r1 st1
        rcases (show _ ∨ _ from zite_of h) with ⟨hc, h9⟩ | ⟨hc, h9⟩ <;> clear h <;> (have h := h9; clear h9)
        · obtain ⟨t, n1, hk1, ht⟩ := zarr_tag hR hc
          obtain ⟨cell, g1, g2, g3, g4, g5, g6⟩ := z_arr hG hal hR hk1 ht
          have e : ln σ r1 = n1 := by unfold ln; rw [hk1]
          rw [e] at h
          exact W.alen hx hb g1 g2 g5 rfl rfl hd (K0 _ _ _ _ h hck ls hls hcl)
        · (have h2 : (none : zO) = some (v, σ') := h; cases h2)
      · (have h2 : (none : zO) = some (v, σ') := h; cases h2)
    | iastore =>
      dsimp only at hck
      (try simp only [Bool.and_eq_true, Bool.or_eq_true, decide_eq_true_eq] at hck)
      unfold zstep zx at h
      dsimp only at h
      split at h
      · rename_i x1 i1 r1 st1
        rcases (show _ ∨ _ from zite_of h) with ⟨hc, h9⟩ | ⟨hc, h9⟩ <;> clear h <;> (have h := h9; clear h9)
        · obtain ⟨t, n1, hk1, ht, hin⟩ := ai_iff (by decide) (by decide) hc
          obtain rfl : t = 32 := ht.elim id id
          obtain ⟨h6, g1, g2⟩ := z_own hG hal hR hk1 (by decide)
          refine W.iast hx hb g1 g2 (fun q => by cases q) (by show ¬ (_ ∨ (arrV _ _ _).slots.size ≤ _); rw [arrV_size]; exact hin) rfl rfl hd fun H1 e1 z1 o1 => ?_
          exact K _ _ _ _ _ h hck H1 _ ls cells slots (zRep_set hG hR rfl h6 hk1 z1 o1 (Or.inr ⟨by decide, by rw [e1, arrV_store]; exact congrArg some (congrArg _ (zel_upd (by show Value.int (gI _ _ _) = _; rw [gI_sI]; simp) (fun j hj => ⟨by rw [gI_sI, if_neg (fun z => hj z.2)], rfl, rfl⟩)))⟩) (by intro r j hr; simp [gI, sI, sL, hr]) (by intro r j hr; simp [gL, sI, sL, hr]) (by intro r j hr; rfl)) (zlocs hlc h6 hG) hls hce hsl hcl
        · (have h2 : (none : zO) = some (v, σ') := h; cases h2)
      · (have h2 : (none : zO) = some (v, σ') := h; cases h2)
    | lastore =>
      dsimp only at hck
      (try simp only [Bool.and_eq_true, Bool.or_eq_true, decide_eq_true_eq] at hck)
      unfold zstep zx at h
      dsimp only at h
      split at h
      · rename_i x1 i1 r1 st1
        rcases (show _ ∨ _ from zite_of h) with ⟨hc, h9⟩ | ⟨hc, h9⟩ <;> clear h <;> (have h := h9; clear h9)
        · obtain ⟨t, n1, hk1, ht, hin⟩ := ai_iff (by decide) (by decide) hc
          obtain rfl : t = 36 := ht.elim id id
          obtain ⟨h6, g1, g2⟩ := z_own hG hal hR hk1 (by decide)
          refine W.last hx hb g1 g2 (fun q => by cases q) (by show ¬ (_ ∨ (arrV _ _ _).slots.size ≤ _); rw [arrV_size]; exact hin) rfl rfl hd fun H1 e1 z1 o1 => ?_
          exact K _ _ _ _ _ h hck H1 _ ls cells slots (zRep_set hG hR rfl h6 hk1 z1 o1 (Or.inr ⟨by decide, by rw [e1, arrV_store]; exact congrArg some (congrArg _ (zel_upd (by show Value.long (gL _ _ _) = _; rw [gL_sL]; simp) (fun j hj => ⟨rfl, by rw [gL_sL, if_neg (fun z => hj z.2)], rfl⟩)))⟩) (by intro r j hr; simp [gI, sI, sL, hr]) (by intro r j hr; simp [gL, sI, sL, hr]) (by intro r j hr; rfl)) (zlocs hlc h6 hG) hls hce hsl hcl
        · (have h2 : (none : zO) = some (v, σ') := h; cases h2)
      · (have h2 : (none : zO) = some (v, σ') := h; cases h2)
    | castore =>
      dsimp only at hck
      (try simp only [Bool.and_eq_true, Bool.or_eq_true, decide_eq_true_eq] at hck)
      unfold zstep zx at h
      dsimp only at h
      split at h
      · rename_i x1 i1 r1 st1
        rcases (show _ ∨ _ from zite_of h) with ⟨hc, h9⟩ | ⟨hc, h9⟩ <;> clear h <;> (have h := h9; clear h9)
        · have hc0 := hc
          rcases (show _ ∨ _ from zite_of h) with ⟨hc, h9⟩ | ⟨hc, h9⟩ <;> clear h <;> (have h := h9; clear h9)
          · obtain ⟨t, n1, hk1, ht, hin⟩ := ai_iff (by decide) (by decide) hc0
            obtain rfl : t = 34 := ht.elim id id
            obtain ⟨h6, g1, g2⟩ := z_own hG hal hR hk1 (by decide)
            have hnar := zfit_narrow (ty := .char) hc (Or.inr (Or.inl ⟨rfl, rfl⟩))
            refine W.cast hx hb g1 g2 (fun q => by cases q) (by show ¬ (_ ∨ (arrV _ _ _).slots.size ≤ _); rw [arrV_size]; exact hin) rfl rfl hd fun H1 e1 z1 o1 => ?_
            rw [hnar] at e1
            exact K _ _ _ _ _ h hck H1 _ ls cells slots (zRep_set hG hR rfl h6 hk1 z1 o1 (Or.inr ⟨by decide, by rw [e1, arrV_store]; exact congrArg some (congrArg _ (zel_upd (by show Value.int (gI _ _ _) = _; rw [gI_sI]; simp) (fun j hj => ⟨by rw [gI_sI, if_neg (fun z => hj z.2)], rfl, rfl⟩)))⟩) (by intro r j hr; simp [gI, sI, hr]) (by intro r j hr; rfl) (by intro r j hr; rfl)) (zlocs hlc h6 hG) hls hce hsl hcl
          · (have h2 : (none : zO) = some (v, σ') := h; cases h2)
        · (have h2 : (none : zO) = some (v, σ') := h; cases h2)
      · (have h2 : (none : zO) = some (v, σ') := h; cases h2)
    | bastore =>
      dsimp only at hck
      (try simp only [Bool.and_eq_true, Bool.or_eq_true, decide_eq_true_eq] at hck)
      unfold zstep zx at h
      dsimp only at h
      split at h
      · rename_i x1 i1 r1 st1
        cases hbz : Nat.beq a 0
        · rw [hbz] at h
          simp only [cond_false] at h
          rcases (show _ ∨ _ from zite_of h) with ⟨hc, h9⟩ | ⟨hc, h9⟩ <;> clear h <;> (have h := h9; clear h9)
          · have hc0 := hc
            rcases (show _ ∨ _ from zite_of h) with ⟨hc, h9⟩ | ⟨hc, h9⟩ <;> clear h <;> (have h := h9; clear h9)
            · obtain ⟨t, n1, hk1, ht, hin⟩ := ai_iff (by decide) (by decide) hc0
              obtain rfl : t = 35 := ht.elim id id
              obtain ⟨h6, g1, g2⟩ := z_own hG hal hR hk1 (by decide)
              have hnar := zfit_narrow (ty := .boolean) hc (Or.inl ⟨rfl, rfl⟩)
              refine W.zast hx hb g1 g2 (fun q => by cases q) (by show ¬ (_ ∨ (arrV _ _ _).slots.size ≤ _); rw [arrV_size]; exact hin) rfl rfl hd fun H1 e1 z1 o1 => ?_
              rw [hnar] at e1
              exact K _ _ _ _ _ h hck H1 _ ls cells slots (zRep_set hG hR rfl h6 hk1 z1 o1 (Or.inr ⟨by decide, by rw [e1, arrV_store]; exact congrArg some (congrArg _ (zel_upd (by show Value.int (gI _ _ _) = _; rw [gI_sI]; simp) (fun j hj => ⟨by rw [gI_sI, if_neg (fun z => hj z.2)], rfl, rfl⟩)))⟩) (by intro r j hr; simp [gI, sI, hr]) (by intro r j hr; rfl) (by intro r j hr; rfl)) (zlocs hlc h6 hG) hls hce hsl hcl
            · (have h2 : (none : zO) = some (v, σ') := h; cases h2)
          · (have h2 : (none : zO) = some (v, σ') := h; cases h2)
        · rw [hbz] at h
          simp only [cond_true] at h
          rcases (show _ ∨ _ from zite_of h) with ⟨hc, h9⟩ | ⟨hc, h9⟩ <;> clear h <;> (have h := h9; clear h9)
          · obtain ⟨t, n1, hk1, ht, hin⟩ := ai_iff (by decide) (by decide) hc
            obtain rfl : t = 33 := ht.elim id id
            obtain ⟨h6, g1, g2⟩ := z_own hG hal hR hk1 (by decide)
            refine W.bast hx hb g1 g2 (fun q => by cases q) (by show ¬ (_ ∨ (arrV _ _ _).slots.size ≤ _); rw [arrV_size]; exact hin) rfl rfl hd fun H1 e1 z1 o1 => ?_
            have hnar : narrow .byte (.int x1) = .int x1.toInt8.toInt32 := rfl
            rw [hnar] at e1
            exact K _ _ _ _ _ h hck H1 _ ls cells slots (zRep_set hG hR rfl h6 hk1 z1 o1 (Or.inr ⟨by decide, by rw [e1, arrV_store]; exact congrArg some (congrArg _ (zel_upd (by show Value.int (gI _ _ _) = _; rw [gI_sI]; simp) (fun j hj => ⟨by rw [gI_sI, if_neg (fun z => hj z.2)], rfl, rfl⟩)))⟩) (by intro r j hr; simp [gI, sI, hr]) (by intro r j hr; rfl) (by intro r j hr; rfl)) (zlocs hlc h6 hG) hls hce hsl hcl
          · (have h2 : (none : zO) = some (v, σ') := h; cases h2)
      · (have h2 : (none : zO) = some (v, σ') := h; cases h2)
    | ireturn =>
      dsimp only at hck
      (try simp only [Bool.and_eq_true, Bool.or_eq_true, decide_eq_true_eq] at hck)
      have h' : zdo (zf n d k) (zfM n) (zret none (fun v σ => some (.inr (.inl (v, σ)))) (zmi k).1 st σ) = some (v, σ') := h
      obtain ⟨x, rfl, rfl, rfl, hf⟩ := zret_of h'
      obtain ⟨r1, -⟩ := zmok_of hk339
      refine hQ H locs ls cells slots _ hR hlc hce hsl ⟨hd, ?_⟩
      rw [r1] at hf
      exact zrt2_narrow hf
    | lreturn =>
      dsimp only at hck
      (try simp only [Bool.and_eq_true, Bool.or_eq_true, decide_eq_true_eq] at hck)
      unfold zstep zx at h
      dsimp only at h
      split at h
      · rcases (show _ ∨ _ from zbif_of h) with ⟨hc, h9⟩ | ⟨hc, h9⟩ <;> clear h <;> (have h := h9; clear h9)
        · have h' : some (some (.long _), σ) = some (v, σ') := h
          cases h'
          obtain ⟨r1, -⟩ := zmok_of hk339
          rw [r1] at hc
          exact hQ H locs ls cells slots _ hR hlc hce hsl ⟨hd, zrt2_long (Nat.eq_of_beq_eq_true hc)⟩
        · (have h2 : (none : zO) = some (v, σ') := h; cases h2)
      · (have h2 : (none : zO) = some (v, σ') := h; cases h2)
    | areturn =>
      dsimp only at hck
      (try simp only [Bool.and_eq_true, Bool.or_eq_true, decide_eq_true_eq] at hck)
      unfold zstep zx at h
      dsimp only at h
      split at h
      · rcases (show _ ∨ _ from zbif_of h) with ⟨hc, h9⟩ | ⟨hc, h9⟩ <;> clear h <;> (have h := h9; clear h9)
        · have h' : some (some (.ref _), σ) = some (v, σ') := h
          cases h'
          obtain ⟨r1, -⟩ := zmok_of hk339
          rw [r1] at hc
          exact hQ H locs ls cells slots _ hR hlc hce hsl ⟨hd, zrt2_ref (Nat.eq_of_beq_eq_true hc) (zret_ok hk339)⟩
        · (have h2 : (none : zO) = some (v, σ') := h; cases h2)
      · (have h2 : (none : zO) = some (v, σ') := h; cases h2)
    | return_ =>
      dsimp only at hck
      (try simp only [Bool.and_eq_true, Bool.or_eq_true, decide_eq_true_eq] at hck)
      unfold zstep zx at h
      dsimp only at h
      split at h
      · rcases (show _ ∨ _ from zbif_of h) with ⟨hc, h9⟩ | ⟨hc, h9⟩ <;> clear h <;> (have h := h9; clear h9)
        · have h' : some (none, σ) = some (v, σ') := h
          cases h'
          obtain ⟨r1, -⟩ := zmok_of hk339
          rw [r1] at hc
          exact hQ H locs ls cells slots _ hR hlc hce hsl ⟨hd, zrt2_none (Nat.eq_of_beq_eq_true hc)⟩
        · (have h2 : (none : zO) = some (v, σ') := h; cases h2)
      · (have h2 : (none : zO) = some (v, σ') := h; cases h2)
    | getfield n0 =>
      dsimp only at hck
      (try simp only [Bool.and_eq_true, Bool.or_eq_true, decide_eq_true_eq] at hck)
      obtain ⟨f1, f2, f3, f4⟩ := zFL_ok _ (List.mem_of_getElem? hck.1)
      unfold zstep zx at h
      dsimp only at h f1 f2 f3 f4
      split at h
      · rename_i r1 st1
        rcases (show _ ∨ _ from zite_of h) with ⟨hc, h9⟩ | ⟨hc, h9⟩ <;> clear h <;> (have h := h9; clear h9)
        · obtain ⟨cf, kk, i1, f, cell, q1, q2, q3, q4, q5⟩ := z_getf hG hal hts hR f4 hc f3
          refine W.getf hx hb hown (hts _ f1 rfl) q1 q2 q3 q4 q5 rfl rfl hd ?_
          split at h
          · rename_i q
            rw [zfv_0 (by rw [← f2]; exact q)]
            exact K0 _ _ _ _ h hck.2 ls hls hcl
          · rename_i q
            rw [zfv_1 (by rw [← f2]; exact q)]
            exact K0 _ _ _ _ h hck.2 ls hls hcl
          · rename_i n1 n2
            rw [zfv_2 (by rw [← f2]; exact n1) (by rw [← f2]; exact n2)]
            cases hgr : gR σ r1 b1 with
            | none =>
              rw [hgr] at h
              (have h2 : (none : zO) = some (v, σ') := h; cases h2)
            | some q =>
              rw [hgr] at h
              exact K0 _ _ _ _ h hck.2 ls hls hcl
        · (have h2 : (none : zO) = some (v, σ') := h; cases h2)
      · (have h2 : (none : zO) = some (v, σ') := h; cases h2)
    | getstatic n0 =>
      dsimp only at hck
      (try simp only [Bool.and_eq_true, Bool.or_eq_true, decide_eq_true_eq] at hck)
      unfold zstep zx at h
      dsimp only at h
      rcases hck with q | ⟨⟨hg, ha2⟩, hn1⟩
      · subst q
        (have h2 : (none : zO) = some (v, σ') := h; cases h2)
      have hw := hts _ (zGS_ok _ (List.elem_iff.mp hg)) rfl
      obtain ⟨-, -, -, -, -, -, -, -, z0, z1, z2, -⟩ := id hG
      have hold : ∀ q : Nat, q < s0.heap.size → ¬ zA0 s0 q → H[q]? = s0.heap[q]? := fun q hq _ => hR.2.1 q hq
      match a, ha2, hw, h with
      | 0, _, hw, h =>
        obtain ⟨cf, kf, fi, f, a1, cell, h1, h2, h3, h4, h5, h6, h7, h8⟩ := (va_Z.moved hal z0).kept hold
        exact W.gets hx hb hown hw h1 h2 h3 h4 h5 (fun e => by rw [e] at h6; cases h6) h7 rfl hd (K0 _ _ _ _ h hn1 ls hls hcl)
      | 1, _, hw, h =>
        obtain ⟨cf, kf, fi, f, a1, cell, h1, h2, h3, h4, h5, h6, h7, h8⟩ := (va_Z.moved hal z1).kept hold
        exact W.gets hx hb hown hw h1 h2 h3 h4 h5 (fun e => by rw [e] at h6; cases h6) h7 rfl hd (K0 _ _ _ _ h hn1 ls hls hcl)
      | 2, _, hw, h =>
        obtain ⟨cf, kf, fi, f, a1, cell, h1, h2, h3, h4, h5, h6, h7, h8⟩ := (va_Z.moved hal z2).kept hold
        refine W.gets hx hb hown hw h1 h2 h3 h4 h5 (fun e => by rw [e] at h6; cases h6) h7 rfl hd ?_
        have hfo : gR σ 4 0 = fo := hR.2.2.2.2.2.2.2.2.2
        rw [← hfo]
        cases hgr : gR σ 4 0 with
        | none =>
          rw [hgr] at h
          exact K0 _ _ _ _ h hn1 ls hls hcl
        | some q =>
          rw [hgr] at h
          exact K0 _ _ _ _ h hn1 ls hls hcl
    | putfield n0 =>
      dsimp only at hck
      (try simp only [Bool.and_eq_true, Bool.or_eq_true, decide_eq_true_eq] at hck)
      obtain ⟨⟨hfl, hn1⟩, hfi⟩ := hck
      obtain ⟨f1, f2, f3, f4⟩ := zFL_ok _ (List.mem_of_getElem? hfl)
      unfold zstep zx at h
      dsimp only at h f1 f2 f3 f4
      have hp1 : 1 ≤ a / 1000 := by rcases f4 with q | q <;> omega
      have hp2 : a / 1000 ≤ 13 := by
        rcases f4 with q | q
        · exfalso
          rw [q] at f3 hfi
          have hb2 : b1 < 2 := f3
          rcases hfi with g | ⟨g1, g2⟩
          · match b1, hb2, g with
            | 0, _, g => exact absurd g (by decide)
            | 1, _, g => exact absurd g (by decide)
          · exact zlaw_flag k hk339 (by omega) g1
        · omega
      have hfin : ((vwCl.getD (a / 1000 - 1) ("", TX0, 0)).2.1 b1).2.2.2 = true → meth.name = "<init>" ∧ zcn (zoc k) = zcn (a / 1000 - 1) := fun q => by
        rcases hfi with g | ⟨g1, g2⟩
        · rw [q] at g; cases g
        · exact ⟨hini g1, by rw [← g2]; rfl⟩
      split at h
      · rename_i v1 r1 st1
        rcases (show _ ∨ _ from zbif_of h) with ⟨hc, h9⟩ | ⟨hc, h9⟩ <;> clear h <;> (have h := h9; clear h9)
        · have hz : zfk (zFd (a / 1000) b1).2.2 = 0 := by rw [← f2]; exact Nat.eq_of_beq_eq_true hc
          rcases (show _ ∨ _ from zite_of h) with ⟨hc, h9⟩ | ⟨hc, h9⟩ <;> clear h <;> (have h := h9; clear h9)
          · refine z_putf (σ' := sI σ r1 b1 v1) (v := .int v1) hG hal hx hb hown hts hR hp1 hp2 hc f3 (hts _ f1 rfl) hfin (by unfold zfv; rw [hz]; simp [gI_sI]) (fun ty hk => zkt_int hz hk _) rfl (fun r' j' hne => ⟨?_, ?_, ?_⟩) hlc hd (fun H1 locs1 hR1 hl1 => K _ _ _ _ _ h hn1 H1 locs1 ls cells slots hR1 hl1 hls hce hsl hcl)
            · rw [gI_sI, if_neg hne]
            · rfl
            · rfl
          · (have h2 : (none : zO) = some (v, σ') := h; cases h2)
        · (have h2 : (none : zO) = some (v, σ') := h; cases h2)
      · rename_i v1 r1 st1
        rcases (show _ ∨ _ from zbif_of h) with ⟨hc, h9⟩ | ⟨hc, h9⟩ <;> clear h <;> (have h := h9; clear h9)
        · have hz : zfk (zFd (a / 1000) b1).2.2 = 1 := by rw [← f2]; exact Nat.eq_of_beq_eq_true hc
          rcases (show _ ∨ _ from zite_of h) with ⟨hc, h9⟩ | ⟨hc, h9⟩ <;> clear h <;> (have h := h9; clear h9)
          · refine z_putf (σ' := sL σ r1 b1 v1) (v := .long v1) hG hal hx hb hown hts hR hp1 hp2 hc f3 (hts _ f1 rfl) hfin (by unfold zfv; rw [hz]; simp [gL_sL]) (fun ty hk => zkt_long hz hk _) rfl (fun r' j' hne => ⟨?_, ?_, ?_⟩) hlc hd (fun H1 locs1 hR1 hl1 => K _ _ _ _ _ h hn1 H1 locs1 ls cells slots hR1 hl1 hls hce hsl hcl)
            · rfl
            · rw [gL_sL, if_neg hne]
            · rfl
          · (have h2 : (none : zO) = some (v, σ') := h; cases h2)
        · (have h2 : (none : zO) = some (v, σ') := h; cases h2)
      · rename_i v1 r1 st1
        rcases (show _ ∨ _ from zbif_of h) with ⟨hc, h9⟩ | ⟨hc, h9⟩ <;> clear h <;> (have h := h9; clear h9)
        · have hz : zfk (zFd (a / 1000) b1).2.2 = 2 := by rw [← f2]; exact Nat.eq_of_beq_eq_true hc
          rcases (show _ ∨ _ from zite_of h) with ⟨hc, h9⟩ | ⟨hc, h9⟩ <;> clear h <;> (have h := h9; clear h9)
          · refine z_putf (σ' := sR σ r1 b1 (some v1)) (v := .ref (ρ v1)) hG hal hx hb hown hts hR hp1 hp2 hc f3 (hts _ f1 rfl) hfin (by unfold zfv; rw [hz]; simp [gR_sR, va_rf]) (fun ty hk => zkt_ref hz hk _) rfl (fun r' j' hne => ⟨?_, ?_, ?_⟩) hlc hd (fun H1 locs1 hR1 hl1 => K _ _ _ _ _ h hn1 H1 locs1 ls cells slots hR1 hl1 hls hce hsl hcl)
            · rfl
            · rfl
            · rw [gR_sR, if_neg hne]
          · (have h2 : (none : zO) = some (v, σ') := h; cases h2)
        · (have h2 : (none : zO) = some (v, σ') := h; cases h2)
      · (have h2 : (none : zO) = some (v, σ') := h; cases h2)
    | aastore =>
      dsimp only at hck
      (try simp only [Bool.and_eq_true, Bool.or_eq_true, decide_eq_true_eq] at hck)
      unfold zstep zx at h
      dsimp only at h
      obtain ⟨hab, hn1⟩ := hck
      split at h
      · rename_i v1 i1 r1 st1
        rcases (show _ ∨ _ from zite_of h) with ⟨hc, h9⟩ | ⟨hc, h9⟩ <;> clear h <;> (have h := h9; clear h9)
        · have hc0 := hc
          rcases (show _ ∨ _ from zite_of h) with ⟨hc, h9⟩ | ⟨hc, h9⟩ <;> clear h <;> (have h := h9; clear h9)
          · have ha0 : a ≠ 0 := by omega
            have hcc : a ∈ zwt := by rcases hab with ⟨q, -⟩ | ⟨q, -⟩ | ⟨q, -⟩ | ⟨q, -⟩ | ⟨q, -⟩ <;> rw [q] <;> decide
            have e2 : ∀ σ r j, zel ρ σ a r j = va_rf ((gR σ r j).map ρ) := by rcases hab with ⟨q, -⟩ | ⟨q, -⟩ | ⟨q, -⟩ | ⟨q, -⟩ | ⟨q, -⟩ <;> (rw [q]; intro σ r j; rfl)
            obtain ⟨t, n1, hk1, ht, hin⟩ := ai_iff ha0 ha0 hc0
            have hta : t = a := ht.elim id id
            rw [hta] at hk1
            obtain ⟨h6, g1, g2⟩ := z_own hG hal hR hk1 hcc
            obtain ⟨kA, kc, cc, ty, cv, m1, m2, m3, m4, m5, m6, m7⟩ := z_comp hG hal hR hab hc
            refine W.aast hx hb g1 (fun q h => by cases h) (fun h => by cases h) m1 m2 m3 m4 ⟨fun q => hin (Or.inl q), by show _ < (arrV _ _ _).slots.size; rw [arrV_size]; exact vp_in_lt hin⟩ m5 m6 (by rw [m7]; exact m4) (by rw [m7]; exact zself _ _) rfl rfl hd fun H1 e1 z1 o1 => ?_
            exact K _ _ _ _ _ h hn1 H1 _ ls cells slots (zRep_set hG hR rfl h6 hk1 z1 o1 (Or.inr ⟨hcc, by rw [e1, arrV_store]; exact congrArg some (congrArg _ (zel_upd (by rw [e2, gR_sR]; simp [va_rf]) (fun j hj => ⟨rfl, rfl, by rw [gR_sR, if_neg (fun z => hj z.2)]⟩)))⟩) (by intro r j hr; rfl) (by intro r j hr; rfl) (by intro r j hr; rw [gR_sR, if_neg (fun z => hr z.1)])) (zlocs hlc h6 hG) hls hce hsl hcl
          · (have h2 : (none : zO) = some (v, σ') := h; cases h2)
        · (have h2 : (none : zO) = some (v, σ') := h; cases h2)
      · (have h2 : (none : zO) = some (v, σ') := h; cases h2)
    | new n0 =>
      dsimp only at hck
      (try simp only [Bool.and_eq_true, Bool.or_eq_true, decide_eq_true_eq] at hck)
      obtain ⟨⟨hcl1, ha1, ha2, hb1⟩, hn1⟩ := hck
      have h : zf n d k nx cl (.ref (sz σ) :: st) (sN σ a b1) = some (v, σ') := h
      have hpre := zf_pre _ _ _ _ _ _ _ _ h
      have hl1 := hpre.length_le
      have hl2 := zsl_le hpre
      rw [zsz_sN] at hl1
      rw [zsl_sN] at hl2
      dsimp only at hl1 hl2
      obtain ⟨q, hq, hfd, hnf, hcln, hgd, hcn⟩ := zcl_at ha1 ha2
      obtain ⟨w1, w2⟩ := zIn_at ha1 ha2
      rw [hgd, ← hnf, ← hb1] at w1
      have hKn := (va_K.moved hal hG.2.1).1 (a - 1) q hq
      obtain ⟨-, -, ty, hty, hkt⟩ := zcls _ q hq
      have hfc : s.vm.findClass (zCln a) = some (dC (a - 1)) := by rw [hcln]; exact hKn.2.1
      have hro := zrho_new hG hR
      have hcl2 : Cond.classLink (zcn (zoc k)) n0 (zCln a) ∈ lw_tbl := zCL_ok _ (List.mem_of_getElem? hcl1)
      have hcs1 : cells + 1 ≤ R.cells := by omega
      have hss1 : slots + b1 ≤ R.slots := by omega
      refine W.newcK hx hb hown (hts _ hcl2 rfl) (hts _ w1 rfl) (hts _ w2 rfl) rfl hd hcs1 hss1 hfc (h := ρ (sz σ)) hro.symm fun H1 kC hkC e1 z1 o1 => ?_
      refine K _ _ _ _ _ h hn1 H1 locs ls (cells + 1) (slots + b1) (zRep_new hG hR (by rw [z1, hro]) (fun x hx => o1 x (by rw [hro]; exact hx)) (Or.inl ⟨ha1, ha2, ?_⟩)) hlc hls (by rw [zsz_sN]; omega) (by rw [zsl_sN]; omega) hcl
      rw [hnf]
      refine (u_born ty (zlay_ts hts hq) (fun w h => h) hKn hkC e1 hty).to fun j hj => ?_
      refine (zkt_def (hkt j hj) ρ).trans ?_
      unfold zfv
      rw [hfd]
      have m1 : gI (sN σ a b1) (sz σ) j = 0 := by simp [gI, sN, sz]
      have m2 : gL (sN σ a b1) (sz σ) j = 0 := by simp [gL, sN, sz]
      have m3 : gR (sN σ a b1) (sz σ) j = none := by simp [gR, sN, sz]
      rw [m1, m2, m3]
      rfl
    | newarray n0 =>
      dsimp only at hck
      (try simp only [Bool.and_eq_true, Bool.or_eq_true, decide_eq_true_eq] at hck)
      obtain ⟨hat, hn1⟩ := hck
      obtain ⟨haw, hty, hcs⟩ := zatN_ty hat
      unfold zstep zx at h
      dsimp only at h
      split at h
      · rename_i n1 st1
        rcases (show _ ∨ _ from zite_of h) with ⟨hc, h9⟩ | ⟨hc, h9⟩ <;> clear h <;> (have h := h9; clear h9)
        · (have h2 : (none : zO) = some (v, σ') := h; cases h2)
        have hc0 := hc
        rcases (show _ ∨ _ from zite_of h) with ⟨hc, h9⟩ | ⟨hc, h9⟩ <;> clear h <;> (have h := h9; clear h9)
        · (have h2 : (none : zO) = some (v, σ') := h; cases h2)
        have h : zf n d k nx cl (.ref (sz σ) :: st1) (sN σ a (ix n1)) = some (v, σ') := h
        have hpre := zf_pre _ _ _ _ _ _ _ _ h
        have hl1 := hpre.length_le
        have hl2 := zsl_le hpre
        rw [zsz_sN] at hl1
        rw [zsl_sN] at hl2
        dsimp only at hl1 hl2
        have hro := zrho_new hG hR
        obtain ⟨pz, hpz⟩ := List.getElem?_of_mem haw
        have hpz' : (ztys dA)[pz]? = some (dA a, zty a) := by simp [ztys, hpz]
        have hRA := ((va_K.moved hal hG.2.1).2 pz _ hpz').2
        have hnm : s.vm.findClass ("[" ++ (zty a).toString) = some (dA a) := by rcases hcs with q | q | q | q | q <;> (rw [q] at hRA ⊢; exact hRA)
        have hac : Cond.arrayClass (zty a) ∈ lw_tbl := by rcases hcs with q | q | q | q | q <;> rw [q] <;> first | exact zac_32 | exact zac_33 | exact zac_34 | exact zac_35 | exact zac_36
        have hcs1 : cells + 1 ≤ R.cells := by omega
        have hss1 : slots + ix n1 ≤ R.slots := by omega
        refine va_newaK hx hb (by rw [hty]; exact hts _ hac rfl) rfl hd rfl hc0 rfl (by rw [hty]; exact zbytes hcs (zix_lt hc0 hc)) hcs1 hss1 (h := ρ (sz σ)) hro.symm fun H1 cA e1 z1 o1 hAr hNm => ?_
        rw [hty] at e1 hNm
        have hcA : cA = dA a := Option.some.inj (hNm.symm.trans hnm)
        subst hcA
        refine K _ _ _ _ _ h hn1 H1 locs ls (cells + 1) (slots + ix n1) (zRep_new hG hR (by rw [z1, hro]) (fun x hx => o1 x (by rw [hro]; exact hx)) (Or.inr ⟨haw, ?_⟩)) hlc hls (by rw [zsz_sN]; omega) (by rw [zsl_sN]; omega) hcl
        rw [e1]
        refine congrArg some (congrArg _ (funext fun j => ?_))
        have m1 : gI (sN σ a (ix n1)) (sz σ) j = 0 := by simp [gI, sN, sz]
        have m2 : gL (sN σ a (ix n1)) (sz σ) j = 0 := by simp [gL, sN, sz]
        unfold zel
        rw [m1, m2]
        rcases hcs with q | q | q | q | q <;> (rw [q]; rfl)
      · (have h2 : (none : zO) = some (v, σ') := h; cases h2)
    | anewarray n0 =>
      dsimp only at hck
      (try simp only [Bool.and_eq_true, Bool.or_eq_true, decide_eq_true_eq] at hck)
      obtain ⟨⟨hcl1, hcs⟩, hn1⟩ := hck
      have haw : a ∈ zwt := by rcases hcs with q | q | q | q | q <;> rw [q] <;> decide
      unfold zstep zx at h
      dsimp only at h
      split at h
      · rename_i n1 st1
        rcases (show _ ∨ _ from zite_of h) with ⟨hc, h9⟩ | ⟨hc, h9⟩ <;> clear h <;> (have h := h9; clear h9)
        · (have h2 : (none : zO) = some (v, σ') := h; cases h2)
        have hc0 := hc
        rcases (show _ ∨ _ from zite_of h) with ⟨hc, h9⟩ | ⟨hc, h9⟩ <;> clear h <;> (have h := h9; clear h9)
        · (have h2 : (none : zO) = some (v, σ') := h; cases h2)
        have h : zf n d k nx cl (.ref (sz σ) :: st1) (sN σ a (ix n1)) = some (v, σ') := h
        have hpre := zf_pre _ _ _ _ _ _ _ _ h
        have hl1 := hpre.length_le
        have hl2 := zsl_le hpre
        rw [zsz_sN] at hl1
        rw [zsl_sN] at hl2
        dsimp only at hl1 hl2
        have hro := zrho_new hG hR
        have hcl2 : Cond.classLink (zcn (zoc k)) n0 (zCln a) ∈ lw_tbl := zCL_ok _ (List.mem_of_getElem? hcl1)
        have hlink := hts _ hcl2 rfl
        have hcs1 : cells + 1 ≤ R.cells := by omega
        have hss1 : slots + ix n1 ≤ R.slots := by omega
        have hix := zix_lt hc0 hc
        have hby : ix n1 * 4 ≤ 536870912 := by omega
        have hKs := va_K.moved hal hG.2.1
        obtain ⟨o68, o73, o70, o69, o80⟩ := hG.2.2.2.2.2.2.2.2.2.2.2.2
        have kk : ∀ cA : ClassId, cA = dA a → W p l e R s m args below meth c (H.push { cls := cA, slots := Array.replicate (ix n1) .null, vm := .none }) locs (cells + 1) (slots + ix n1) Q (F0 m (b0 + 3) ls (.ref H.size :: st1.map (zmv ρ))) := by
          intro cA hcA
          subst hcA
          rw [← hro]
          refine K _ _ (.ref (sz σ) :: st1) _ _ h hn1 _ locs ls (cells + 1) (slots + ix n1) (zRep_new hG hR (by simp) (fun x hx => by rw [Array.getElem?_push, if_neg (Nat.ne_of_lt hx)]) (Or.inr ⟨haw, ?_⟩)) hlc hls (by rw [zsz_sN]; omega) (by rw [zsl_sN]; omega) hcl
          rw [hro]
          rw [Array.getElem?_push, if_pos rfl, arrV_new]
          refine congrArg some (congrArg _ (funext fun j => ?_))
          have m3 : gR (sN σ a (ix n1)) (sz σ) j = none := by simp [gR, sN, sz]
          unfold zel
          rw [m3]
          rcases hcs with q | q | q | q | q <;> (rw [q]; rfl)
        rcases hcs with q | q | q | q | q
        · subst q
          have hlink : (Cond.classLink (zcn (zoc k)) n0 RX3).before args s = true := hlink
          exact W.anew (C := RX3) hx hb hown hlink (va_AO.use (va_AO.moved hal o68)) rfl hd rfl hc0 hby hcs1 hss1 fun cA kA comp k1 k2 k3 k4 => kk cA (Option.some.inj (k1.symm.trans (hKs.2 5 _ rfl).2.choose_spec.choose_spec.2.2.2))
        · subst q
          have hlink : (Cond.classLink (zcn (zoc k)) n0 RX8).before args s = true := hlink
          exact W.anew (C := RX8) hx hb hown hlink (va_AO.use (va_AO.moved hal o73)) rfl hd rfl hc0 hby hcs1 hss1 fun cA kA comp k1 k2 k3 k4 => kk cA (Option.some.inj (k1.symm.trans (hKs.2 6 _ rfl).2.choose_spec.choose_spec.2.2.2))
        · subst q
          have hlink : (Cond.classLink (zcn (zoc k)) n0 RX5).before args s = true := hlink
          exact W.anew (C := RX5) hx hb hown hlink (va_AO.use (va_AO.moved hal o70)) rfl hd rfl hc0 hby hcs1 hss1 fun cA kA comp k1 k2 k3 k4 => kk cA (Option.some.inj (k1.symm.trans (hKs.2 7 _ rfl).2.choose_spec.choose_spec.2.2.2))
        · subst q
          have hlink : (Cond.classLink (zcn (zoc k)) n0 RX4).before args s = true := hlink
          exact W.anew (C := RX4) hx hb hown hlink (va_AO.use (va_AO.moved hal o69)) rfl hd rfl hc0 hby hcs1 hss1 fun cA kA comp k1 k2 k3 k4 => kk cA (Option.some.inj (k1.symm.trans (hKs.2 8 _ rfl).2.choose_spec.choose_spec.2.2.2))
        · subst q
          have hst : (FieldType.array .int).toString = "[I" := by decide
          have hlink : (Cond.classLink (zcn (zoc k)) n0 (FieldType.array .int).toString).before args s = true := by rw [hst]; exact hlink
          exact W.anewA (t := .int) hx hb hown hlink (over_moved hal o80) rfl hd rfl hc0 hby hcs1 hss1 fun cA kA comp k1 k2 k3 k4 => kk cA (Option.some.inj (k1.symm.trans (hKs.2 9 _ rfl).2))
      · (have h2 : (none : zO) = some (v, σ') := h; cases h2)
    | invokevirtual n0 =>
      dsimp only at hck
      (try simp only [Bool.and_eq_true, Bool.or_eq_true, decide_eq_true_eq] at hck)
      rcases hck with q | hcx
      · subst q
        (have h2 : (none : zO) = some (v, σ') := h; cases h2)
      unfold zstep zx at h
      dsimp only at h
      rcases (show _ ∨ _ from zbif_of h) with ⟨hc, h9⟩ | ⟨hc, h9⟩ <;> clear h <;> (have h := h9; clear h9)
      · obtain ⟨as, y, g1, g2, g3, g4, g5, g6, g7, g8⟩ := zcal_of h
        obtain ⟨⟨⟨hlk0, hca⟩, hfl⟩, hn1⟩ := hcx
        have hca : a ∈ zCal := List.elem_iff.mp hca
        have hlt : a < 339 := Nat.lt_succ_of_lt (zCal_lt hca)
        obtain ⟨-, e2, e3, -, e5, -⟩ := zmok_of hlt
        obtain ⟨y1, y2, ⟨y3, y4, y5, y6, y7⟩, y8⟩ := zCal_ok a hca
        have hpre1 : σ.1 <+: y.2.1 := zf_pre _ _ _ _ _ _ _ _ g7
        have hpre2 : y.2.1 <+: σ'.1 := zf_pre _ _ _ _ _ _ _ _ g8
        have hl1 := hpre1.length_le
        have hl2 := zsl_le hpre1
        have hl3 := hpre2.length_le
        have hl4 := zsl_le hpre2
        rw [e3] at g5
        have hM := zMet hn (v := y.1) (σ' := y.2) g7 hca g5 l
        have hts2 : ∀ w ∈ zTb, w.before args s = true := fun w hw => hts w (List.mem_filter.mp hw).1 (List.mem_filter.mp hw).2
        have hlen := zst_len g1 g2
        have hsz : ls.size = (zY k).2.2.1 := hls.1
        have hroom : 2 * (F0 m b0 ls (st.map (zmv ρ))).monitorRoom + (((st.drop (zmi a).2.1).map (zmv ρ)).map fun v => v.category).sum ≤ 8 := lv_room (by rw [zmv_cats]; exact g3)
        have fin : ∀ (H1 : Heap) (locs1 : List Loc), zRep s0 ρ dC dI dA L xs fo y.2 H1 → (∀ q ∈ locs1, s0.heap.size ≤ q.base) → W p l e R s m args below meth c H1 locs1 (cells + (y.2.1.length - σ.1.length)) (slots + (zsl y.2 - zsl σ)) Q (F0 m (b0 + 3) ls ((y.1.toList.map (zmv ρ)) ++ (st.drop (zmi a).2.1).map (zmv ρ))) := fun H1 locs1 h1 h2 => by
          rw [← List.map_append]
          exact K _ _ _ _ _ g8 hn1 H1 locs1 ls _ _ h1 h2 hls (by omega) (by omega) hcl
        have hPre : ∀ U : State, U.heap = H → s.WarmedH U.vm → zPc s0 ρ dC dI dA L xs fo as σ (as.map (zmv ρ)).toArray U := fun U hU' hW => ⟨rfl, hU.warm hW, by rw [hU']; exact hR⟩
        rw [hfl] at e2 y8
        obtain ⟨y8, y9⟩ := y8
        obtain ⟨r, as', rfl, g9⟩ := g6 (by decide)
        have hrecv := z_recv hG hal hR hca hfl (g9 rfl)
        have e2 : (zmi a).2.1 = (zY a).2.2.2.2.2.2 + 1 := e2
        have hln : (as'.map (zmv ρ)).length = (zY a).2.2.2.2.2.2 := by rw [List.length_map]; simp at hlen; omega
        simp only [beq_iff_eq] at hlk0
        rcases hlk0 with q | q
        · have hlk : (Cond.methodLink (zcn (zoc k)) n0 (zY a).1).before args s = true := hts _ (zLok_0 (zML_ok _ (List.mem_of_getElem? q)) (Nat.lt_of_lt_of_le hlt (by decide))) rfl
          exact z_call (va_runV (As := as'.map (zmv ρ)) (rest := (st.drop (zmi a).2.1).map (zmv ρ)) (b := ρ r) (n := (zY a).2.2.2.2.2.2) (bytes := (zY a).2.1) (maxL := (zY a).2.2.1) (ret := (zY a).2.2.2.1) (C := (zY a).1.cls) (index := n0) ⟨hx, hb, hml, hown, hts2⟩ hM ⟨⟨rfl, rfl, by show zrk a _ + 1 ≤ R.frames; omega, by show 8 + ((zY a).2.2.1 + 11) + zrk a _ * 64 ≤ R.locals; omega, pay_in hts2 (zgoodIn _ y1), List.mem_cons_self, hts _ y1 rfl, hts _ y2 rfl, ⟨y4, y5⟩, (fun sig hs => by rw [hs] at y6; exact (Option.some.inj y6).symm), hlk⟩, hts _ y8 rfl, hts _ y9 rfl⟩ ⟨zPc_blind, hrecv, hPre⟩ rfl hln hsz (zst_split g1 ρ) hroom hd ⟨by omega, by omega⟩) hlc fin
        · have hlk : (Cond.methodLinkNest (zcn (zoc k)) n0 (zY a).1 "ThreeSizes").before args s = true := va_Nw.use rfl (hU.2.2 _ _ _ _ (zLok_1 (zML_ok _ (List.mem_of_getElem? q)) (Nat.lt_of_lt_of_le hlt (by decide))))
          exact z_call (va_runVN (As := as'.map (zmv ρ)) (rest := (st.drop (zmi a).2.1).map (zmv ρ)) (b := ρ r) (n := (zY a).2.2.2.2.2.2) (bytes := (zY a).2.1) (maxL := (zY a).2.2.1) (ret := (zY a).2.2.2.1) (C := (zY a).1.cls) (host := "ThreeSizes") (index := n0) ⟨hx, hb, hml, hown, hts2⟩ hM ⟨⟨⟨rfl, rfl, by show zrk a _ + 1 ≤ R.frames; omega, by show 8 + ((zY a).2.2.1 + 11) + zrk a _ * 64 ≤ R.locals; omega, pay_in hts2 (zgoodIn _ y1), List.mem_cons_self⟩, hts _ y1 rfl, hts _ y2 rfl, ⟨y4, y5⟩, (fun sig hs => by rw [hs] at y6; exact (Option.some.inj y6).symm), hlk⟩, hts _ y8 rfl, hts _ y9 rfl⟩ ⟨zPc_blind, hrecv, hPre⟩ rfl hln hsz (zst_split g1 ρ) hroom hd ⟨by omega, by omega⟩) hlc fin
      · (have h2 : (none : zO) = some (v, σ') := h; cases h2)
    | invokestatic n0 =>
      dsimp only at hck
      (try simp only [Bool.and_eq_true, Bool.or_eq_true, decide_eq_true_eq] at hck)
      rcases hck with q | ⟨hcy, hn1⟩
      · subst q
        (have h2 : (none : zO) = some (v, σ') := h; cases h2)
      unfold zstep zx at h
      dsimp only at h
      split at h
      · have hcy : ((zMLT[c0]? == some (zoc k, n0, a, 1, 0) || zMLT[c0]? == some (zoc k, n0, a, 1, 1)) && zCal.elem a && decide ((zY a).2.2.2.2.2.1 = 1)) = true := hcy
        simp only [Bool.and_eq_true, Bool.or_eq_true, decide_eq_true_eq] at hcy
        have hcx := And.intro hcy hn1
        obtain ⟨as, y, g1, g2, g3, g4, g5, g6, g7, g8⟩ := zcal_of h
        obtain ⟨⟨⟨hlk0, hca⟩, hfl⟩, hn1⟩ := hcx
        have hca : a ∈ zCal := List.elem_iff.mp hca
        have hlt : a < 339 := Nat.lt_succ_of_lt (zCal_lt hca)
        obtain ⟨-, e2, e3, -, e5, -⟩ := zmok_of hlt
        obtain ⟨y1, y2, ⟨y3, y4, y5, y6, y7⟩, y8⟩ := zCal_ok a hca
        have hpre1 : σ.1 <+: y.2.1 := zf_pre _ _ _ _ _ _ _ _ g7
        have hpre2 : y.2.1 <+: σ'.1 := zf_pre _ _ _ _ _ _ _ _ g8
        have hl1 := hpre1.length_le
        have hl2 := zsl_le hpre1
        have hl3 := hpre2.length_le
        have hl4 := zsl_le hpre2
        rw [e3] at g5
        have hM := zMet hn (v := y.1) (σ' := y.2) g7 hca g5 l
        have hts2 : ∀ w ∈ zTb, w.before args s = true := fun w hw => hts w (List.mem_filter.mp hw).1 (List.mem_filter.mp hw).2
        have hlen := zst_len g1 g2
        have hsz : ls.size = (zY k).2.2.1 := hls.1
        have hroom : 2 * (F0 m b0 ls (st.map (zmv ρ))).monitorRoom + (((st.drop (zmi a).2.1).map (zmv ρ)).map fun v => v.category).sum ≤ 8 := lv_room (by rw [zmv_cats]; exact g3)
        have fin : ∀ (H1 : Heap) (locs1 : List Loc), zRep s0 ρ dC dI dA L xs fo y.2 H1 → (∀ q ∈ locs1, s0.heap.size ≤ q.base) → W p l e R s m args below meth c H1 locs1 (cells + (y.2.1.length - σ.1.length)) (slots + (zsl y.2 - zsl σ)) Q (F0 m (b0 + 3) ls ((y.1.toList.map (zmv ρ)) ++ (st.drop (zmi a).2.1).map (zmv ρ))) := fun H1 locs1 h1 h2 => by
          rw [← List.map_append]
          exact K _ _ _ _ _ g8 hn1 H1 locs1 ls _ _ h1 h2 hls (by omega) (by omega) hcl
        have hPre : ∀ U : State, U.heap = H → s.WarmedH U.vm → zPc s0 ρ dC dI dA L xs fo as σ (as.map (zmv ρ)).toArray U := fun U hU' hW => ⟨rfl, hU.warm hW, by rw [hU']; exact hR⟩
        rw [hfl] at e2 y8
        have e2 : (zmi a).2.1 = (zY a).2.2.2.2.2.2 := e2
        have hln : (as.map (zmv ρ)).length = (zY a).2.2.2.2.2.2 := by rw [List.length_map]; omega
        simp only [beq_iff_eq] at hlk0
        rcases hlk0 with q | q
        · have hlk : (Cond.methodLink (zcn (zoc k)) n0 (zY a).1).before args s = true := hts _ (zLok_0 (zML_ok _ (List.mem_of_getElem? q)) (Nat.lt_of_lt_of_le hlt (by decide))) rfl
          exact z_call (va_runS (As := as.map (zmv ρ)) (rest := (st.drop (zmi a).2.1).map (zmv ρ)) (n := (zY a).2.2.2.2.2.2) (bytes := (zY a).2.1) (maxL := (zY a).2.2.1) (ret := (zY a).2.2.2.1) (index := n0) ⟨hx, hb, hml, hown, hts2⟩ hM ⟨⟨rfl, rfl, by show zrk a _ + 1 ≤ R.frames; omega, by show 8 + ((zY a).2.2.1 + 11) + zrk a _ * 64 ≤ R.locals; omega, pay_in hts2 (zgoodIn _ y1), List.mem_cons_self, hts _ y1 rfl, hts _ y2 rfl, ⟨y4, y5⟩, (fun sig hs => by rw [hs] at y6; exact (Option.some.inj y6).symm), hlk⟩, hts _ y8 rfl⟩ ⟨zPc_blind, hPre⟩ rfl hln hsz (zst_split0 g1 ρ) hroom hd ⟨by omega, by omega⟩) hlc fin
        · have hlk : (Cond.methodLinkNest (zcn (zoc k)) n0 (zY a).1 "ThreeSizes").before args s = true := va_Nw.use rfl (hU.2.2 _ _ _ _ (zLok_1 (zML_ok _ (List.mem_of_getElem? q)) (Nat.lt_of_lt_of_le hlt (by decide))))
          exact z_call (va_runSN (As := as.map (zmv ρ)) (rest := (st.drop (zmi a).2.1).map (zmv ρ)) (n := (zY a).2.2.2.2.2.2) (bytes := (zY a).2.1) (maxL := (zY a).2.2.1) (ret := (zY a).2.2.2.1) (host := "ThreeSizes") (index := n0) ⟨hx, hb, hml, hown, hts2⟩ hM ⟨⟨⟨rfl, rfl, by show zrk a _ + 1 ≤ R.frames; omega, by show 8 + ((zY a).2.2.1 + 11) + zrk a _ * 64 ≤ R.locals; omega, pay_in hts2 (zgoodIn _ y1), List.mem_cons_self⟩, hts _ y1 rfl, hts _ y2 rfl, ⟨y4, y5⟩, (fun sig hs => by rw [hs] at y6; exact (Option.some.inj y6).symm), hlk⟩, hts _ y8 rfl, trivial⟩ ⟨zPc_blind, hPre⟩ rfl hln hsz (zst_split0 g1 ρ) hroom hd ⟨by omega, by omega⟩) hlc fin
      · have hcy : decide (zMLT[c0]? = some (zoc k, n0, 998, 4, 0)) = true := hcy
        have hlk : Cond.methodLink (zcn (zoc k)) n0 arraycopyName ∈ lw_tbl := zML_ok _ (List.mem_of_getElem? (of_decide_eq_true hcy))
        split at h
        · rename_i n1 dp1 ds1 sp1 sr1 st1
          rcases (show _ ∨ _ from zite_of h) with ⟨hc, h9⟩ | ⟨hc, h9⟩ <;> clear h <;> (have h := h9; clear h9)
          · have hcc := hc
            rcases (show _ ∨ _ from zbif_of h) with ⟨hc, h9⟩ | ⟨hc, h9⟩ <;> clear h <;> (have h := h9; clear h9)
            · obtain ⟨⟨m0, k0, l0⟩, ⟨m1, k1, l1⟩, p1, p2, p3⟩ := zcp_iff hcc
              obtain ⟨h60, g10, g20⟩ := z_own hG hal hR k0 (by decide)
              obtain ⟨h61, g11, g21⟩ := z_own hG hal hR k1 (by decide)
              have hAr := ((va_K.moved hal hG.2.1).2 0 _ rfl).1
              have hcat : zcats st1 ≤ 8 := Nat.le_of_ble_eq_true hc
              have hnw : nativeFrameWords "java/lang/System" "arraycopy" 5 ≤ 40 := by decide +kernel
              refine z_copy hx hb (hml.trans hls.1.symm) hown (hts _ hlk rfl) (hts _ zcp_n rfl) (hts _ zcp_s rfl) (hts _ zcp_i rfl) (f := fun j => gI σ sr1 j) (g := fun j => gI σ ds1 j) g10 g11 hAr p1 p2 p3 l0 l1 (by omega) (by rw [zmv_cats]; omega) hd fun H1 locs1 z1 e1 o1 hl1 => ?_
              refine K _ _ _ _ _ h hn1 H1 locs1 ls cells slots (zRep_set hG hR rfl h61 k1 z1 o1 (Or.inr ⟨by decide, ?_⟩) (by intro r j hr; simp [gI, sC, hr]) (by intro r j hr; rfl) (by intro r j hr; rfl)) (fun q hq => ?_) hls hce hsl hcl
              · rw [e1, vp_cell_i]
                refine congrArg some (congrArg (arrV (dA 32) m1) (funext fun j => ?_))
                show Value.int _ = Value.int _
                congr 1
                show va_cpy _ _ _ _ _ j = if ds1 = ds1 ∧ ix dp1 ≤ j ∧ j < ix dp1 + ix n1 then gI σ sr1 (ix sp1 + (j - ix dp1)) else gI σ ds1 j
                unfold va_cpy
                simp
              · rcases hl1 q hq with hq1 | hq1
                · exact hlc q hq1
                · rw [hq1, hG.1 _ h61]
                  omega
            · (have h2 : (none : zO) = some (v, σ') := h; cases h2)
          · (have h2 : (none : zO) = some (v, σ') := h; cases h2)
        · (have h2 : (none : zO) = some (v, σ') := h; cases h2)
      · (have h2 : (none : zO) = some (v, σ') := h; cases h2)
    | invokespecial n0 =>
      dsimp only at hck
      (try simp only [Bool.and_eq_true, Bool.or_eq_true, decide_eq_true_eq] at hck)
      rcases hck with q | ⟨hcy, hn1⟩
      · subst q
        (have h2 : (none : zO) = some (v, σ') := h; cases h2)
      unfold zstep zx at h
      dsimp only at h
      split at h
      · have hcy : ((zMLT[c0]? == some (zoc k, n0, a, 2, 0) || zMLT[c0]? == some (zoc k, n0, a, 2, 1)) && zCal.elem a && decide ((zY a).2.2.2.2.2.1 = 2)) = true := hcy
        simp only [Bool.and_eq_true, Bool.or_eq_true, decide_eq_true_eq] at hcy
        have hcx := And.intro hcy hn1
        obtain ⟨as, y, g1, g2, g3, g4, g5, g6, g7, g8⟩ := zcal_of h
        obtain ⟨⟨⟨hlk0, hca⟩, hfl⟩, hn1⟩ := hcx
        have hca : a ∈ zCal := List.elem_iff.mp hca
        have hlt : a < 339 := Nat.lt_succ_of_lt (zCal_lt hca)
        obtain ⟨-, e2, e3, -, e5, -⟩ := zmok_of hlt
        obtain ⟨y1, y2, ⟨y3, y4, y5, y6, y7⟩, y8⟩ := zCal_ok a hca
        have hpre1 : σ.1 <+: y.2.1 := zf_pre _ _ _ _ _ _ _ _ g7
        have hpre2 : y.2.1 <+: σ'.1 := zf_pre _ _ _ _ _ _ _ _ g8
        have hl1 := hpre1.length_le
        have hl2 := zsl_le hpre1
        have hl3 := hpre2.length_le
        have hl4 := zsl_le hpre2
        rw [e3] at g5
        have hM := zMet hn (v := y.1) (σ' := y.2) g7 hca g5 l
        have hts2 : ∀ w ∈ zTb, w.before args s = true := fun w hw => hts w (List.mem_filter.mp hw).1 (List.mem_filter.mp hw).2
        have hlen := zst_len g1 g2
        have hsz : ls.size = (zY k).2.2.1 := hls.1
        have hroom : 2 * (F0 m b0 ls (st.map (zmv ρ))).monitorRoom + (((st.drop (zmi a).2.1).map (zmv ρ)).map fun v => v.category).sum ≤ 8 := lv_room (by rw [zmv_cats]; exact g3)
        have fin : ∀ (H1 : Heap) (locs1 : List Loc), zRep s0 ρ dC dI dA L xs fo y.2 H1 → (∀ q ∈ locs1, s0.heap.size ≤ q.base) → W p l e R s m args below meth c H1 locs1 (cells + (y.2.1.length - σ.1.length)) (slots + (zsl y.2 - zsl σ)) Q (F0 m (b0 + 3) ls ((y.1.toList.map (zmv ρ)) ++ (st.drop (zmi a).2.1).map (zmv ρ))) := fun H1 locs1 h1 h2 => by
          rw [← List.map_append]
          exact K _ _ _ _ _ g8 hn1 H1 locs1 ls _ _ h1 h2 hls (by omega) (by omega) hcl
        have hPre : ∀ U : State, U.heap = H → s.WarmedH U.vm → zPc s0 ρ dC dI dA L xs fo as σ (as.map (zmv ρ)).toArray U := fun U hU' hW => ⟨rfl, hU.warm hW, by rw [hU']; exact hR⟩
        rw [hfl] at e2 y8
        have hre := zret_init a hlt hfl
        rw [hre] at hM y1
        obtain ⟨y8, y9⟩ := y8
        obtain ⟨r, as', rfl, g9⟩ := g6 (by decide)
        have e2 : (zmi a).2.1 = (zY a).2.2.2.2.2.2 + 1 := e2
        have hln : (as'.map (zmv ρ)).length = (zY a).2.2.2.2.2.2 := by rw [List.length_map]; simp at hlen; omega
        have hgi : GoodIn zTb (Cond.code (zY a).1 (zY a).2.1 (zY a).2.2.1 none :: zTb) := by have := zgoodIn (zY a) (by rw [hre]; exact y1); rw [hre] at this; exact this
        simp only [beq_iff_eq] at hlk0
        rcases hlk0 with q | q
        · have hlk : (Cond.methodLink (zcn (zoc k)) n0 (zY a).1).before args s = true := hts _ (zLok_0 (zML_ok _ (List.mem_of_getElem? q)) (Nat.lt_of_lt_of_le hlt (by decide))) rfl
          exact z_call (va_runI (As := as'.map (zmv ρ)) (rest := (st.drop (zmi a).2.1).map (zmv ρ)) (b := ρ r) (n := (zY a).2.2.2.2.2.2) (bytes := (zY a).2.1) (maxL := (zY a).2.2.1) (index := n0) ⟨hx, hb, hml, hown, hts2⟩ hM ⟨⟨rfl, rfl, by show zrk a _ + 1 ≤ R.frames; omega, by show 8 + ((zY a).2.2.1 + 11) + zrk a _ * 64 ≤ R.locals; omega, pay_in hts2 hgi, List.mem_cons_self, hts _ y1 rfl, hts _ y2 rfl, ⟨y4, y5⟩, (fun sig hs => by rw [hs] at y6; exact (Option.some.inj y6).symm), hlk⟩, y9, hts _ y8 rfl⟩ ⟨zPc_blind, hPre⟩ rfl hln hsz (zst_split g1 ρ) hroom hd ⟨by omega, by omega⟩) hlc fin
        · have hlk : (Cond.methodLinkNest (zcn (zoc k)) n0 (zY a).1 "ThreeSizes").before args s = true := va_Nw.use rfl (hU.2.2 _ _ _ _ (zLok_1 (zML_ok _ (List.mem_of_getElem? q)) (Nat.lt_of_lt_of_le hlt (by decide))))
          exact z_call (va_runIN (As := as'.map (zmv ρ)) (rest := (st.drop (zmi a).2.1).map (zmv ρ)) (b := ρ r) (n := (zY a).2.2.2.2.2.2) (bytes := (zY a).2.1) (maxL := (zY a).2.2.1) (host := "ThreeSizes") (index := n0) ⟨hx, hb, hml, hown, hts2⟩ hM ⟨⟨⟨rfl, rfl, by show zrk a _ + 1 ≤ R.frames; omega, by show 8 + ((zY a).2.2.1 + 11) + zrk a _ * 64 ≤ R.locals; omega, pay_in hts2 hgi, List.mem_cons_self⟩, hts _ y1 rfl, hts _ y2 rfl, ⟨y4, y5⟩, (fun sig hs => by rw [hs] at y6; exact (Option.some.inj y6).symm), hlk⟩, y9, hts _ y8 rfl⟩ ⟨zPc_blind, hPre⟩ rfl hln hsz (zst_split g1 ρ) hroom hd ⟨by omega, by omega⟩) hlc fin
      · have hcy : decide (zMLT[c0]? = some (zoc k, n0, 999, 3, 0)) = true := hcy
        have hlk : Cond.methodLink (zcn (zoc k)) n0 objectInit ∈ lw_tbl := zML_ok _ (List.mem_of_getElem? (of_decide_eq_true hcy))
        split at h
        · rename_i r1 st1
          rcases (show _ ∨ _ from zbif_of h) with ⟨hc, h9⟩ | ⟨hc, h9⟩ <;> clear h <;> (have h := h9; clear h9)
          · have hcat : zcats st1 ≤ 8 := Nat.le_of_ble_eq_true hc
            have hroom : 2 * (F0 m b0 ls ((.ref r1 :: st1).map (zmv ρ))).monitorRoom + ((st1.map (zmv ρ)).map fun v => v.category).sum ≤ 8 := lv_room (by rw [zmv_cats]; exact hcat)
            exact W.objInit hx hb hown (hts _ hlk rfl) (hts _ zob_i rfl) (hts _ zob_c rfl) rfl (hls.1.trans hml.symm) rfl hd (by omega) (by omega) (K0 _ _ _ _ h hn1 ls hls hcl)
          · (have h2 : (none : zO) = some (v, σ') := h; cases h2)
        · (have h2 : (none : zO) = some (v, σ') := h; cases h2)
      · (have h2 : (none : zO) = some (v, σ') := h; cases h2)
    | _ => (have h2 : (none : zO) = some (v, σ') := h; cases h2)
theorem z_sound (hG : zG s0 ρ dC dI dA L xs fo) (n : Nat) : zSound s0 ρ dC dI dA L xs fo n := by
  induction n with
  | zero => intro d k i cl st σ v σ' b h; simp [zf] at h
  | succ n ih => exact z_step hG ih
end
