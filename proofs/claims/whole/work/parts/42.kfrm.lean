/-! what a run leaves alone: the cells B that nothing of it can reach -/
def vok (B : Nat → Prop) (v : Value) : Prop := match v with
  | .ref r => ¬ B r
  | _ => True
def sok (B : Nat → Prop) (st : List Value) : Prop := ∀ v, v ∈ st → vok B v
def cok (B : Nat → Prop) (cl : List (Option Value)) : Prop := ∀ v, some v ∈ cl → vok B v
def Cl (B : Nat → Prop) (σ : zS) : Prop := (∀ r j q, ¬ B r → gR σ r j = some q → ¬ B q) ∧ (∀ r, B r → r < σ.1.length) ∧ ¬ B 1 ∧ ¬ B 2 ∧ ¬ B 4
def Fr (B : Nat → Prop) (σ σ' : zS) : Prop := ∀ r, B r → ∀ j, gI σ' r j = gI σ r j ∧ gL σ' r j = gL σ r j ∧ gR σ' r j = gR σ r j
def zAF (B : Nat → Prop) (σ : zS) (a : zA) : Prop := match a with
  | none => True
  | some (.inl (_, cl, st, σ1)) => cok B cl ∧ sok B st ∧ Cl B σ1 ∧ Fr B σ σ1
  | some (.inr (.inl (v, σ1))) => (∀ w, v = some w → vok B w) ∧ Cl B σ1 ∧ Fr B σ σ1
  | some (.inr (.inr (_, args, _, cl, st, σ1))) => sok B args ∧ cok B cl ∧ sok B st ∧ Cl B σ1 ∧ Fr B σ σ1
section
variable {B : Nat → Prop} {σ : zS}
theorem Fr.refl (B : Nat → Prop) (σ : zS) : Fr B σ σ := fun _ _ _ => ⟨rfl, rfl, rfl⟩
theorem Fr.trans {σ1 σ2 : zS} (h : Fr B σ σ1) (h2 : Fr B σ1 σ2) : Fr B σ σ2 := fun r hr j => by
  obtain ⟨a1, a2, a3⟩ := h r hr j
  obtain ⟨b1, b2, b3⟩ := h2 r hr j
  exact ⟨b1.trans a1, b2.trans a2, b3.trans a3⟩
theorem sok_cons {v : Value} {st : List Value} : sok B (v :: st) ↔ vok B v ∧ sok B st := by simp [sok]
theorem sok_nil : sok B [] := by simp [sok]
theorem sok_app {s t : List Value} (h : sok B s) (h2 : sok B t) : sok B (s ++ t) := by
  intro v hv
  rcases List.mem_append.mp hv with h' | h'
  · exact h v h'
  · exact h2 v h'
theorem vok_int (x : Int32) : vok B (.int x) := trivial
theorem vok_long (x : Int64) : vok B (.long x) := trivial
theorem vok_null : vok B .null := trivial
theorem vok_ref {r : Nat} : vok B (.ref r) ↔ ¬ B r := Iff.rfl
theorem cok_ld {cl : List (Option Value)} {i : Nat} {v : Value} (h : cok B cl) (hz : zld cl i = some v) : vok B v :=
  h v (List.mem_of_getElem? (zld_iff.mp hz))
theorem cok_set {cl : List (Option Value)} {i : Nat} {o : Option Value} (h : cok B cl) (ho : ∀ w, o = some w → vok B w) : cok B (cl.set i o) := by
  intro v hv
  rcases List.mem_or_eq_of_mem_set hv with h' | h'
  · exact h v h'
  · exact ho v h'.symm
theorem cok_un {cl : List (Option Value)} {i : Nat} (h : cok B cl) : cok B (zun cl i) := by
  unfold zun
  split
  · exact h
  · split
    · cases hb : Nat.beq (zcat _) 2
      · exact h
      · exact cok_set h (by simp)
    · exact h
theorem cok_st1 {cl : List (Option Value)} {i : Nat} {v : Value} (h : cok B cl) (hv : vok B v) : cok B (zst1 cl i v) :=
  cok_set (cok_un h) (by rintro w ⟨⟩; exact hv)
theorem cok_st2 {cl : List (Option Value)} {i : Nat} {v : Value} (h : cok B cl) (hv : vok B v) : cok B (zst2 cl i v) :=
  cok_set (cok_set (cok_un h) (by rintro w ⟨⟩; exact hv)) (by simp)
theorem cok_args {args : List Value} (h : sok B args) : cok B (zargs args) := by
  induction args with
  | nil => intro v hv; simp [zargs] at hv
  | cons a l ih =>
    have h' := sok_cons.mp h
    unfold zargs
    intro v hv
    cases hb : Nat.beq (zcat a) 2 <;> rw [hb] at hv <;> simp at hv <;> rcases hv with rfl | hv <;> first | exact h'.1 | exact ih h'.2 v hv
theorem cok_lo {m : Nat} {args : List Value} (h : sok B args) : cok B (zlo m args) := by
  intro v hv
  unfold zlo zpad at hv
  rcases List.mem_append.mp hv with h' | h'
  · exact cok_args h v h'
  · simp at h'
theorem Fr_sI {r j : Nat} {v : Int32} (h : ¬ B r) : Fr B σ (sI σ r j v) := fun r' hr j' => by
  refine ⟨?_, rfl, rfl⟩
  rw [gI_sI, if_neg]
  rintro ⟨rfl, -⟩
  exact h hr
theorem Fr_sL {r j : Nat} {v : Int64} (h : ¬ B r) : Fr B σ (sL σ r j v) := fun r' hr j' => by
  refine ⟨rfl, ?_, rfl⟩
  rw [gL_sL, if_neg]
  rintro ⟨rfl, -⟩
  exact h hr
theorem Fr_sR {r j : Nat} {v : Option Nat} (h : ¬ B r) : Fr B σ (sR σ r j v) := fun r' hr j' => by
  refine ⟨rfl, rfl, ?_⟩
  rw [gR_sR, if_neg]
  rintro ⟨rfl, -⟩
  exact h hr
theorem Fr_sC {a p b q n : Nat} (h : ¬ B b) : Fr B σ (sC σ a p b q n) := fun r' hr j' => by
  refine ⟨?_, rfl, rfl⟩
  show (if r' = b ∧ _ then _ else _) = _
  rw [if_neg]
  · rfl
  rintro ⟨rfl, -⟩
  exact h hr
theorem Fr_sN {t n : Nat} (hC : Cl B σ) : Fr B σ (sN σ t n) := fun r' hr j' => by
  have h : r' ≠ σ.1.length := by have := hC.2.1 r' hr; omega
  refine ⟨?_, ?_, ?_⟩
  · show (if r' = σ.1.length then _ else _) = _
    rw [if_neg h]; rfl
  · show (if r' = σ.1.length then _ else _) = _
    rw [if_neg h]; rfl
  · show (if r' = σ.1.length then _ else _) = _
    rw [if_neg h]; rfl
theorem Cl_sI {r j : Nat} {v : Int32} (h : Cl B σ) : Cl B (sI σ r j v) := h
theorem Cl_sL {r j : Nat} {v : Int64} (h : Cl B σ) : Cl B (sL σ r j v) := h
theorem Cl_sC {a p b q n : Nat} (h : Cl B σ) : Cl B (sC σ a p b q n) := h
theorem Cl_sR {r j v : Nat} (h : Cl B σ) (hv : ¬ B v) : Cl B (sR σ r j (some v)) := by
  refine ⟨fun r' j' q hr hq => ?_, h.2⟩
  rw [gR_sR] at hq
  split at hq
  · cases hq; exact hv
  · exact h.1 r' j' q hr hq
theorem Cl_sN {t n : Nat} (h : Cl B σ) : Cl B (sN σ t n) := by
  refine ⟨fun r' j' q hr hq => ?_, fun r' hr => ?_, h.2.2⟩
  · have hq : (if r' = σ.1.length then none else gR σ r' j') = some q := hq
    split at hq
    · simp at hq
    · exact h.1 r' j' q hr hq
  · have := h.2.1 r' hr
    show r' < (σ.1 ++ [(t, n)]).length
    simp
    omega
theorem sz_ok (h : Cl B σ) : ¬ B (sz σ) := fun q => by have := h.2.1 _ q; unfold sz at this; omega
theorem zAF_ite {p : Prop} {hp : Decidable p} {a b : zA} (h1 : zAF B σ a) (h2 : zAF B σ b) : zAF B σ (@ite _ p hp a b) := by cases hp <;> assumption
theorem zAF_cond {c : Bool} {a b : zA} (h1 : zAF B σ a) (h2 : zAF B σ b) : zAF B σ (bif c then a else b) := by cases c <;> assumption
theorem zAF_sw {f : Nat → zA} (l : List (Int32 × Nat)) (x : Int32) (d : Nat) (h : ∀ t, zAF B σ (f t)) : zAF B σ (zsw l x d f) := by
  induction l with
  | nil => exact h d
  | cons q l ih => obtain ⟨v, t⟩ := q; unfold zsw; exact zAF_ite (h t) ih
theorem zAF_eR {o : Option Nat} {f : Nat → zA} (h : ∀ q, o = some q → zAF B σ (f q)) : zAF B σ (zeR none o f) := by cases o <;> first | trivial | exact h _ rfl
theorem zAF_eN {o : Option Nat} {g : zA} {f : Nat → zA} (h1 : zAF B σ g) (h : ∀ q, o = some q → zAF B σ (f q)) : zAF B σ (zeN o g f) := by cases o <;> first | exact h1 | exact h _ rfl
theorem sok_take {st : List Value} (n : Nat) (h : sok B st) : sok B (st.take n).reverse := fun v hv => h v (List.mem_of_mem_take (List.mem_reverse.mp hv))
theorem sok_drop {st : List Value} (n : Nat) (h : sok B st) : sok B (st.drop n) := fun v hv => h v (List.mem_of_mem_drop hv)
theorem zAF_cal (d a b nx : Nat) {cl : List (Option Value)} {st : List Value} (hc : cok B cl) (hs : sok B st) (hC : Cl B σ) : zAF B σ (zcal zmi none (fun m args nx cl st σ => some (.inr (.inr (m, args, nx, cl, st, σ)))) d a b nx cl st σ) := by
  unfold zcal
  have h1 := sok_take (zmi a).2.1 hs
  have h2 := sok_drop (zmi a).2.1 hs
  refine zAF_cond (zAF_cond (zAF_cond (zAF_cond ?_ trivial) trivial) trivial) trivial
  split
  · exact ⟨h1, hc, h2, hC, Fr.refl _ _⟩
  · split
    · rename_i hq
      refine zAF_ite ⟨?_, hc, h2, hC, Fr.refl _ _⟩ trivial
      rw [← hq]; exact h1
    · trivial
  · split
    · rename_i hq
      refine ⟨?_, hc, h2, hC, Fr.refl _ _⟩
      rw [← hq]; exact h1
    · trivial
end
set_option maxHeartbeats 8000000 in
theorem zstep_fr {B : Nat → Prop} (d m : Nat) (e : zI) (cl : List (Option Value)) (st : List Value) (σ : zS) (hc : cok B cl) (hs : sok B st) (hC : Cl B σ) : zAF B σ (zstep d m e cl st σ) := by
  unfold zstep
  obtain ⟨bp, ins, nx, a, b, c, cI, cL⟩ := e
  have hr := Fr.refl B σ
  have hz := sz_ok hC
  cases ins <;> unfold zx <;> dsimp only
  all_goals try trivial
  all_goals try (exact zAF_cal _ _ _ _ hc hs hC)
  all_goals try (exact zAF_cond (zAF_cal _ _ _ _ hc hs hC) trivial)
  all_goals try (unfold zret)
  all_goals repeat' (first | trivial | exact zAF_cal _ _ _ _ hc hs hC | apply zAF_ite | apply zAF_cond | apply zAF_sw | (refine zAF_eR ?_; intro q hq) | (refine zAF_eN ?_ ?_; rotate_left; intro q hq; rotate_right) | intro t | exact zAF_cal _ _ _ _ hc hs hC | split)
  all_goals try trivial
  all_goals try simp only [sok_cons] at hs
  all_goals (refine ⟨?_, ?_, ?_⟩ <;> first | assumption | skip)
  all_goals try (exact cok_st1 hc (by first | trivial | exact hs.1 | exact cok_ld hc ‹_›))
  all_goals try (exact cok_st2 hc (by first | trivial | exact hs.1))
  all_goals try (refine ⟨?_, ?_⟩ <;> first | assumption | skip)
  all_goals try (first | exact hs.2 | exact hs.2.2 | exact hs.2.2.2 | exact hs.2.2.2.2 | exact hs.2.2.2.2.2)
  all_goals try (show ∀ w, (_ : Option Value) = some w → vok B w; intro w hw; first | (cases hw; done) | (cases hw; first | trivial | exact hs.1))
  all_goals try (first | exact Fr_sN hC | exact Cl_sN hC)
  all_goals try (first | exact Fr_sI hs.2.1 | exact Fr_sI hs.2.2.1 | exact Fr_sL hs.2.1 | exact Fr_sL hs.2.2.1 | exact Fr_sR hs.2.1 | exact Fr_sR hs.2.2.1 | exact Cl_sR hC hs.1 | exact Fr_sC hs.2.2.1)
  all_goals try (exact sok_cons.mpr ⟨trivial, by first | exact hs | exact hs.2 | exact hs.2.2⟩)
  all_goals try (exact sok_cons.mpr ⟨hz, by first | exact hs | exact hs.2⟩)
  all_goals try (exact sok_cons.mpr ⟨hC.1 _ _ _ hs.1 ‹_›, hs.2⟩)
  all_goals try (exact sok_cons.mpr ⟨hC.1 _ _ _ hs.2.1 ‹_›, hs.2.2⟩)
  all_goals try (exact sok_cons.mpr ⟨hC.1 _ _ _ hC.2.2.2.2 ‹_›, hs⟩)
  all_goals try (exact sok_cons.mpr ⟨hC.2.2.1, hs⟩)
  all_goals try (exact sok_cons.mpr ⟨hC.2.2.2.1, hs⟩)
  all_goals try (exact sok_cons.mpr ⟨cok_ld hc ‹_›, hs⟩)
  all_goals try (exact sok_cons.mpr ⟨hs.1, sok_cons.mpr hs⟩)
  all_goals try (exact sok_cons.mpr ⟨trivial, sok_cons.mpr ⟨hs.2.1, sok_cons.mpr ⟨trivial, sok_cons.mpr hs.2⟩⟩⟩)
theorem zf_fr {B : Nat → Prop} (n : Nat) : ∀ (d m i : Nat) (cl : List (Option Value)) (st : List Value) (σ : zS) (x : Option Value × zS), cok B cl → sok B st → Cl B σ → zf n d m i cl st σ = some x → (∀ w, x.1 = some w → vok B w) ∧ Cl B x.2 ∧ Fr B σ x.2 := by
  induction n with
  | zero => intro d m i cl st σ x _ _ _ h; simp [zf] at h
  | succ n ih =>
    intro d m i cl st σ x hc hs hC h
    rw [zf_succ] at h
    split at h
    · simp at h
    · rename_i e _
      have hp := zstep_fr d m e cl st σ hc hs hC
      match hz : zstep d m e cl st σ, hp, h with
      | some (.inl (i', cl', st', σ1)), hp, h =>
        obtain ⟨g1, g2, g3, g4⟩ := hp
        obtain ⟨k1, k2, k3⟩ := ih _ _ _ _ _ _ _ g1 g2 g3 h
        exact ⟨k1, k2, g4.trans k3⟩
      | some (.inr (.inl (v, σ1))), hp, h => cases h; exact hp
      | some (.inr (.inr (m', args, nx, cl', st', σ1))), hp, h =>
        obtain ⟨g0, g1, g2, g3, g4⟩ := hp
        have h : zbk (zmi m').1 (zfM n m' args σ1) (fun vs σ => zf n d m nx cl' (vs ++ st') σ) = some x := h
        obtain ⟨y, vs, h1, h2, h3, -⟩ := zbk_some h
        obtain ⟨k1, k2, k3⟩ := ih _ _ _ _ _ _ _ (cok_lo g0) sok_nil g3 h1
        have hv : sok B vs := by
          intro v hv
          rw [← h2] at hv
          exact k1 v (by simpa [Option.mem_toList] using hv)
        obtain ⟨j1, j2, j3⟩ := ih _ _ _ _ _ _ _ g1 (sok_app hv g2) k2 h3
        exact ⟨j1, j2, (g4.trans k3).trans j3⟩
/-- a run leaves alone what nothing of it can reach -/
theorem zM_fr {B : Nat → Prop} {m : Nat} {args : List Value} {σ σ' : zS} {v : Option Value} (hs : sok B args) (hC : Cl B σ) (h : zM m args σ = some (v, σ')) : Cl B σ' ∧ Fr B σ σ' := by
  obtain ⟨n, hn⟩ := zM_ex h
  exact (zf_fr n _ _ _ _ _ _ _ (cok_lo hs) sok_nil hC hn).2
