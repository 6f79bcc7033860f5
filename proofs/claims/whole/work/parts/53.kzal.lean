/-! methods that make no cell -/
def zAl : List Nat := [0, 16, 30, 32, 43, 44, 52, 65, 78, 79, 91, 112, 118, 187, 336, 338]
def al (m : Nat) : Bool := zAl.elem m
def okA (A : Bool) (e : zI) : Bool := match e with
  | (_, ins, _, a, b, _, _, _) => match ins with
    | .new _ => A
    | .newarray _ => A
    | .anewarray _ => A
    | .invokevirtual _ => b != 0 || (!al a || A)
    | .invokespecial _ => b != 2 || (!al a || A)
    | .invokestatic _ => b != 1 || (!al a || A)
    | _ => true
set_option maxRecDepth 100000 in
theorem okA_all : ∀ m, m < 339 → (zL m).all (okA (al m)) = true := by decide +kernel
theorem okA_of {m i : Nat} {e : zI} (h : (zL m)[i]? = some e) : okA (al m) e = true := by
  have hm : m < 339 := by
    rcases Nat.lt_or_ge m 339 with h1 | h1
    · exact h1
    · have : zL m = [] := by
        unfold zL
        rw [List.getD_eq_getElem?_getD, List.getElem?_eq_none]
        · rfl
        · have hl : zLL.length = 339 := by decide +kernel
          omega
      rw [this] at h
      simp at h
  exact List.all_eq_true.mp (okA_all m hm) e (List.mem_of_getElem? h)
def NA (A : Bool) (σ σ' : zS) : Prop := A = true ∨ σ'.1 = σ.1
def zAN (A : Bool) (σ : zS) (a : zA) : Prop := match a with
  | none => True
  | some (.inl (_, _, _, σ1)) => NA A σ σ1
  | some (.inr (.inl (_, σ1))) => NA A σ σ1
  | some (.inr (.inr (m, _, _, _, _, σ1))) => (!al m || A) = true ∧ NA A σ σ1
section
variable {σ : zS} {A : Bool}
theorem NA.trans {σ1 σ2 : zS} (h : NA A σ σ1) (h2 : NA A σ1 σ2) : NA A σ σ2 := by
  rcases h with h | h
  · exact .inl h
  · rcases h2 with h2 | h2
    · exact .inl h2
    · exact .inr (h2.trans h)
theorem NA.mono {A' : Bool} {σ1 : zS} (h : NA A' σ σ1) (hA : (!A' || A) = true) : NA A σ σ1 := by
  rcases h with h | h
  · rw [h] at hA
    exact .inl hA
  · exact .inr h
theorem zAN_ite {p : Prop} {hp : Decidable p} {a b : zA} (h1 : p → zAN A σ a) (h2 : zAN A σ b) : zAN A σ (@ite _ p hp a b) := by cases hp <;> first | exact h2 | exact h1 ‹_›
theorem zAN_cond {c : Bool} {a b : zA} (h1 : c = true → zAN A σ a) (h2 : c = false → zAN A σ b) : zAN A σ (bif c then a else b) := by cases c <;> first | exact h2 rfl | exact h1 rfl
theorem zAN_sw {f : Nat → zA} (l : List (Int32 × Nat)) (x : Int32) (d : Nat) (h : ∀ t, zAN A σ (f t)) : zAN A σ (zsw l x d f) := by
  induction l with
  | nil => exact h d
  | cons q l ih => obtain ⟨v, t⟩ := q; unfold zsw; exact zAN_ite (fun _ => h t) ih
theorem zAN_eR {o : Option Nat} {f : Nat → zA} (h : ∀ q, o = some q → zAN A σ (f q)) : zAN A σ (zeR none o f) := by cases o <;> first | trivial | exact h _ rfl
theorem zAN_eN {o : Option Nat} {g : zA} {f : Nat → zA} (h1 : zAN A σ g) (h : ∀ q, o = some q → zAN A σ (f q)) : zAN A σ (zeN o g f) := by cases o <;> first | exact h1 | exact h _ rfl
theorem zAN_cal (d a b nx : Nat) {cl : List (Option Value)} {st : List Value} (hq : (!al a || A) = true) : zAN A σ (zcal zmi none (fun m args nx cl st σ => some (.inr (.inr (m, args, nx, cl, st, σ)))) d a b nx cl st σ) := by
  unfold zcal
  refine zAN_cond (fun _ => zAN_cond (fun _ => zAN_cond (fun _ => zAN_cond (fun _ => ?_) (fun _ => trivial)) (fun _ => trivial)) (fun _ => trivial)) (fun _ => trivial)
  split
  · exact ⟨hq, .inr rfl⟩
  · split
    · exact zAN_ite (fun _ => ⟨hq, .inr rfl⟩) trivial
    · trivial
  · split
    · exact ⟨hq, .inr rfl⟩
    · trivial
end
set_option maxHeartbeats 8000000 in
theorem zstep_na {A : Bool} (d m : Nat) (e : zI) (cl : List (Option Value)) (st : List Value) (σ : zS) (he : okA A e = true) : zAN A σ (zstep d m e cl st σ) := by
  unfold zstep
  obtain ⟨bp, ins, nx, a, b, c, cI, cL⟩ := e
  have hr : NA A σ σ := .inr rfl
  unfold okA at he
  cases ins <;> unfold zx <;> dsimp only at he ⊢
  all_goals try trivial
  all_goals try (unfold zret)
  all_goals repeat' (first | trivial | exact hr | exact zAN_cal _ _ _ _ (by simpa using he) | (refine zAN_ite ?_ ?_; intro hi) | (refine zAN_cond ?_ ?_ <;> intro hi) | apply zAN_sw | (refine zAN_eR ?_; intro q hq) | (refine zAN_eN ?_ ?_; rotate_left; intro q hq; rotate_right) | intro t | split)
  all_goals try trivial
  all_goals try (exact Or.inr rfl)
  all_goals try (exact Or.inl he)
  · refine ⟨?_, Or.inr rfl⟩
    rename_i hb _ _ _ _ _ _ _ _ _ _
    have hb : b = 0 := Nat.eq_of_beq_eq_true hb
    subst hb
    simpa using he
theorem zf_na (n : Nat) : ∀ (d m i : Nat) (cl : List (Option Value)) (st : List Value) (σ : zS) (x : Option Value × zS), zf n d m i cl st σ = some x → NA (al m) σ x.2 := by
  induction n with
  | zero => intro d m i cl st σ x h; simp [zf] at h
  | succ n ih =>
    intro d m i cl st σ x h
    rw [zf_succ] at h
    split at h
    · simp at h
    · rename_i e he
      have hp := zstep_na d m e cl st σ (okA_of he)
      match hz : zstep d m e cl st σ, hp, h with
      | some (.inl (i', cl', st', σ1)), hp, h => exact NA.trans hp (ih _ _ _ _ _ _ _ h)
      | some (.inr (.inl (v, σ1))), hp, h => cases h; exact hp
      | some (.inr (.inr (m', args, nx, cl', st', σ1))), hp, h =>
        obtain ⟨g0, g1⟩ := hp
        have h : zbk (zmi m').1 (zfM n m' args σ1) (fun vs σ => zf n d m nx cl' (vs ++ st') σ) = some x := h
        obtain ⟨y, vs, h1, h2, h3, -⟩ := zbk_some h
        exact (NA.trans g1 ((ih _ _ _ _ _ _ _ h1).mono g0)).trans (ih _ _ _ _ _ _ _ h3)
/-- the cells are as many, and of the same kinds -/
theorem zM_na {m : Nat} {args : List Value} {σ σ' : zS} {v : Option Value} (hm : al m = false) (h : zM m args σ = some (v, σ')) : σ'.1 = σ.1 := by
  obtain ⟨n, hn⟩ := zM_ex h
  rcases zf_na n _ _ _ _ _ _ _ hn with q | q
  · rw [hm] at q
    cases q
  · exact q
