/-! runs of the clean machine, their values, and how a value is read off the tables -/
def zbV (o : zO) (f : zS → zO) : zO := match o with
  | some (none, σ) => f σ
  | _ => none
def zbI (o : zO) (f : Int32 → zS → zO) : zO := match o with
  | some (some (.int x), σ) => f x σ
  | _ => none
def zbL (o : zO) (f : Int64 → zS → zO) : zO := match o with
  | some (some (.long x), σ) => f x σ
  | _ => none
def zbR (o : zO) (f : Nat → zS → zO) : zO := match o with
  | some (some (.ref x), σ) => f x σ
  | _ => none
/-- what comes behind a call of a method of the return kind t -/
def zbk (t : Nat) (o : zO) (f : List Value → zS → zO) : zO := match t with
  | 0 => zbV o (fun σ => f [] σ)
  | 2 => zbL o (fun x σ => f [.long x] σ)
  | 3 => zbR o (fun x σ => f [.ref x] σ)
  | _ => zbI o (fun x σ => f [.int x] σ)
def zca (M : Nat → List Value → zS → zO) (k : Nat → List (Option Value) → List Value → zS → zO) (m : Nat) (args : List Value) (nx : Nat) (cl : List (Option Value)) (st : List Value) (σ : zS) : zO := zbk (zmi m).1 (M m args σ) (fun vs σ => k nx cl (vs ++ st) σ)
def zrt (v : Option Value) (σ : zS) : zO := some (v, σ)
def zlo (m : Nat) (args : List Value) : List (Option Value) := zpad (zmi m).2.2.1 (zargs args)
def zf : Nat → Nat → Nat → Nat → List (Option Value) → List Value → zS → zO
  | 0, _, _, _, _, _, _ => none
  | n + 1, d, m, i, cl, st, σ => match (zL m)[i]? with
    | none => none
    | some e => zx zmi zSW none zrt (zf n d m) (zca (fun m' args σ => zf n (zrk m' args) m' 0 (zlo m' args) [] σ) (zf n d m)) d m e cl st σ
noncomputable def zR (d m i : Nat) (cl : List (Option Value)) (st : List Value) (σ : zS) : zO :=
  @dite _ (∃ x, ∃ n, zf n d m i cl st σ = some x) (Classical.propDecidable _) (fun h => some (Classical.choose h)) (fun _ => none)
noncomputable def zM (m : Nat) (args : List Value) (σ : zS) : zO := zR (zrk m args) m 0 (zlo m args) [] σ
def zlt (σ : zS) (f : zS → zO) : zO := f σ
def zln (n : Nat) (f : Nat → zO) : zO := f n
def zli (x : Int32) (f : Int32 → zO) : zO := f x
def zll (x : Int64) (f : Int64 → zO) : zO := f x
/-- the value unfolded n instructions deep, up to the places sp -/
noncomputable def zgo (sp : List Nat) : Nat → Nat → Nat → Nat → List (Option Value) → List Value → zS → zO
  | 0, d, m, i, cl, st, σ => zR d m i cl st σ
  | n + 1, d, m, i, cl, st, σ => bif sp.elem i then zR d m i cl st σ else match (zL m)[i]? with
    | none => none
    | some e => zx zmi zSW none zrt (zgo sp n d m) (zca zM (zgo sp n d m)) d m e cl st σ
/-! an instruction as an action, whatever comes behind it -/
/-- go on, return, or call -/
abbrev zA : Type := Option ((Nat × List (Option Value) × List Value × zS) ⊕ (Option Value × zS) ⊕ (Nat × List Value × Nat × List (Option Value) × List Value × zS))
def zstep (d m : Nat) (e : zI) (cl : List (Option Value)) (st : List Value) (σ : zS) : zA := zx zmi zSW none (fun v σ => some (.inr (.inl (v, σ)))) (fun i cl st σ => some (.inl (i, cl, st, σ))) (fun m args nx cl st σ => some (.inr (.inr (m, args, nx, cl, st, σ)))) d m e cl st σ
def zdo (k : Nat → List (Option Value) → List Value → zS → zO) (M : Nat → List Value → zS → zO) (a : zA) : zO := match a with
  | none => none
  | some (.inl (i, cl, st, σ)) => k i cl st σ
  | some (.inr (.inl (v, σ))) => some (v, σ)
  | some (.inr (.inr (m, args, nx, cl, st, σ))) => zca M k m args nx cl st σ
theorem zdo_ite {p : Prop} {hp : Decidable p} (k : Nat → List (Option Value) → List Value → zS → zO) (M : Nat → List Value → zS → zO) (a b : zA) : zdo k M (@ite _ p hp a b) = @ite _ p hp (zdo k M a) (zdo k M b) := by
  cases hp <;> rfl
theorem zdo_cond (c : Bool) (k : Nat → List (Option Value) → List Value → zS → zO) (M : Nat → List Value → zS → zO) (a b : zA) : zdo k M (bif c then a else b) = bif c then zdo k M a else zdo k M b := by
  cases c <;> rfl
theorem zdo_zsw (k : Nat → List (Option Value) → List Value → zS → zO) (M : Nat → List Value → zS → zO) (l : List (Int32 × Nat)) (x : Int32) (dflt : Nat) (f : Nat → zA) : zdo k M (zsw l x dflt f) = zsw l x dflt (fun t => zdo k M (f t)) := by
  induction l with
  | nil => rfl
  | cons q l ih => obtain ⟨v, t⟩ := q; unfold zsw; rw [zdo_ite, ih]
theorem zdo_cal (k : Nat → List (Option Value) → List Value → zS → zO) (M : Nat → List Value → zS → zO) (d a b nx : Nat) (cl : List (Option Value)) (st : List Value) (σ : zS) : zcal zmi none (zca M k) d a b nx cl st σ = zdo k M (zcal zmi none (fun m args nx cl st σ => some (.inr (.inr (m, args, nx, cl, st, σ)))) d a b nx cl st σ) := by
  unfold zcal
  simp only [zdo_cond]
  congr 4
  split <;> first | rfl | (split <;> first | rfl | (rw [zdo_ite]; rfl))
theorem zdo_eR (o : Option Nat) (k : Nat → List (Option Value) → List Value → zS → zO) (M : Nat → List Value → zS → zO) (f : Nat → zA) : zdo k M (zeR none o f) = zeR none o (fun q => zdo k M (f q)) := by
  cases o <;> rfl
theorem zdo_eN (o : Option Nat) (k : Nat → List (Option Value) → List Value → zS → zO) (M : Nat → List Value → zS → zO) (g : zA) (f : Nat → zA) : zdo k M (zeN o g f) = zeN o (zdo k M g) (fun q => zdo k M (f q)) := by
  cases o <;> rfl
theorem zdo_ret (t : Nat) (st : List Value) (σ : zS) (k : Nat → List (Option Value) → List Value → zS → zO) (M : Nat → List Value → zS → zO) : zret none zrt t st σ = zdo k M (zret none (fun v σ => some (.inr (.inl (v, σ)))) t st σ) := by
  unfold zret
  split
  · split <;> first | rfl | (rw [zdo_ite]; rfl)
  · rfl
set_option maxHeartbeats 4000000 in
theorem zx_do (k : Nat → List (Option Value) → List Value → zS → zO) (M : Nat → List Value → zS → zO) (d m : Nat) (e : zI) (cl : List (Option Value)) (st : List Value) (σ : zS) : zx zmi zSW none zrt k (zca M k) d m e cl st σ = zdo k M (zstep d m e cl st σ) := by
  unfold zstep
  obtain ⟨bp, ins, nx, a, b, c, cI, cL⟩ := e
  cases ins <;> unfold zx <;> dsimp only <;>
    first
    | rfl
    | exact zdo_ret _ _ _ _ _
    | (split <;> first | rfl | (simp only [zdo_ite, zdo_cond, zdo_zsw, zdo_eR, zdo_eN]; rfl) | (split <;> first | rfl | (simp only [zdo_ite, zdo_cond, zdo_eR, zdo_eN]; rfl)) | exact zdo_cal _ _ _ _ _ _ _ _ _)
    | (simp only [zdo_cal, zdo_cond, zdo_ite]; rfl)
    | (split
       · rw [zdo_ite]
         congr 1
         split <;> first | rfl | (rw [zdo_eR]; rfl)
       · rfl)
abbrev zfM (n : Nat) (m' : Nat) (args : List Value) (σ : zS) : zO := zf n (zrk m' args) m' 0 (zlo m' args) [] σ
theorem zf_succ (n d m i : Nat) (cl : List (Option Value)) (st : List Value) (σ : zS) : zf (n + 1) d m i cl st σ = match (zL m)[i]? with
    | none => none
    | some e => zdo (zf n d m) (zfM n) (zstep d m e cl st σ) := by
  show (match (zL m)[i]? with
    | none => none
    | some e => zx zmi zSW none zrt (zf n d m) (zca (zfM n) (zf n d m)) d m e cl st σ) = _
  split
  · rfl
  · exact zx_do _ _ _ _ _ _ _ _
theorem zbk_mono {t : Nat} {o o' : zO} {f f' : List Value → zS → zO} {x : Option Value × zS} (ho : ∀ y, o = some y → o' = some y) (hf : ∀ vs σ, f vs σ = some x → f' vs σ = some x) (h : zbk t o f = some x) : zbk t o' f' = some x := by
  cases o with
  | none => unfold zbk at h; split at h <;> simp [zbV, zbI, zbL, zbR] at h
  | some y =>
    rw [ho y rfl]
    unfold zbk at h ⊢
    split at h <;> first | (unfold zbV at h ⊢; split at h <;> first | exact hf _ _ h | simp at h) | (unfold zbI at h ⊢; split at h <;> first | exact hf _ _ h | simp at h) | (unfold zbL at h ⊢; split at h <;> first | exact hf _ _ h | simp at h) | (unfold zbR at h ⊢; split at h <;> first | exact hf _ _ h | simp at h)
theorem zbk_some {t : Nat} {o : zO} {f : List Value → zS → zO} {x : Option Value × zS} (h : zbk t o f = some x) : ∃ y vs, o = some y ∧ y.1.toList = vs ∧ f vs y.2 = some x ∧ ∀ f' : List Value → zS → zO, zbk t (some y) f' = f' vs y.2 := by
  cases o with
  | none => unfold zbk at h; split at h <;> simp [zbV, zbI, zbL, zbR] at h
  | some y =>
    obtain ⟨v, σ⟩ := y
    unfold zbk at h
    split at h
    · unfold zbV at h; split at h <;> first | (rename_i q; cases q; exact ⟨_, [], rfl, rfl, h, fun _ => rfl⟩) | simp at h
    · unfold zbL at h; split at h <;> first | (rename_i q; cases q; exact ⟨_, _, rfl, rfl, h, fun _ => rfl⟩) | simp at h
    · unfold zbR at h; split at h <;> first | (rename_i q; cases q; exact ⟨_, _, rfl, rfl, h, fun _ => rfl⟩) | simp at h
    · rename_i n1 n2 n3
      unfold zbI at h
      split at h
      · rename_i q
        cases q
        refine ⟨_, _, rfl, rfl, h, fun f' => ?_⟩
        unfold zbk
        split <;> first | exact absurd rfl (by assumption) | rfl
      · simp at h
theorem zdo_mono {k k' : Nat → List (Option Value) → List Value → zS → zO} {M M' : Nat → List Value → zS → zO} {a : zA} {x : Option Value × zS} (hk : ∀ i cl st σ, k i cl st σ = some x → k' i cl st σ = some x) (hM : ∀ m args σ y, M m args σ = some y → M' m args σ = some y) (h : zdo k M a = some x) : zdo k' M' a = some x := by
  match a, h with
  | some (.inl (i, cl, st, σ)), h => exact hk i cl st σ h
  | some (.inr (.inl (v, σ))), h => exact h
  | some (.inr (.inr (m, args, nx, cl, st, σ))), h =>
    have h : zbk (zmi m).1 (M m args σ) (fun vs σ => k nx cl (vs ++ st) σ) = some x := h
    show zbk (zmi m).1 (M' m args σ) (fun vs σ => k' nx cl (vs ++ st) σ) = some x
    exact zbk_mono (fun y hy => hM m args σ y hy) (fun vs σ h => hk _ _ _ _ h) h
theorem zf_mono1 (n : Nat) : ∀ (d m i : Nat) (cl : List (Option Value)) (st : List Value) (σ : zS) (x : Option Value × zS), zf n d m i cl st σ = some x → zf (n + 1) d m i cl st σ = some x := by
  induction n with
  | zero => intro d m i cl st σ x h; simp [zf] at h
  | succ n ih =>
    intro d m i cl st σ x h
    rw [zf_succ] at h ⊢
    split at h
    · simp at h
    · exact zdo_mono (fun i cl st σ h => ih d m i cl st σ x h) (fun m args σ y h => ih _ _ _ _ _ _ y h) h
theorem zf_mono {n n' : Nat} (hn : n ≤ n') {d m i : Nat} {cl : List (Option Value)} {st : List Value} {σ : zS} {x : Option Value × zS} (h : zf n d m i cl st σ = some x) : zf n' d m i cl st σ = some x := by
  induction hn with
  | refl => exact h
  | step _ ih => exact zf_mono1 _ _ _ _ _ _ _ _ ih
theorem zR_of {n d m i : Nat} {cl : List (Option Value)} {st : List Value} {σ : zS} {x : Option Value × zS} (h : zf n d m i cl st σ = some x) : zR d m i cl st σ = some x := by
  have he : ∃ x, ∃ n, zf n d m i cl st σ = some x := ⟨x, n, h⟩
  unfold zR
  rw [dif_pos he]
  obtain ⟨n2, h2⟩ := Classical.choose_spec he
  have h3 := zf_mono (Nat.le_max_left n n2) h
  have h4 := zf_mono (Nat.le_max_right n n2) h2
  rw [h3] at h4
  exact h4.symm
theorem zR_ex {d m i : Nat} {cl : List (Option Value)} {st : List Value} {σ : zS} {x : Option Value × zS} (h : zR d m i cl st σ = some x) : ∃ n, zf n d m i cl st σ = some x := by
  unfold zR at h
  split at h
  · rename_i he
    cases h
    exact Classical.choose_spec he
  · simp at h
theorem zM_ex {m : Nat} {args : List Value} {σ : zS} {x : Option Value × zS} (h : zM m args σ = some x) : ∃ n, zfM n m args σ = some x := zR_ex h
theorem zdo_ex {d m : Nat} {a : zA} {x : Option Value × zS} (h : zdo (zR d m) zM a = some x) : ∃ n, zdo (zf n d m) (zfM n) a = some x := by
  match a, h with
  | some (.inl (i, cl, st, σ)), h => exact zR_ex h
  | some (.inr (.inl (v, σ))), h => exact ⟨0, h⟩
  | some (.inr (.inr (m', args, nx, cl, st, σ))), h =>
    have h : zbk (zmi m').1 (zM m' args σ) (fun vs σ => zR d m nx cl (vs ++ st) σ) = some x := h
    obtain ⟨y, vs, h1, -, h3, h4⟩ := zbk_some h
    obtain ⟨n1, g1⟩ := zM_ex h1
    obtain ⟨n2, g2⟩ := zR_ex h3
    refine ⟨max n1 n2, ?_⟩
    show zbk (zmi m').1 (zfM (max n1 n2) m' args σ) (fun vs σ => zf (max n1 n2) d m nx cl (vs ++ st) σ) = some x
    rw [show zfM (max n1 n2) m' args σ = some y from zf_mono (Nat.le_max_left _ _) g1, h4]
    exact zf_mono (Nat.le_max_right _ _) g2
theorem zR_eq (d m i : Nat) (cl : List (Option Value)) (st : List Value) (σ : zS) : zR d m i cl st σ = match (zL m)[i]? with
    | none => none
    | some e => zx zmi zSW none zrt (zR d m) (zca zM (zR d m)) d m e cl st σ := by
  refine Option.ext fun x => ⟨fun h => ?_, fun h => ?_⟩
  · obtain ⟨n, hn⟩ := zR_ex h
    cases n with
    | zero => simp [zf] at hn
    | succ n =>
      rw [zf_succ] at hn
      split at hn
      · simp at hn
      · rw [zx_do]
        exact zdo_mono (fun i cl st σ h => zR_of h) (fun m args σ y h => zR_of h) hn
  · cases he : (zL m)[i]? with
    | none => rw [he] at h; simp at h
    | some e =>
      rw [he] at h
      dsimp only at h
      rw [zx_do] at h
      obtain ⟨n, hn⟩ := zdo_ex h
      refine zR_of (n := n + 1) ?_
      rw [zf_succ, he]
      exact hn
theorem zgo_eq (sp : List Nat) (n : Nat) : ∀ (d m i : Nat) (cl : List (Option Value)) (st : List Value) (σ : zS), zgo sp n d m i cl st σ = zR d m i cl st σ := by
  induction n with
  | zero => intros; rfl
  | succ n ih =>
    intro d m i cl st σ
    have h1 : zgo sp n d m = zR d m := by funext i cl st σ; exact ih d m i cl st σ
    show (bif sp.elem i then zR d m i cl st σ else match (zL m)[i]? with
      | none => none
      | some e => zx zmi zSW none zrt (zgo sp n d m) (zca zM (zgo sp n d m)) d m e cl st σ) = _
    rw [h1]
    cases hs : sp.elem i
    · show (match (zL m)[i]? with
        | none => none
        | some e => zx zmi zSW none zrt (zR d m) (zca zM (zR d m)) d m e cl st σ) = _
      rw [← zR_eq]
    · rfl
/-- one instruction, then on up to the places sp -/
noncomputable def zg1 (sp : List Nat) (n d m i : Nat) (cl : List (Option Value)) (st : List Value) (σ : zS) : zO := match (zL m)[i]? with
    | none => none
    | some e => zx zmi zSW none zrt (zgo sp n d m) (zca zM (zgo sp n d m)) d m e cl st σ
theorem zR_go (sp : List Nat) (n d m i : Nat) (cl : List (Option Value)) (st : List Value) (σ : zS) : zR d m i cl st σ = zg1 sp n d m i cl st σ := by
  have h1 : zgo sp n d m = zR d m := by funext i cl st σ; exact zgo_eq sp n d m i cl st σ
  unfold zg1
  rw [h1]
  exact zR_eq d m i cl st σ
theorem zM_go (sp : List Nat) (n m : Nat) (args : List Value) (σ : zS) : zM m args σ = zg1 sp n (zrk m args) m 0 (zlo m args) [] σ := zR_go sp n _ m 0 _ [] σ
