/-! runs of the clean machine, their values, and how a value is read off the tables -/
def zbV (o : zO) (f : zS → zO) : zO := match o with
  | some (none, σ) => f σ
  | _ => none
def zbI (o : zO) (f : Int32 → zS → zO) : zO := match o with
  | some (some (.int x), σ) => f x σ
  | _ => none
def zbL (o : zO) (f : Int64 → zS → zO) : zO := match o with
  | some (some (.long x), σ) => f x σ
  | _ => none
def zbR (o : zO) (f : Nat → zS → zO) : zO := match o with
  | some (some (.ref x), σ) => f x σ
  | _ => none
/-- what comes behind a call of a method of the return kind t -/
def zbk (t : Nat) (o : zO) (f : List Value → zS → zO) : zO := match t with
  | 0 => zbV o (fun σ => f [] σ)
  | 2 => zbL o (fun x σ => f [.long x] σ)
  | 3 => zbR o (fun x σ => f [.ref x] σ)
  | _ => zbI o (fun x σ => f [.int x] σ)
def zca (M : Nat → List Value → zS → zO) (k : Nat → List (Option Value) → List Value → zS → zO) (m : Nat) (args : List Value) (nx : Nat) (cl : List (Option Value)) (st : List Value) (σ : zS) : zO := zbk (zmi m).1 (M m args σ) (fun vs σ => k nx cl (vs ++ st) σ)
def zrt (v : Option Value) (σ : zS) : zO := some (v, σ)
def zlo (m : Nat) (args : List Value) : List (Option Value) := zpad (zmi m).2.2.1 (zargs args)
def zf : Nat → Nat → Nat → Nat → List (Option Value) → List Value → zS → zO
  | 0, _, _, _, _, _, _ => none
  | n + 1, d, m, i, cl, st, σ => match (zL m)[i]? with
    | none => none
    | some e => zx zmi zSW none zrt (zf n d m) (zca (fun m' args σ => zf n (zrk m' args) m' 0 (zlo m' args) [] σ) (zf n d m)) d m e cl st σ
noncomputable def zR (d m i : Nat) (cl : List (Option Value)) (st : List Value) (σ : zS) : zO :=
  @dite _ (∃ x, ∃ n, zf n d m i cl st σ = some x) (Classical.propDecidable _) (fun h => some (Classical.choose h)) (fun _ => none)
noncomputable def zM (m : Nat) (args : List Value) (σ : zS) : zO := zR (zrk m args) m 0 (zlo m args) [] σ
def zlt (σ : zS) (f : zS → zO) : zO := f σ
def zln (n : Nat) (f : Nat → zO) : zO := f n
def zli (x : Int32) (f : Int32 → zO) : zO := f x
def zll (x : Int64) (f : Int64 → zO) : zO := f x
/-- the value unfolded n instructions deep, up to the places sp -/
noncomputable def zgo (sp : List Nat) : Nat → Nat → Nat → Nat → List (Option Value) → List Value → zS → zO
  | 0, d, m, i, cl, st, σ => zR d m i cl st σ
  | n + 1, d, m, i, cl, st, σ => bif sp.elem i then zR d m i cl st σ else match (zL m)[i]? with
    | none => none
    | some e => zx zmi zSW none zrt (zgo sp n d m) (zca zM (zgo sp n d m)) d m e cl st σ
/-! an instruction as an action, whatever comes behind it -/
/-- go on, return, or call -/
abbrev zA : Type := Option ((Nat × List (Option Value) × List Value × zS) ⊕ (Option Value × zS) ⊕ (Nat × List Value × Nat × List (Option Value) × List Value × zS))
def zstep (d m : Nat) (e : zI) (cl : List (Option Value)) (st : List Value) (σ : zS) : zA := zx zmi zSW none (fun v σ => some (.inr (.inl (v, σ)))) (fun i cl st σ => some (.inl (i, cl, st, σ))) (fun m args nx cl st σ => some (.inr (.inr (m, args, nx, cl, st, σ)))) d m e cl st σ
def zdo (k : Nat → List (Option Value) → List Value → zS → zO) (M : Nat → List Value → zS → zO) (a : zA) : zO := match a with
  | none => none
  | some (.inl (i, cl, st, σ)) => k i cl st σ
  | some (.inr (.inl (v, σ))) => some (v, σ)
  | some (.inr (.inr (m, args, nx, cl, st, σ))) => zca M k m args nx cl st σ
theorem zdo_ite {p : Prop} {hp : Decidable p} (k : Nat → List (Option Value) → List Value → zS → zO) (M : Nat → List Value → zS → zO) (a b : zA) : zdo k M (@ite _ p hp a b) = @ite _ p hp (zdo k M a) (zdo k M b) := by
  cases hp <;> rfl
theorem zdo_cond (c : Bool) (k : Nat → List (Option Value) → List Value → zS → zO) (M : Nat → List Value → zS → zO) (a b : zA) : zdo k M (bif c then a else b) = bif c then zdo k M a else zdo k M b := by
  cases c <;> rfl
theorem zdo_zsw (k : Nat → List (Option Value) → List Value → zS → zO) (M : Nat → List Value → zS → zO) (l : List (Int32 × Nat)) (x : Int32) (dflt : Nat) (f : Nat → zA) : zdo k M (zsw l x dflt f) = zsw l x dflt (fun t => zdo k M (f t)) := by
  induction l with
  | nil => rfl
  | cons q l ih => obtain ⟨v, t⟩ := q; unfold zsw; rw [zdo_ite, ih]
theorem zdo_cal (k : Nat → List (Option Value) → List Value → zS → zO) (M : Nat → List Value → zS → zO) (d a b nx : Nat) (cl : List (Option Value)) (st : List Value) (σ : zS) : zcal zmi none (zca M k) d a b nx cl st σ = zdo k M (zcal zmi none (fun m args nx cl st σ => some (.inr (.inr (m, args, nx, cl, st, σ)))) d a b nx cl st σ) := by
  unfold zcal
  simp only [zdo_cond]
  congr 3
  split <;> first | rfl | (split <;> first | rfl | (rw [zdo_ite]; rfl))
set_option maxHeartbeats 4000000 in
theorem zx_do (k : Nat → List (Option Value) → List Value → zS → zO) (M : Nat → List Value → zS → zO) (d m : Nat) (e : zI) (cl : List (Option Value)) (st : List Value) (σ : zS) : zx zmi zSW none zrt k (zca M k) d m e cl st σ = zdo k M (zstep d m e cl st σ) := by
  unfold zstep
  obtain ⟨bp, ins, nx, a, b, c, cI, cL⟩ := e
  cases ins <;> unfold zx <;> dsimp only <;>
    first
    | rfl
    | (split <;> first | rfl | (simp only [zdo_ite, zdo_cond, zdo_zsw, zret]; done) | (simp only [zdo_ite, zdo_cond, zdo_zsw, zret]; rfl) | (simp only [zdo_ite, zdo_cond, zdo_zsw]; congr 1; done) | (split <;> first | rfl | (simp only [zdo_ite]; rfl)) | skip)
    | (simp only [zdo_cal, zdo_cond, zdo_ite]; done)
    | (simp only [zdo_cal, zdo_cond, zdo_ite]; rfl)
    | skip
  all_goals sorry
theorem zR_eq (d m i : Nat) (cl : List (Option Value)) (st : List Value) (σ : zS) : zR d m i cl st σ = match (zL m)[i]? with
    | none => none
    | some e => zx zmi zSW none zrt (zR d m) (zca zM (zR d m)) d m e cl st σ := sorry
theorem zgo_eq (sp : List Nat) (n : Nat) : ∀ (d m i : Nat) (cl : List (Option Value)) (st : List Value) (σ : zS), zgo sp n d m i cl st σ = zR d m i cl st σ := by
  induction n with
  | zero => intros; rfl
  | succ n ih =>
    intro d m i cl st σ
    have h1 : zgo sp n d m = zR d m := by funext i cl st σ; exact ih d m i cl st σ
    show (bif sp.elem i then zR d m i cl st σ else match (zL m)[i]? with
      | none => none
      | some e => zx zmi zSW none zrt (zgo sp n d m) (zca zM (zgo sp n d m)) d m e cl st σ) = _
    rw [h1]
    cases hs : sp.elem i
    · show (match (zL m)[i]? with
        | none => none
        | some e => zx zmi zSW none zrt (zR d m) (zca zM (zR d m)) d m e cl st σ) = _
      rw [← zR_eq]
    · rfl
/-- one instruction, then on up to the places sp -/
noncomputable def zg1 (sp : List Nat) (n d m i : Nat) (cl : List (Option Value)) (st : List Value) (σ : zS) : zO := match (zL m)[i]? with
    | none => none
    | some e => zx zmi zSW none zrt (zgo sp n d m) (zca zM (zgo sp n d m)) d m e cl st σ
theorem zR_go (sp : List Nat) (n d m i : Nat) (cl : List (Option Value)) (st : List Value) (σ : zS) : zR d m i cl st σ = zg1 sp n d m i cl st σ := by
  have h1 : zgo sp n d m = zR d m := by funext i cl st σ; exact zgo_eq sp n d m i cl st σ
  unfold zg1
  rw [h1]
  exact zR_eq d m i cl st σ
theorem zM_go (sp : List Nat) (n m : Nat) (args : List Value) (σ : zS) : zM m args σ = zg1 sp n (zrk m args) m 0 (zlo m args) [] σ := zR_go sp n _ m 0 _ [] σ
