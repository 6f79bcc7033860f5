/-! what every method but the constructors keeps: kinds, references that stand for good, read-only ints -/
def alw (t j : Nat) : Bool := t == 80 || (t == 8 && j == 3) || (t == 11 && j == 1) || (t == 12 && (j == 5 || j == 6))
/-- no constructor, nor what calls one -/
def zq (m : Nat) : Bool := !(([0, 6, 16, 30, 32, 43, 44, 65, 78, 79, 91, 112, 187, 338] : List Nat).elem m)
def okI (e : zI) : Bool := match e with
  | (_, ins, _, a, b, _, _, _) => match ins with
    | .putfield _ => (a % 1000 != 2 || alw (a / 1000) b) && Nat.blt (a / 1000) 32
    | .aastore => a == 80
    | .invokevirtual _ => b != 0 || zq a
    | .invokespecial _ => b != 2 || zq a
    | .invokestatic _ => b != 1 || zq a
    | _ => true
set_option maxRecDepth 100000 in
theorem okI_all : ∀ m, m < 339 → (!zq m || (zL m).all okI) = true := by decide +kernel
theorem okI_of {m i : Nat} {e : zI} (hq : zq m = true) (h : (zL m)[i]? = some e) : okI e = true := by
  have hm : m < 339 := by
    rcases Nat.lt_or_ge m 339 with h1 | h1
    · exact h1
    · have : zL m = [] := by
        unfold zL
        rw [List.getD_eq_getElem?_getD, List.getElem?_eq_none]
        · rfl
        · have hl : zLL.length = 339 := by decide +kernel
          omega
      rw [this] at h
      simp at h
  have h1 := okI_all m hm
  rw [hq] at h1
  simp only [Bool.not_true, Bool.false_or] at h1
  exact List.all_eq_true.mp h1 e (List.mem_of_getElem? h)
def Kp (σ σ' : zS) : Prop := σ.1 <+: σ'.1 ∧ (∀ r j, r < σ.1.length → alw (tg σ r) j = false → gR σ' r j = gR σ r j) ∧ (∀ r j, tg σ r = 48 → gI σ' r j = gI σ r j)
def zAK (σ : zS) (a : zA) : Prop := match a with
  | none => True
  | some (.inl (_, _, _, σ1)) => Kp σ σ1
  | some (.inr (.inl (_, σ1))) => Kp σ σ1
  | some (.inr (.inr (m, _, _, _, _, σ1))) => zq m = true ∧ Kp σ σ1
section
variable {σ : zS}
theorem Kp.refl (σ : zS) : Kp σ σ := ⟨List.prefix_refl _, fun _ _ _ _ => rfl, fun _ _ _ => rfl⟩
theorem tg_lt {r t : Nat} (h : tg σ r = t) (ht : t ≠ 0) : r < σ.1.length := by
  unfold tg kd at h
  rcases Nat.lt_or_ge r σ.1.length with h1 | h1
  · exact h1
  · rw [List.getElem?_eq_none h1] at h
    exact absurd h.symm ht
theorem tg_pre {σ' : zS} (h : σ.1 <+: σ'.1) {r : Nat} (hr : r < σ.1.length) : tg σ' r = tg σ r := by
  obtain ⟨t, ht⟩ := h
  unfold tg kd
  rw [← ht, List.getElem?_append_left hr]
theorem ln_pre {σ' : zS} (h : σ.1 <+: σ'.1) {r : Nat} (hr : r < σ.1.length) : ln σ' r = ln σ r := by
  obtain ⟨t, ht⟩ := h
  unfold ln kd
  rw [← ht, List.getElem?_append_left hr]
theorem Kp.trans {σ1 σ2 : zS} (h : Kp σ σ1) (h2 : Kp σ1 σ2) : Kp σ σ2 := by
  refine ⟨h.1.trans h2.1, fun r j hr ha => ?_, fun r j ht => ?_⟩
  · have e := tg_pre h.1 hr
    rw [h2.2.1 r j (Nat.lt_of_lt_of_le hr h.1.length_le) (by rw [e]; exact ha), h.2.1 r j hr ha]
  · have hr := tg_lt ht (by decide)
    have e := tg_pre h.1 hr
    rw [h2.2.2 r j (by rw [e]; exact ht), h.2.2 r j ht]
theorem Kp_sI {r j : Nat} {v : Int32} (h : tg σ r ≠ 48) : Kp σ (sI σ r j v) := by
  refine ⟨List.prefix_refl _, fun _ _ _ _ => rfl, fun r' j' ht => ?_⟩
  rw [gI_sI, if_neg]
  rintro ⟨rfl, -⟩
  exact h ht
theorem Kp_sL {r j : Nat} {v : Int64} : Kp σ (sL σ r j v) := ⟨List.prefix_refl _, fun _ _ _ _ => rfl, fun _ _ _ => rfl⟩
theorem Kp_sC {a p b q n : Nat} (h : tg σ b ≠ 48) : Kp σ (sC σ a p b q n) := by
  refine ⟨List.prefix_refl _, fun _ _ _ _ => rfl, fun r' j' ht => ?_⟩
  show (if r' = b ∧ _ then _ else _) = _
  rw [if_neg]
  · rfl
  rintro ⟨rfl, -⟩
  exact h ht
theorem Kp_sR {r j : Nat} {v : Option Nat} (h : alw (tg σ r) j = true) : Kp σ (sR σ r j v) := by
  refine ⟨List.prefix_refl _, fun r' j' _ ha => ?_, fun _ _ _ => rfl⟩
  rw [gR_sR, if_neg]
  rintro ⟨rfl, rfl⟩
  rw [h] at ha
  exact absurd ha (by decide)
theorem Kp_sN {t n : Nat} : Kp σ (sN σ t n) := by
  refine ⟨List.prefix_append _ _, fun r' j' hr _ => ?_, fun r' j' ht => ?_⟩
  · show (if r' = σ.1.length then _ else _) = _
    rw [if_neg (by omega)]; rfl
  · have hr := tg_lt ht (by decide)
    show (if r' = σ.1.length then _ else _) = _
    rw [if_neg (by omega)]; rfl
theorem zAK_ite {p : Prop} {hp : Decidable p} {a b : zA} (h1 : p → zAK σ a) (h2 : zAK σ b) : zAK σ (@ite _ p hp a b) := by cases hp <;> first | exact h2 | exact h1 ‹_›
theorem zAK_cond {c : Bool} {a b : zA} (h1 : c = true → zAK σ a) (h2 : zAK σ b) : zAK σ (bif c then a else b) := by cases c <;> first | exact h2 | exact h1 rfl
theorem zAK_sw {f : Nat → zA} (l : List (Int32 × Nat)) (x : Int32) (d : Nat) (h : ∀ t, zAK σ (f t)) : zAK σ (zsw l x d f) := by
  induction l with
  | nil => exact h d
  | cons q l ih => obtain ⟨v, t⟩ := q; unfold zsw; exact zAK_ite (fun _ => h t) ih
theorem zAK_eR {o : Option Nat} {f : Nat → zA} (h : ∀ q, o = some q → zAK σ (f q)) : zAK σ (zeR none o f) := by cases o <;> first | trivial | exact h _ rfl
theorem zAK_eN {o : Option Nat} {g : zA} {f : Nat → zA} (h1 : zAK σ g) (h : ∀ q, o = some q → zAK σ (f q)) : zAK σ (zeN o g f) := by cases o <;> first | exact h1 | exact h _ rfl
theorem zAK_cal (d a b nx : Nat) {cl : List (Option Value)} {st : List Value} (hq : zq a = true) : zAK σ (zcal zmi none (fun m args nx cl st σ => some (.inr (.inr (m, args, nx, cl, st, σ)))) d a b nx cl st σ) := by
  unfold zcal
  refine zAK_cond (fun _ => zAK_cond (fun _ => zAK_cond (fun _ => zAK_cond (fun _ => ?_) trivial) trivial) trivial) trivial
  split
  · exact ⟨hq, Kp.refl _⟩
  · split
    · exact zAK_ite (fun _ => ⟨hq, Kp.refl _⟩) trivial
    · trivial
  · split
    · exact ⟨hq, Kp.refl _⟩
    · trivial
theorem ai_tag {t u r : Nat} {i : Int32} (h : ai σ t u r i = true) : tg σ r = t ∨ tg σ r = u := by
  unfold ai at h
  simp only [Bool.and_eq_true, Bool.or_eq_true, beq_iff_eq] at h
  exact h.1.1
end
set_option maxHeartbeats 8000000 in
theorem zstep_kp (d m : Nat) (e : zI) (cl : List (Option Value)) (st : List Value) (σ : zS) (he : okI e = true) : zAK σ (zstep d m e cl st σ) := by
  unfold zstep
  obtain ⟨bp, ins, nx, a, b, c, cI, cL⟩ := e
  have hr := Kp.refl σ
  unfold okI at he
  cases ins <;> unfold zx <;> dsimp only at he ⊢
  all_goals try trivial
  all_goals try (unfold zret)
  all_goals repeat' (first | trivial | exact hr | exact zAK_cal _ _ _ _ he | (refine zAK_ite ?_ ?_; intro hi) | (refine zAK_cond ?_ ?_; intro hi) | apply zAK_sw | (refine zAK_eR ?_; intro q hq) | (refine zAK_eN ?_ ?_; rotate_left; intro q hq; rotate_right) | intro t | split)
  all_goals try trivial
  all_goals try exact Kp_sL
  all_goals try exact Kp_sN
  all_goals try (exact Kp_sI (by rcases ai_tag ‹_› with h | h <;> omega))
  all_goals try (exact Kp_sI (by simp only [Bool.and_eq_true] at he; have := Nat.blt_eq.mp he.2; omega))
  · refine Kp_sR ?_
    have ha : a = 80 := by simpa using he
    rcases ai_tag ‹_› with h | h <;> rw [h, ha] <;> rfl
  · refine Kp_sC ?_
    rename_i hz
    unfold zcp at hz
    simp only [Bool.and_eq_true, beq_iff_eq] at hz
    rw [hz.1.1.1.1.1.2]
    decide
  · refine ⟨?_, Kp.refl _⟩
    rename_i hb _ _ _ _ _ _ _ _ _ _
    have hb : b = 0 := Nat.eq_of_beq_eq_true hb
    subst hb
    simpa using he
  · refine Kp_sR ?_
    rename_i hb
    have hb : a % 1000 = 2 := Nat.eq_of_beq_eq_true hb
    simp only [hb, Bool.and_eq_true] at he
    rw [hi]
    simpa using he.1
theorem zf_kp (n : Nat) : ∀ (d m i : Nat) (cl : List (Option Value)) (st : List Value) (σ : zS) (x : Option Value × zS), zq m = true → zf n d m i cl st σ = some x → Kp σ x.2 := by
  induction n with
  | zero => intro d m i cl st σ x _ h; simp [zf] at h
  | succ n ih =>
    intro d m i cl st σ x hm h
    rw [zf_succ] at h
    split at h
    · simp at h
    · rename_i e he
      have hp := zstep_kp d m e cl st σ (okI_of hm he)
      match hz : zstep d m e cl st σ, hp, h with
      | some (.inl (i', cl', st', σ1)), hp, h => exact Kp.trans hp (ih _ _ _ _ _ _ _ hm h)
      | some (.inr (.inl (v, σ1))), hp, h => cases h; exact hp
      | some (.inr (.inr (m', args, nx, cl', st', σ1))), hp, h =>
        obtain ⟨g0, g1⟩ := hp
        have h : zbk (zmi m').1 (zfM n m' args σ1) (fun vs σ => zf n d m nx cl' (vs ++ st') σ) = some x := h
        obtain ⟨y, vs, h1, h2, h3, -⟩ := zbk_some h
        exact (g1.trans (ih _ _ _ _ _ _ _ g0 h1)).trans (ih _ _ _ _ _ _ _ hm h3)
theorem zM_kp {m : Nat} {args : List Value} {σ σ' : zS} {v : Option Value} (hm : zq m = true) (h : zM m args σ = some (v, σ')) : Kp σ σ' := by
  obtain ⟨n, hn⟩ := zM_ex h
  exact zf_kp n _ _ _ _ _ _ _ hm hn
/-- the shape stands over every run but a constructor's -/
theorem Kp.sh {σ σ' : zS} (h : Kp σ σ') (hS : Sh σ) : Sh σ' := by
  obtain ⟨⟨L, K, hK⟩, h2, h3, h4⟩ := hS
  have hl : 253 ≤ σ.1.length := by
    rw [hK]
    have : zK0.length = 247 := by decide +kernel
    simp [zpre, this]
  have htg : ∀ r, r < 253 → tg σ r = match (zpre L ++ zK0)[r]? with
      | some q => q.1
      | none => 0 := by
    intro r hr
    have e : σ.1[r]? = (zpre L ++ zK0)[r]? := by
      rw [hK, ← List.append_assoc, List.getElem?_append_left]
      have : zK0.length = 247 := by decide +kernel
      rw [List.length_append, this]
      show r < 6 + 247
      omega
    unfold tg kd
    rw [e]
    cases (zpre L ++ zK0)[r]? <;> rfl
  refine ⟨?_, fun e he => ?_, fun e he => ?_, fun j hj => ?_⟩
  · obtain ⟨t, ht⟩ := h.1
    exact ⟨L, K ++ t, by rw [← ht, hK]; simp⟩
  · have hd : ∀ e ∈ zF0, e.1 < 253 ∧ alw (match (zpre 0 ++ zK0)[e.1]? with
      | some q => q.1
      | none => 0) e.2.1 = false ∧ e.1 ≠ 0 := by decide +kernel
    obtain ⟨d1, d2, d3⟩ := hd e he
    rw [h.2.1 e.1 e.2.1 (by omega), h2 e he]
    rw [htg e.1 d1]
    obtain ⟨k, hk⟩ := Nat.exists_eq_succ_of_ne_zero d3
    rw [hk] at d2 ⊢
    exact d2
  · have hd : ∀ e ∈ zE0, e.1 < 253 ∧ alw (match (zpre 0 ++ zK0)[e.1]? with
      | some q => q.1
      | none => 0) e.2.1 = false ∧ e.1 ≠ 0 := by decide +kernel
    obtain ⟨d1, d2, d3⟩ := hd e he
    rw [h.2.1 e.1 e.2.1 (by omega), h3 e he]
    rw [htg e.1 d1]
    obtain ⟨k, hk⟩ := Nat.exists_eq_succ_of_ne_zero d3
    rw [hk] at d2 ⊢
    exact d2
  · rw [h.2.2 1 j (by rw [htg 1 (by decide)]; rfl), h4 j hj]
theorem zM_sh {m : Nat} {args : List Value} {σ σ' : zS} {v : Option Value} (hm : zq m = true) (hS : Sh σ) (h : zM m args σ = some (v, σ')) : Sh σ' := (zM_kp hm h).sh hS
