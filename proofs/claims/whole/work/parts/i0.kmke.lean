/-! how the first memory is made: lists of what is written -/
def lkI : List (Nat × Nat × Int32) → Nat → Nat → Int32
  | [], _, _ => 0
  | e :: l, r, j => if r = e.1 ∧ j = e.2.1 then e.2.2 else lkI l r j
def lkR : List (Nat × Nat × Nat) → Nat → Nat → Option Nat
  | [], _, _ => none
  | e :: l, r, j => if r = e.1 ∧ j = e.2.1 then some e.2.2 else lkR l r j
def BS (L : Nat) (xs : Nat → Int32) (fo : Option Nat) (n : Nat) (K : List (Nat × Nat)) (W : List (Nat × Nat × Int32)) (R : List (Nat × Nat × Nat)) (σ : zS) : Prop := (σ.1 = zpre L ++ K ∧ n = 6 + K.length) ∧ (∀ r j, r < 6 → gI σ r j = gI (zs0 L xs fo) r j ∧ gR σ r j = gR (zs0 L xs fo) r j) ∧ (∀ r j, 6 ≤ r → gI σ r j = lkI W r j ∧ gR σ r j = lkR R r j) ∧ (∀ r j, gL σ r j = 0) ∧ (∀ e, e ∈ W → e.1 < n) ∧ ∀ e, e ∈ R → e.1 < n
/-- kinds stay; references of cells below n that E does not name stay -/
def Ex (n : Nat) (E : Nat → Prop) (σ σ' : zS) : Prop := (∀ r q, kd σ r = some q → kd σ' r = some q) ∧ ∀ r j, r < n → ¬ E r → gR σ' r j = gR σ r j
section
variable {σ σ' σ1 σ2 : zS} {L : Nat} {xs : Nat → Int32} {fo : Option Nat} {n m r t a : Nat} {K : List (Nat × Nat)} {W : List (Nat × Nat × Int32)} {R : List (Nat × Nat × Nat)} {E E' : Nat → Prop} {q : Nat × Nat}
theorem lkI_no : ∀ (W : List (Nat × Nat × Int32)) (r j : Nat), (∀ e, e ∈ W → e.1 ≠ r) → lkI W r j = 0
  | [], _, _, _ => rfl
  | e :: l, r, j, h => by
    show (if r = e.1 ∧ j = e.2.1 then e.2.2 else lkI l r j) = 0
    rw [if_neg (fun y => h e (List.mem_cons_self ..) y.1.symm)]
    exact lkI_no l r j (fun e' q => h e' (List.mem_cons_of_mem _ q))
theorem lkR_no : ∀ (R : List (Nat × Nat × Nat)) (r j : Nat), (∀ e, e ∈ R → e.1 ≠ r) → lkR R r j = none
  | [], _, _, _ => rfl
  | e :: l, r, j, h => by
    show (if r = e.1 ∧ j = e.2.1 then some e.2.2 else lkR l r j) = none
    rw [if_neg (fun y => h e (List.mem_cons_self ..) y.1.symm)]
    exact lkR_no l r j (fun e' q => h e' (List.mem_cons_of_mem _ q))
theorem BS.sz' (h : BS L xs fo n K W R σ) : σ.1.length = n := by
  obtain ⟨⟨h1, h2⟩, -⟩ := h
  rw [h1, List.length_append, h2]
  rfl
theorem BS.sz (h : BS L xs fo n K W R σ) : Jvm.Pilot.@@N@@.sz σ = n := h.sz'
theorem BS.gr (h : BS L xs fo n K W R σ) (hr : 6 ≤ r) (j : Nat) : gR σ r j = lkR R r j := (h.2.2.1 r j hr).2
theorem BS.gi (h : BS L xs fo n K W R σ) (hr : 6 ≤ r) (j : Nat) : gI σ r j = lkI W r j := (h.2.2.1 r j hr).1
theorem BS.wN (h : BS L xs fo n K W R σ) (t m : Nat) : BS L xs fo (n + 1) (K ++ [(t, m)]) W R (sN σ t m) := by
  have hl := h.sz'
  obtain ⟨⟨h1, h2⟩, h3, h4, h5, h6, h7⟩ := h
  refine ⟨⟨?_, ?_⟩, fun r j hr => ?_, fun r j hr => ?_, fun r j => ?_, fun e he => ?_, fun e he => ?_⟩
  · show σ.1 ++ [(t, m)] = _
    rw [h1, List.append_assoc]
  · rw [List.length_append, h2]
    rfl
  · show (if r = σ.1.length then 0 else gI σ r j) = _ ∧ (if r = σ.1.length then none else gR σ r j) = _
    rw [if_neg (by omega), if_neg (by omega)]
    exact h3 r j hr
  · show (if r = σ.1.length then 0 else gI σ r j) = _ ∧ (if r = σ.1.length then none else gR σ r j) = _
    by_cases q : r = σ.1.length
    · rw [if_pos q, if_pos q, lkI_no W r j (fun e he => by have := h6 e he; omega), lkR_no R r j (fun e he => by have := h7 e he; omega)]
      exact ⟨rfl, rfl⟩
    · rw [if_neg q, if_neg q]
      exact h4 r j hr
  · show (if r = σ.1.length then 0 else gL σ r j) = 0
    split
    · rfl
    · exact h5 r j
  · have := h6 e he
    omega
  · have := h7 e he
    omega
theorem BS.wI (h : BS L xs fo n K W R σ) (hr : 6 ≤ r ∧ r < n) (j : Nat) (v : Int32) : BS L xs fo n K ((r, j, v) :: W) R (sI σ r j v) := by
  obtain ⟨h1, h3, h4, h5, h6, h7⟩ := h
  refine ⟨h1, fun r' j' hr' => ?_, fun r' j' hr' => ?_, h5, fun e he => ?_, h7⟩
  · rw [gI_sI, if_neg (by omega)]
    exact h3 r' j' hr'
  · rw [gI_sI]
    show (if _ then _ else _) = (if r' = r ∧ j' = j then v else lkI W r' j') ∧ _
    rw [(h4 r' j' hr').1]
    exact ⟨rfl, (h4 r' j' hr').2⟩
  · rcases List.mem_cons.mp he with rfl | he
    · exact hr.2
    · exact h6 e he
theorem BS.wR (h : BS L xs fo n K W R σ) (hr : 6 ≤ r ∧ r < n) (j v : Nat) : BS L xs fo n K W ((r, j, v) :: R) (sR σ r j (some v)) := by
  obtain ⟨h1, h3, h4, h5, h6, h7⟩ := h
  refine ⟨h1, fun r' j' hr' => ?_, fun r' j' hr' => ?_, h5, h6, fun e he => ?_⟩
  · rw [gR_sR, if_neg (by omega)]
    exact h3 r' j' hr'
  · rw [gR_sR]
    show _ ∧ (if _ then _ else _) = (if r' = r ∧ j' = j then some v else lkR R r' j')
    rw [(h4 r' j' hr').2]
    exact ⟨(h4 r' j' hr').1, rfl⟩
  · rcases List.mem_cons.mp he with rfl | he
    · exact hr.2
    · exact h7 e he
theorem tg_kd (h : kd σ r = some (t, m)) : tg σ r = t := by
  unfold Jvm.Pilot.@@N@@.tg
  rw [h]
theorem ln_kd (h : kd σ r = some (t, m)) : ln σ r = m := by
  unfold Jvm.Pilot.@@N@@.ln
  rw [h]
theorem kd_ltA (h : kd σ r = some q) : r < σ.1.length := (List.getElem?_eq_some_iff.mp h).1
theorem kdN (h : kd σ r = some q) : kd (sN σ t m) r = some q := by
  have hl := kd_ltA h
  show (σ.1 ++ [(t, m)])[r]? = some q
  rw [List.getElem?_append_left hl]
  exact h
theorem kdNn (h : BS L xs fo n K W R σ) (t m : Nat) : kd (sN σ t m) n = some (t, m) := by
  show (σ.1 ++ [(t, m)])[n]? = some (t, m)
  rw [← h.sz', List.getElem?_append_right (Nat.le_refl _), Nat.sub_self]
  rfl
theorem Ex.refl (n : Nat) (E : Nat → Prop) (σ : zS) : Ex n E σ σ := ⟨fun _ _ h => h, fun _ _ _ _ => rfl⟩
theorem Ex.trans {n' : Nat} (h : Ex n E σ σ1) (h2 : Ex n' E' σ1 σ2) (hn : n ≤ n') (hE : ∀ r, r < n → E' r → E r) : Ex n E σ σ2 := ⟨fun r q hq => h2.1 r q (h.1 r q hq), fun r j hr he => by rw [h2.2 r j (by omega) (fun y => he (hE r hr y)), h.2 r j hr he]⟩
theorem Ex.kd (h : Ex n E σ σ') (hq : Jvm.Pilot.@@N@@.kd σ r = some q) : Jvm.Pilot.@@N@@.kd σ' r = some q := h.1 r q hq
theorem ExN (h : BS L xs fo n K W R σ) (E : Nat → Prop) (t m : Nat) : Ex n E σ (sN σ t m) := ⟨fun r q hq => kdN hq, fun r j hr _ => by
  show (if r = σ.1.length then none else gR σ r j) = gR σ r j
  rw [if_neg (by have := h.sz'; omega)]⟩
theorem ExI (n : Nat) (E : Nat → Prop) (r j : Nat) (v : Int32) : Ex n E σ (sI σ r j v) := ⟨fun _ _ h => h, fun _ _ _ _ => rfl⟩
theorem ExR (n : Nat) {E : Nat → Prop} (h : E r) (j : Nat) (v : Option Nat) : Ex n E σ (sR σ r j v) := ⟨fun _ _ h => h, fun r' j' _ he => by
  rw [gR_sR, if_neg (fun y => he (by rw [y.1]; exact h))]⟩
end
