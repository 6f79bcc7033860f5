/-! the call house: the theorem -/
/-- what may be written while the house P and all else stands -/
def FrP (P : Nat) (X : Nat → Nat → Prop) : Prop := (∀ r j, P ≤ r → r < P + 44 → ¬ X r j) ∧ (∀ r j, 116 ≤ r → r < 176 → ¬ X r j) ∧ (∀ r j, 232 ≤ r → r < 245 → ¬ X r j) ∧ (∀ j, j ≠ 1 ∧ j ≠ 7 ∧ j ≠ 8 → ¬ X 6 j) ∧ (∀ j, (70 ≤ j ∧ j < 88) ∨ 88 < j → ¬ X 176 j) ∧ (∀ r j, 213 ≤ r → r < 225 → hf r ≤ j → ¬ X r j) ∧ (∀ r j, r = 9 ∨ r = 110 ∨ r = 111 ∨ r = 252 ∨ r = 13 ∨ r = 227 ∨ (178 ≤ r ∧ r < 213) → ¬ X r j) ∧ (∀ j, j < 3 → ¬ X 228 j) ∧ (∀ r j, r = 229 ∨ r = 230 ∨ r = 231 → j < 120 → ¬ X r j) ∧ ∀ j, j < 4800 → ¬ X 225 j
section
variable {σ σ' σ1 σ2 α α' β β' : zS} {X : Nat → Nat → Prop} {u : Option Value} {B P S N M K np c k n m i : Nat} {t : Nat → Nat} {st : lx}
theorem RP_fr (h : RP σ c P S N M K np) (u : Un X σ σ') (f : FrP P X) (hS' : Sh σ') : RP σ' c P S N M K np := by
  obtain ⟨g1, g2, g4, g6, g7, g8, g9, g10, g11, g12⟩ := h
  obtain ⟨lo, pe, hi, s6, s176, up, im, x228, x229, x225⟩ := f
  have hP := g2.1
  have hb := HPb hP
  have u213 : ∀ j, 24 ≤ j → ¬ X 213 j := fun j hj => up 213 j (by omega) (by omega) hj
  have u214 : ∀ j, 3 ≤ j → ¬ X 214 j := fun j hj => up 214 j (by omega) (by omega) hj
  have u215 : ∀ j, 8 ≤ j → ¬ X 215 j := fun j hj => up 215 j (by omega) (by omega) hj
  have u217 : ∀ j, 20 ≤ j → ¬ X 217 j := fun j hj => up 217 j (by omega) (by omega) hj
  have u218 : ∀ j, 4 ≤ j → ¬ X 218 j := fun j hj => up 218 j (by omega) (by omega) hj
  have u219 : ∀ j, 4 ≤ j → ¬ X 219 j := fun j hj => up 219 j (by omega) (by omega) hj
  have u220 : ∀ j, 4 ≤ j → ¬ X 220 j := fun j hj => up 220 j (by omega) (by omega) hj
  have u221 : ∀ j, 30 ≤ j → ¬ X 221 j := fun j hj => up 221 j (by omega) (by omega) hj
  have u222 : ∀ j, 5 ≤ j → ¬ X 222 j := fun j hj => up 222 j (by omega) (by omega) hj
  have u223 : ∀ j, 3 ≤ j → ¬ X 223 j := fun j hj => up 223 j (by omega) (by omega) hj
  have u224 : ∀ j, 160 ≤ j → ¬ X 224 j := fun j hj => up 224 j (by omega) (by omega) hj
  refine ⟨hS', Hs_un g2 u ⟨s6 _ (by omega), s6 _ (by omega)⟩, Ow_un g4 g1 u (fun r j a => im r j (by omega)), ?_, HD_un g7 g1 hP u ⟨lo _ _ (by omega) (by omega), lo _ _ (by omega) (by omega), fun j => lo _ _ (by omega) (by omega)⟩ ⟨s176 _ (by omega), s176 _ (by omega), fun j => hi _ _ (by omega) (by omega), fun j => hi _ _ (by omega) (by omega)⟩, PN_un g8 u ⟨s6 _ (by omega), s176 _ (by omega)⟩, fun p hp => ?_, IM_un g10 g1 u ⟨im _ _ (by omega), s176 _ (by omega), fun j => im _ _ (by omega), fun j => im _ _ (by omega)⟩, MS_un g11 u ⟨s6 _ (by omega), s176 _ (by omega), s6 _ (by omega), s176 _ (by omega)⟩, fun k hk => RUk_un (g12 k hk) hk g1 u ⟨im _ _ (by omega), im _ _ (by omega), x228 _ (by omega), fun r j a _ _ => x229 r j a (by omega), fun j _ _ => x225 j (by omega)⟩⟩
  · obtain ⟨h1, h2, h3, h4, h5, h6, h7, h8, h9, h10⟩ := g6
    have n1 := h1.1.2.1
    have n2 := h1.2.1.2.1
    have n3 := h1.2.2.2.1
    exact ⟨HN_un h1 hP u (fun j _ _ => lo _ j (by omega) (by omega)) (fun j _ _ => u214 _ (by omega)), HF_un h2 hP u ⟨lo _ _ (by omega) (by omega), lo _ _ (by omega) (by omega)⟩ ⟨u223 _ (by omega), u223 _ (by omega)⟩, HC_un h3 hP u (lo _ _ (by omega) (by omega)) (u223 _ (by omega)), HPl_un h4 hP u (fun j _ => lo _ _ (by omega) (by omega)) (fun j _ _ => u222 _ (by omega)), fun k hk => HL_un (h5 k hk) (by omega) hP u (fun j _ => lo _ _ (by omega) (by omega)) ⟨u213 _ (by omega), u215 _ (by omega)⟩, fun k hk => HO_un (h6 k hk) (by omega) hP u (fun j => ⟨lo _ _ (by omega) (by omega), lo _ _ (by omega) (by omega)⟩) ⟨u213 _ (by omega), u218 _ (by omega), u219 _ (by omega), u220 _ (by omega), fun d _ => u217 _ (by omega)⟩, fun k hk => HQ_un (h7 k hk) (by omega) hP u (fun j => ⟨lo _ _ (by omega) (by omega), lo _ _ (by omega) (by omega)⟩) ⟨u213 _ (by omega), fun d _ => u221 _ (by omega)⟩, fun k hk => HR_un (h8 k hk) (by omega) hP u (fun j => lo _ _ (by omega) (by omega)) (fun r _ => hi _ _ (by omega) (by omega)), fun k hk => HU_un (h9 k hk) (by omega) hP u (lo _ _ (by omega) (by omega)) (hi _ _ (by omega) (by omega)), HS_un h10 n1 g1 hP u (fun j => lo _ _ (by omega) (by omega)) (fun j _ => u224 _ (by omega))⟩
  · have hp20 : p < 20 := by have := g8.1; omega
    obtain ⟨so, z, h1, h2, h3, h4, h5, h6, h7, h8⟩ := g9 p hp
    exact ⟨so, z, h1, h2, h3, PA_un h4 hp20 u ⟨pe _ _ (by omega) (by omega), pe _ _ (by omega) (by omega), hi _ _ (by omega) (by omega), hi _ _ (by omega) (by omega)⟩, PF_un h5 hp20 g1 u ⟨fun d => pe _ _ (by omega) (by omega), fun d _ => hi _ _ (by omega) (by omega)⟩, PB_un h6 hp20 u ⟨pe _ _ (by omega) (by omega), pe _ _ (by omega) (by omega), hi _ _ (by omega) (by omega), hi _ _ (by omega) (by omega)⟩, PT_un h7 hp20 u ⟨pe _ _ (by omega) (by omega), hi _ _ (by omega) (by omega)⟩, PK_un h8 hp20 h3 g1 u ⟨pe _ _ (by omega) (by omega), pe _ _ (by omega) (by omega), hi _ _ (by omega) (by omega), hi _ _ (by omega) (by omega), fun j => pe _ _ (by omega) (by omega), fun j _ _ => hi _ _ (by omega) (by omega)⟩⟩
/-- the house that both read, once it stands -/
theorem HH_new (hP : HP S) (h : JH α β S N M K) (fS : ∀ r j, S ≤ r → r < S + 44 → j < 100 → gI σ r j = gI α r j) (f6 : ∀ j, gI σ (S + 6) j = gI α (S + 6) j) (cp : ∀ r, 214 ≤ r → r < 225 → ∀ j, j < hf r → gI σ r (hf r + j) = gI β r j) (cl : ∀ j, j < 24 → gL σ 213 (24 + j) = gL β 213 j) (h241 : ∀ k, k < N → gI σ 241 k = -1) (h235 : ∀ k, k < N → ∀ i, i < 3 → gI σ 235 (3 * k + i) = 100 * gI β 216 (3 * k + i)) : HH σ S N M K := by
  have hb := HPb hP
  obtain ⟨⟨⟨a1, a2, a3⟩, ⟨a4, a5, a6⟩, a7, a8, a9⟩, ⟨⟨x1, b1, b2, b3⟩, ⟨x2, b4, b5, b6⟩, x3, b7, b8, b9⟩, ⟨fp, hp⟩, hL, hO, hQ, hT, hZ⟩ := h
  have c214 : ∀ j, j < 3 → gI σ 214 (3 + j) = gI β 214 j := cp 214 (by omega) (by omega)
  have c215 : ∀ j, j < 8 → gI σ 215 (8 + j) = gI β 215 j := cp 215 (by omega) (by omega)
  have c217 : ∀ j, j < 20 → gI σ 217 (20 + j) = gI β 217 j := cp 217 (by omega) (by omega)
  have c218 : ∀ j, j < 4 → gI σ 218 (4 + j) = gI β 218 j := cp 218 (by omega) (by omega)
  have c219 : ∀ j, j < 4 → gI σ 219 (4 + j) = gI β 219 j := cp 219 (by omega) (by omega)
  have c220 : ∀ j, j < 4 → gI σ 220 (4 + j) = gI β 220 j := cp 220 (by omega) (by omega)
  have c221 : ∀ j, j < 30 → gI σ 221 (30 + j) = gI β 221 j := cp 221 (by omega) (by omega)
  have c222 : ∀ j, j < 5 → gI σ 222 (5 + j) = gI β 222 j := cp 222 (by omega) (by omega)
  have c223 : ∀ j, j < 3 → gI σ 223 (3 + j) = gI β 223 j := cp 223 (by omega) (by omega)
  have c224 : ∀ j, j < 160 → gI σ 224 (160 + j) = gI β 224 j := cp 224 (by omega) (by omega)
  refine ⟨⟨⟨?_, a2, ?_⟩, ⟨?_, a5, ?_⟩, ?_, a8, ?_⟩, ⟨⟨x1, b1, ?_, ?_⟩, x2, b4, ?_, ?_⟩, ⟨x3, b7, ?_, ?_⟩, ⟨fp, fun d hd => ⟨(hp d hd).1, ?_, ?_⟩⟩, fun k hk => ?_, fun k hk => ?_, fun k hk => ?_, fun k hk => ?_, fun k hk => ⟨?_, .inl (h241 k hk)⟩, fun j hj => ?_⟩
  · rw [fS _ _ (by omega) (by omega) (by omega)]; exact a1
  · rw [← a3]; exact c214 0 (by omega)
  · rw [fS _ _ (by omega) (by omega) (by omega)]; exact a4
  · rw [← a6]; exact c214 1 (by omega)
  · rw [fS _ _ (by omega) (by omega) (by omega)]; exact a7
  · rw [← a9]; exact c214 2 (by omega)
  · rw [fS _ _ (by omega) (by omega) (by omega)]; exact b2
  · rw [← b3]; exact c223 0 (by omega)
  · rw [fS _ _ (by omega) (by omega) (by omega)]; exact b5
  · rw [← b6]; exact c223 1 (by omega)
  · rw [fS _ _ (by omega) (by omega) (by omega)]; exact b8
  · rw [← b9]; exact c223 2 (by omega)
  · rw [fS _ _ (by omega) (by omega) (by omega)]; exact (hp d hd).2.1
  · rw [c222 d hd]; exact (hp d hd).2.2
  · obtain ⟨q1, ⟨p, q2, q3, q4⟩, -⟩ := hL k hk
    refine ⟨?_, p, q2, ?_, ?_⟩
    · rw [fS _ _ (by omega) (by omega) (by omega), cl k (by omega)]; exact q1
    · rw [fS _ _ (by omega) (by omega) (by omega)]; exact q3
    · rw [c215 k (by omega)]; exact q4
  · obtain ⟨q1, ⟨p1, q2, q3, q4⟩, ⟨p2, q5, q6, q7⟩, ⟨p3, q8, q9, q10⟩, f, q11, q12⟩ := hO k hk
    refine ⟨?_, ⟨p1, q2, ?_, ?_⟩, ⟨p2, q5, ?_, ?_⟩, ⟨p3, q8, ?_, ?_⟩, f, q11, fun d hd => ⟨?_, ?_⟩⟩
    · rw [fS _ _ (by omega) (by omega) (by omega), show 32 + k = 24 + (8 + k) by omega, cl _ (by omega)]; exact q1
    · rw [fS _ _ (by omega) (by omega) (by omega)]; exact q3
    · rw [c218 k (by omega)]; exact q4
    · rw [fS _ _ (by omega) (by omega) (by omega)]; exact q6
    · rw [c219 k (by omega)]; exact q7
    · rw [fS _ _ (by omega) (by omega) (by omega)]; exact q9
    · rw [c220 k (by omega)]; exact q10
    · rw [fS _ _ (by omega) (by omega) (by omega)]; exact (q12 d hd).1
    · rw [Nat.add_assoc, c217 _ (by omega)]; exact (q12 d hd).2
  · obtain ⟨q1, f, q2⟩ := hQ k hk
    refine ⟨?_, f, fun d hd => ⟨(q2 d hd).1, ?_, ?_⟩⟩
    · rw [fS _ _ (by omega) (by omega) (by omega), show 40 + k = 24 + (16 + k) by omega, cl _ (by omega)]; exact q1
    · rw [fS _ _ (by omega) (by omega) (by omega)]; exact (q2 d hd).2.1
    · rw [Nat.add_assoc, c221 _ (by omega)]; exact (q2 d hd).2.2
  · obtain ⟨-, -, f, q1, q2⟩ := hL k hk
    refine ⟨fun r => 100 * f r, by simp only; omega, fun r hr => ⟨?_, ?_⟩⟩
    · rw [fS _ _ (by omega) (by omega) (by omega)]; exact (q2 r hr).1
    · rw [h235 k hk r hr, (q2 r hr).2]; exact nI_mulL 100 (f r)
  · rw [fS _ _ (by omega) (by omega) (by omega), h241 k hk]; exact hZ.2.2.2 k (by omega)
  · obtain ⟨v, -, v2, v3⟩ := hT.1 j hj
    rw [f6, c224 j (by omega), v2, v3]
theorem HD_new (hZ : JZ α S) (f7 : ∀ j, gI σ (S + 7) j = gI α (S + 7) j) (f5 : ∀ j, j < 100 → gI σ (S + 5) j = gI α (S + 5) j) (h82 : gI σ 176 82 = 0) (h84 : gI σ 176 84 = 0) : HD σ S N c := by
  refine ⟨0, 0, by omega, by omega, ?_, h82, ?_, h84, fun _ => 0, fun _ => 0, fun k hk => by omega, fun w hw l hl => ?_⟩
  · rw [f5 _ (by omega)]; exact hZ.2.2.1
  · rw [f5 _ (by omega)]; exact hZ.2.1
  · rw [f7]; exact hZ.1 _ (by omega)
end
