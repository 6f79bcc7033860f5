/-! a new name, both at once (2) -/
section
variable {t : Nat → Nat} {n : Nat} {α α' β γ : zS} {st : lx} {S N M K : Nat}
/-- whether a name is known to the class -/
def knC (α : zS) (S : Nat) (x : Int32) (N M K : Nat) : Bool := (fnd (fun k => decide (gI α (S + 24 + 2 * k) 0 = x)) M 0).isSome || (fnd (fun k => decide (gI α (S + 32 + 2 * k) 0 = x)) K 0).isSome || (fnd (fun k => decide (gI α (S + 8 + 2 * k) 0 = x)) N 0).isSome
theorem dec_iff {p q : Prop} {hp : Decidable p} {hq : Decidable q} (h : p ↔ q) : @decide p hp = @decide q hq := by
  by_cases z : p
  · rw [decide_eq_true z, decide_eq_true (h.mp z)]
  · rw [decide_eq_false z, decide_eq_false (fun y => z (h.mpr y))]
theorem j_known {x : Int32} {y : Int64} (hJ : JH α β S N M K) (hx : NM x y) : knC α S x N M K = knR β y N M K := by
  obtain ⟨h1, h2, h3, h4, h5, h6, h7, h8⟩ := hJ
  have e0 : fnd (fun k => decide (gI α (S + 8 + 2 * k) 0 = x)) N 0 = fnd (fun k => decide (gL β 213 (8 * 0 + k) = y)) N 0 := fnd_congr _ _ (fun k _ hk => dec_iff (by rw [show 8 * 0 + k = k by omega]; exact NM_eq (h4 k (by omega)).1 hx))
  have e1 : fnd (fun k => decide (gI α (S + 24 + 2 * k) 0 = x)) M 0 = fnd (fun k => decide (gL β 213 (8 * 1 + k) = y)) M 0 := fnd_congr _ _ (fun k _ hk => dec_iff (NM_eq (h5 k (by omega)).1 hx))
  have e2 : fnd (fun k => decide (gI α (S + 32 + 2 * k) 0 = x)) K 0 = fnd (fun k => decide (gL β 213 (8 * 2 + k) = y)) K 0 := fnd_congr _ _ (fun k _ hk => dec_iff (NM_eq (h6 k (by omega)).1 hx))
  unfold knC knR
  rw [e0, e1, e2]
  cases (fnd (fun k => decide (gL β 213 (8 * 0 + k) = y)) N 0).isSome <;> cases (fnd (fun k => decide (gL β 213 (8 * 1 + k) = y)) M 0).isSome <;> cases (fnd (fun k => decide (gL β 213 (8 * 2 + k) = y)) K 0).isSome <;> rfl
theorem knC_sI {x v : Int32} {Q : Nat} (hQN : ∀ k, k < N → Q ≠ S + 8 + 2 * k) (hQM : ∀ k, k < M → Q ≠ S + 24 + 2 * k) (hQK : ∀ k, k < K → Q ≠ S + 32 + 2 * k) : knC (sI α Q 0 v) S x N M K = knC α S x N M K := by
  have e0 : fnd (fun k => decide (gI (sI α Q 0 v) (S + 8 + 2 * k) 0 = x)) N 0 = fnd (fun k => decide (gI α (S + 8 + 2 * k) 0 = x)) N 0 := fnd_congr _ _ (fun k _ hk => by
    have := hQN k (by omega)
    rw [gI_sI, if_neg (by omega)])
  have e1 : fnd (fun k => decide (gI (sI α Q 0 v) (S + 24 + 2 * k) 0 = x)) M 0 = fnd (fun k => decide (gI α (S + 24 + 2 * k) 0 = x)) M 0 := fnd_congr _ _ (fun k _ hk => by
    have := hQM k (by omega)
    rw [gI_sI, if_neg (by omega)])
  have e2 : fnd (fun k => decide (gI (sI α Q 0 v) (S + 32 + 2 * k) 0 = x)) K 0 = fnd (fun k => decide (gI α (S + 32 + 2 * k) 0 = x)) K 0 := fnd_congr _ _ (fun k _ hk => by
    have := hQK k (by omega)
    rw [gI_sI, if_neg (by omega)])
  unfold knC
  rw [e0, e1, e2]
/-- refuseKnown -/
theorem c_refuse {x : Int32} {p : Nat} (hP : HP S) (hC : CS α t n st) (hN : N ≤ 8) (hM : M ≤ 4) (hK : K ≤ 6) (h5 : gI α S 5 = nI N) (h6 : gI α S 6 = nI M) (h7 : gI α S 7 = nI K) (hp : p < 2000) : ∃ α', zM 13 [.ref 11, .ref S, .int x, .int (nI p)] α = some (none, α') ∧ CS α' t n (if knC α S x N M K = true then lf st 3 p else st) ∧ Un (fun r _ => r = 8) α α' := by
  have hS := CS_sh hC
  obtain ⟨α', f1, f2⟩ := c_fail hC (f := 3) (p := p) (by decide) (by decide) hp
  have f1 : zM 106 [.ref 8, .int 3, .int (nI p)] α = some (none, α') := f1
  have hn := c_hasName hS hP x hN hM hK h5 h6 h7
  have hn : zM 3 [.ref S, .int x] α = some (some (.int (bI (knC α S x N M K))), α) := hn
  rw [q_X1_refuseKnown]
  simp -implicitDefEqProofs only [tg_sI, ln_sI, tg_sL, ln_sL, tg_sR, ln_sR, tg_sC, ln_sC, ai_sI, ai_sL, gL_sI, gR_sI, gI_sL, gR_sL, gI_sR, gL_sR, gI_sI, gL_sL, gR_sR, zlt_e, zln_e, zli_e, zll_e, zbI_e, zbL_e, zbR_e, zbV_e, zeR_e, zeN_s, zeN_n, Nat.reduceEqDiff, and_self, and_true, true_and, and_false, false_and, ite_true, ite_false, reduceIte, tg_P hS hP, hn, tg_11 hS, gR_11_0 hS, tg_8 hS, f1, bI_0]
  cases knC α S x N M K with
  | false => exact ⟨α, rfl, hC, Un.refl _ _⟩
  | true => exact ⟨α', rfl, f2, Un_tok hS f1 rfl (by decide +kernel)⟩
theorem j_name {kd c Q s e : Nat} (hP : HP S) (hC : CS α t n (.inl (s, e))) (hR : RS β t n (.inl (s, e))) (hJ : JH α β S N M K) (hk : kd < 3) (hc : c < 8) (hm : gI β 214 kd = nI c) (hQ1 : S + 8 ≤ Q) (hQ2 : Q < S + 44) (hQN : ∀ k, k < N → Q ≠ S + 8 + 2 * k) (hQM : ∀ k, k < M → Q ≠ S + 24 + 2 * k) (hQK : ∀ k, k < K → Q ≠ S + 32 + 2 * k) : ∃ x α1 α2 β2 st', zM 111 [.ref 8] α = some (some (.int x), α1) ∧ Sh α1 ∧ zM 13 [.ref 11, .ref S, .int x, .int (nI s)] (sI α1 Q 0 x) = some (none, α2) ∧ zM 205 [.ref 176, .int (nI kd)] β = some (some (.int (nI c)), β2) ∧ CS α2 t n st' ∧ RS β2 t n st' ∧ Un (fun r j => r = 8 ∨ (r = Q ∧ j = 0)) α α2 ∧ Un (fun r j => XL r j ∨ (r = 213 ∧ j = 8 * kd + c) ∨ (r = 214 ∧ j = kd)) β β2 ∧ (lL st' = true → NM (gI α2 Q 0) (gL β2 213 (8 * kd + c)) ∧ gI β2 214 kd = nI (c + 1)) := by
  have hb := HPb hP
  have hS := CS_sh hC
  have hS2 := RS_sh hR
  have hs : s < 2000 := by have := hC.2.1.1; have := hC.1.2.1; omega
  obtain ⟨α1, h1, h2⟩ := c_takeName hC
  obtain ⟨y, β1, g1, g2, g3⟩ := r_name hR
  have u1 := Un_tok hS h1 rfl (by decide +kernel)
  have w1 := Un_ref hS2 g1 rfl (by decide +kernel)
  have hJ1 := JH_rd hJ hP hS hS2 u1 w1
  have hS3 := RS_sh g2
  obtain ⟨⟨a1, a2, a3⟩, ⟨b1, b2, b3⟩, c1, c2, c3⟩ := hJ1.1
  have hm1 : gI β1 214 kd = nI c := by rw [w1.i (by omega) (by omega) (by omega) (by unfold XL; omega)]; exact hm
  have hCq : ∀ v, CS (sI α1 Q 0 v) t n (lM t n (.inl (s, e))) := fun v => CS_sI h2 (by omega) (by omega) (by omega) (by omega)
  have hq5 : ∀ v j, gI (sI α1 Q 0 v) S j = gI α1 S j := fun v j => by rw [gI_sI, if_neg (by omega)]
  have L : ∀ z, zM 205 [.ref 176, .int (nI kd)] β = z ↔ zR 5 205 5 [some (.ref 176), some (.int (nI kd)), some (.long y), none, some (.int (nI 0))] [] β1 = z := by
    intro z
    rw [q_X12_newName]
    simp -implicitDefEqProofs only [tg_sI, ln_sI, tg_sL, ln_sL, tg_sR, ln_sR, tg_sC, ln_sC, ai_sI, ai_sL, gL_sI, gR_sI, gI_sL, gR_sL, gI_sR, gL_sR, gI_sI, gL_sL, gR_sR, zlt_e, zln_e, zli_e, zll_e, zbI_e, zbL_e, zbR_e, zbV_e, zeR_e, zeN_s, zeN_n, Nat.reduceEqDiff, and_self, and_true, true_and, and_false, false_and, ite_true, ite_false, reduceIte, tg_176 hS2, g1]
    exact Iff.rfl
  have uQ : ∀ v α2, Un (fun r _ => r = 8) (sI α1 Q 0 v) α2 → Un (fun r j => r = 8 ∨ (r = Q ∧ j = 0)) α α2 := fun v α2 u2 => (u1.t2 (Un_sI (X := fun r j => r = Q ∧ j = 0) (v := v) ⟨rfl, rfl⟩) (fun r j _ _ q => .inl q) (fun r j _ _ q => .inr q)).trans (u2.mono (fun r j _ _ q => .inl q))
  have wX : ∀ β2, Un XL β1 β2 → Un (fun r j => XL r j ∨ (r = 213 ∧ j = 8 * kd + c) ∨ (r = 214 ∧ j = kd)) β β2 := fun β2 w2 => (w1.trans w2).mono (fun r j _ _ q => .inl q)
  obtain ⟨α2, r1, r2, r3⟩ := c_refuse (x := nI (if lL (lM t n (.inl (s, e))) = true then wv t (lp (.inl (s, e))) (tkE t n (lp (.inl (s, e)))) else 0)) (p := s) hP (hCq (nI (if lL (lM t n (.inl (s, e))) = true then wv t (lp (.inl (s, e))) (tkE t n (lp (.inl (s, e)))) else 0))) a2 b2 c2 (by rw [hq5]; exact a1) (by rw [hq5]; exact b1) (by rw [hq5]; exact c1) hs
  rw [knC_sI hQN hQM hQK] at r2
  by_cases hl : lL (lM t n (.inl (s, e))) = true
  · obtain ⟨s', e', hse, hla, hsn, hk1, h6⟩ := lM_live hl
    cases hse
    obtain ⟨hy, h45⟩ := g3 hl
    have hNM : NM (nI (wv t s (tkE t n s))) y := by rw [hy]; exact NM_at hsn hk1 h6
    rw [if_pos hl] at h1 r1 r2 r3
    have hkn := j_known hJ1 hNM
    have hall := nn_all (kd := kd) (c := c) g2 hl hk a2 b2 c2 a3 b3 c3 hc hm1 y (s := s) h45 hs
    have r2 : CS α2 t n (if knC α1 S (nI (wv t s (tkE t n s))) N M K = true then lf (lM t n (.inl (s, e))) 3 s else lM t n (.inl (s, e))) := r2
    rw [hkn] at r2
    cases hkv : knR β1 y N M K with
    | false =>
      rw [hkv, if_neg (by decide)] at r2
      refine ⟨_, α1, α2, _, lM t n (.inl (s, e)), h1, CS_sh h2, r1, (L _).mpr (hall.1 hkv), r2, RS_sI (RS_sL g2) (by omega), uQ _ _ r3, ?_, fun _ => ⟨?_, ?_⟩⟩
      · refine (w1.mono (fun r j _ _ q => .inl q)).trans ?_
        exact (Un_sL (.inr (.inl ⟨rfl, rfl⟩))).trans (Un_sI (.inr (.inr ⟨rfl, rfl⟩)))
      · have e1 : gI α2 Q 0 = nI (wv t s (tkE t n s)) := by
          rw [r3.i (by omega) (by omega) (by omega) (by omega), gI_sI, if_pos ⟨rfl, rfl⟩]
          rfl
        rw [e1, gL_sI, gL_sL, if_pos ⟨rfl, rfl⟩]
        exact hNM
      · rw [gI_sI, if_pos ⟨rfl, rfl⟩]
    | true =>
      rw [hkv, if_pos rfl] at r2
      obtain ⟨γ', z1, z2, z3⟩ := hall.2 hkv
      refine ⟨_, α1, α2, γ', _, h1, CS_sh h2, r1, (L _).mpr z1, r2, z2, uQ _ _ r3, wX _ z3, fun q => ?_⟩
      rw [hla] at q
      cases q
  · rw [if_neg hl] at h1 r1 r2 r3
    have hst : (if knC α1 S (nI 0) N M K = true then lf (lM t n (.inl (s, e))) 3 s else lM t n (.inl (s, e))) = lM t n (.inl (s, e)) := by
      split
      · revert hl
        cases lM t n (.inl (s, e)) with
        | inl q => intro hl; exact absurd rfl hl
        | inr q => intro _; rfl
      · rfl
    rw [hst] at r2
    exact ⟨_, α1, α2, β1, _, h1, CS_sh h2, r1, (L _).mpr (nn_dead g2 hl hk hm1 y), r2, g2, uQ _ _ r3, wX _ (Un.refl _ _), fun q => absurd q hl⟩
end
