/-! a house is made; laid by wip/whole/gen/kinh.py -/
def hK (K : List (Nat × Nat)) : List (Nat × Nat) := (((((((((((((((((((((((((((((((((((((((((((K ++ [(68, 8)]) ++ [(73, 4)]) ++ [(70, 6)]) ++ [(32, 5)]) ++ [(10, 4)]) ++ [(32, 160)]) ++ [(32, 1120)]) ++ [(4, 4)]) ++ [(32, 3)]) ++ [(4, 4)]) ++ [(32, 3)]) ++ [(4, 4)]) ++ [(32, 3)]) ++ [(4, 4)]) ++ [(32, 3)]) ++ [(4, 4)]) ++ [(32, 3)]) ++ [(4, 4)]) ++ [(32, 3)]) ++ [(4, 4)]) ++ [(32, 3)]) ++ [(4, 4)]) ++ [(32, 3)]) ++ [(9, 5)]) ++ [(32, 5)]) ++ [(9, 5)]) ++ [(32, 5)]) ++ [(9, 5)]) ++ [(32, 5)]) ++ [(9, 5)]) ++ [(32, 5)]) ++ [(6, 2)]) ++ [(32, 5)]) ++ [(6, 2)]) ++ [(32, 5)]) ++ [(6, 2)]) ++ [(32, 5)]) ++ [(6, 2)]) ++ [(32, 5)]) ++ [(6, 2)]) ++ [(32, 5)]) ++ [(6, 2)]) ++ [(32, 5)])
def hW (n : Nat) (W : List (Nat × Nat × Int32)) : List (Nat × Nat × Int32) := ((n + 21, 3, (-1)) :: ((n + 19, 3, (-1)) :: ((n + 17, 3, (-1)) :: ((n + 15, 3, (-1)) :: ((n + 13, 3, (-1)) :: ((n + 11, 3, (-1)) :: ((n + 9, 3, (-1)) :: ((n + 7, 3, (-1)) :: W))))))))
def hR (a n : Nat) (R : List (Nat × Nat × Nat)) : List (Nat × Nat × Nat) := ((n + 2, 5, n + 41) :: ((n + 41, 1, n + 42) :: ((n + 2, 4, n + 39) :: ((n + 39, 1, n + 40) :: ((n + 2, 3, n + 37) :: ((n + 37, 1, n + 38) :: ((n + 2, 2, n + 35) :: ((n + 35, 1, n + 36) :: ((n + 2, 1, n + 33) :: ((n + 33, 1, n + 34) :: ((n + 2, 0, n + 31) :: ((n + 31, 1, n + 32) :: ((n + 1, 3, n + 29) :: ((n + 29, 1, n + 30) :: ((n + 1, 2, n + 27) :: ((n + 27, 1, n + 28) :: ((n + 1, 1, n + 25) :: ((n + 25, 1, n + 26) :: ((n + 1, 0, n + 23) :: ((n + 23, 1, n + 24) :: ((n, 7, n + 21) :: ((n + 21, 2, n + 22) :: ((n, 6, n + 19) :: ((n + 19, 2, n + 20) :: ((n, 5, n + 17) :: ((n + 17, 2, n + 18) :: ((n, 4, n + 15) :: ((n + 15, 2, n + 16) :: ((n, 3, n + 13) :: ((n + 13, 2, n + 14) :: ((n, 2, n + 11) :: ((n + 11, 2, n + 12) :: ((n, 1, n + 9) :: ((n + 9, 2, n + 10) :: ((n, 0, n + 7) :: ((n + 7, 2, n + 8) :: ((a, 4, n + 4) :: ((n + 4, 1, n + 6) :: ((n + 4, 0, n + 5) :: ((a, 3, n + 3) :: ((a, 2, n + 2) :: ((a, 1, n + 1) :: ((a, 0, n) :: R)))))))))))))))))))))))))))))))))))))))))))
section
variable {σ : zS} {L : Nat} {xs : Nat → Int32} {fo : Option Nat} {n a P A i : Nat} {K : List (Nat × Nat)} {W : List (Nat × Nat × Int32)} {R : List (Nat × Nat × Nat)}
theorem h_X3 (h : BS L xs fo n K W R σ) (kP : kd σ P = some (1, 11)) (hQ : gR σ P 0 = some A) (kA : kd σ A = some (68, 8)) (hA : 6 ≤ A) (hi : i < 8) : ∃ σ', zR 2 0 25 [some (.ref P), some (.int (nI i))] [] σ = zR 2 0 25 [some (.ref P), some (.int (nI (i + 1)))] [] σ' ∧ BS L xs fo (n + 2) ((K ++ [(4, 4)]) ++ [(32, 3)]) ((n, 3, (-1)) :: W) ((A, i, n) :: (n, 2, n + 1) :: R) σ' ∧ Ex n (fun r => r = A) σ σ' := by
  have n6 : 6 ≤ n := by have := h.1.2; omega
  have al : A < n := by rw [← h.sz']; exact kd_ltA kA
  have z1 : Jvm.Pilot.@@N@@.sz σ = n := h.sz
  have h1 := h.wN 4 4
  have kn := kdNn h 4 4
  obtain ⟨σ3, e3, h3, x3⟩ := b_X3 h1 kn n6
  have kA3 : kd σ3 A = some (68, 8) := x3.kd (kdN kA)
  have kn3 : kd σ3 n = some (4, 4) := x3.kd kn
  have aA := ai_nI (σ := σ3) (t := 68) (u := 68) (.inl (tg_kd kA3)) (ln_kd kA3) hi (by omega)
  refine ⟨sR σ3 A i (some n), ?_, h3.wR ⟨hA, by omega⟩ i n, Ex.trans (Ex.trans (ExN h (fun r => r = A) 4 4) x3 (by omega) (fun r hr y => absurd y (by omega))) (ExR (n + 2) (E := fun r => r = A) rfl i (some n)) (by omega) (fun r _ y => y)⟩
  rw [q_X0_init_25, if_neg (show ¬ (8 : Int32) ≤ nI i from nI_ge (b := 8) hi (by omega)), tg_kd kP, if_pos rfl, hQ, zeR_e, zln_e, zlt_e, z1, e3, zbV_e, if_pos aA, tg_kd kn3, if_pos rfl, zlt_e, ixn (by omega), nI_1]
theorem h_X8 (h : BS L xs fo n K W R σ) (kP : kd σ P = some (1, 11)) (hQ : gR σ P 1 = some A) (kA : kd σ A = some (73, 4)) (hA : 6 ≤ A) (hi : i < 4) : ∃ σ', zR 2 0 39 [some (.ref P), some (.int (nI i))] [] σ = zR 2 0 39 [some (.ref P), some (.int (nI (i + 1)))] [] σ' ∧ BS L xs fo (n + 2) ((K ++ [(9, 5)]) ++ [(32, 5)]) W ((A, i, n) :: (n, 1, n + 1) :: R) σ' ∧ Ex n (fun r => r = A) σ σ' := by
  have n6 : 6 ≤ n := by have := h.1.2; omega
  have al : A < n := by rw [← h.sz']; exact kd_ltA kA
  have z1 : Jvm.Pilot.@@N@@.sz σ = n := h.sz
  have h1 := h.wN 9 5
  have kn := kdNn h 9 5
  obtain ⟨σ3, e3, h3, x3⟩ := b_X8 h1 kn n6
  have kA3 : kd σ3 A = some (73, 4) := x3.kd (kdN kA)
  have kn3 : kd σ3 n = some (9, 5) := x3.kd kn
  have aA := ai_nI (σ := σ3) (t := 73) (u := 73) (.inl (tg_kd kA3)) (ln_kd kA3) hi (by omega)
  refine ⟨sR σ3 A i (some n), ?_, h3.wR ⟨hA, by omega⟩ i n, Ex.trans (Ex.trans (ExN h (fun r => r = A) 9 5) x3 (by omega) (fun r hr y => absurd y (by omega))) (ExR (n + 2) (E := fun r => r = A) rfl i (some n)) (by omega) (fun r _ y => y)⟩
  rw [q_X0_init_39, if_neg (show ¬ (4 : Int32) ≤ nI i from nI_ge (b := 4) hi (by omega)), tg_kd kP, if_pos rfl, hQ, zeR_e, zln_e, zlt_e, z1, e3, zbV_e, if_pos aA, tg_kd kn3, if_pos rfl, zlt_e, ixn (by omega), nI_1]
theorem h_X5 (h : BS L xs fo n K W R σ) (kP : kd σ P = some (1, 11)) (hQ : gR σ P 2 = some A) (kA : kd σ A = some (70, 6)) (hA : 6 ≤ A) (hi : i < 6) : ∃ σ', zR 2 0 53 [some (.ref P), some (.int (nI i))] [] σ = zR 2 0 53 [some (.ref P), some (.int (nI (i + 1)))] [] σ' ∧ BS L xs fo (n + 2) ((K ++ [(6, 2)]) ++ [(32, 5)]) W ((A, i, n) :: (n, 1, n + 1) :: R) σ' ∧ Ex n (fun r => r = A) σ σ' := by
  have n6 : 6 ≤ n := by have := h.1.2; omega
  have al : A < n := by rw [← h.sz']; exact kd_ltA kA
  have z1 : Jvm.Pilot.@@N@@.sz σ = n := h.sz
  have h1 := h.wN 6 2
  have kn := kdNn h 6 2
  obtain ⟨σ3, e3, h3, x3⟩ := b_X5 h1 kn n6
  have kA3 : kd σ3 A = some (70, 6) := x3.kd (kdN kA)
  have kn3 : kd σ3 n = some (6, 2) := x3.kd kn
  have aA := ai_nI (σ := σ3) (t := 70) (u := 70) (.inl (tg_kd kA3)) (ln_kd kA3) hi (by omega)
  refine ⟨sR σ3 A i (some n), ?_, h3.wR ⟨hA, by omega⟩ i n, Ex.trans (Ex.trans (ExN h (fun r => r = A) 6 2) x3 (by omega) (fun r hr y => absurd y (by omega))) (ExR (n + 2) (E := fun r => r = A) rfl i (some n)) (by omega) (fun r _ y => y)⟩
  rw [q_X0_init_53, if_neg (show ¬ (6 : Int32) ≤ nI i from nI_ge (b := 6) hi (by omega)), tg_kd kP, if_pos rfl, hQ, zeR_e, zln_e, zlt_e, z1, e3, zbV_e, if_pos aA, tg_kd kn3, if_pos rfl, zlt_e, ixn (by omega), nI_1]
theorem b_X0 (h : BS L xs fo n K W R σ) (hk : kd σ a = some (1, 11)) (ha : 6 ≤ a) : ∃ σ', zM 0 [.ref a] σ = some (none, σ') ∧ BS L xs fo (n + 43) (hK K) (hW n W) (hR a n R) σ' ∧ Ex n (fun r => r = a) σ σ' := by
  have al : a < n := by rw [← h.sz']; exact kd_ltA hk
  have z1 : Jvm.Pilot.@@N@@.sz σ = n := h.sz
  have h1 : BS L xs fo (n + 1) (K ++ [(68, 8)]) W R (sN σ 68 8) := h.wN 68 8
  have k1 : kd (sN σ 68 8) a = some (1, 11) := kdN hk
  have kn1 : kd (sN σ 68 8) (n) = some (68, 8) := kdNn h 68 8
  have g1 : BS L xs fo (n + 1) (K ++ [(68, 8)]) W ((a, 0, n) :: R) (sR (sN σ 68 8) a 0 (some (n))) := h1.wR ⟨ha, by omega⟩ 0 (n)
  have l1 : kd (sR (sN σ 68 8) a 0 (some (n))) a = some (1, 11) := k1
  have ln1 : kd (sR (sN σ 68 8) a 0 (some (n))) (n) = some (68, 8) := kn1
  have z2 : Jvm.Pilot.@@N@@.sz (sR (sN σ 68 8) a 0 (some (n))) = n + 1 := g1.sz
  have h2 : BS L xs fo (n + 2) ((K ++ [(68, 8)]) ++ [(73, 4)]) W ((a, 0, n) :: R) (sN (sR (sN σ 68 8) a 0 (some (n))) 73 4) := g1.wN 73 4
  have k2 : kd (sN (sR (sN σ 68 8) a 0 (some (n))) 73 4) a = some (1, 11) := kdN l1
  have kn2 : kd (sN (sR (sN σ 68 8) a 0 (some (n))) 73 4) (n + 1) = some (73, 4) := kdNn g1 73 4
  have g2 : BS L xs fo (n + 2) ((K ++ [(68, 8)]) ++ [(73, 4)]) W ((a, 1, n + 1) :: ((a, 0, n) :: R)) (sR (sN (sR (sN σ 68 8) a 0 (some (n))) 73 4) a 1 (some (n + 1))) := h2.wR ⟨ha, by omega⟩ 1 (n + 1)
  have l2 : kd (sR (sN (sR (sN σ 68 8) a 0 (some (n))) 73 4) a 1 (some (n + 1))) a = some (1, 11) := k2
  have ln2 : kd (sR (sN (sR (sN σ 68 8) a 0 (some (n))) 73 4) a 1 (some (n + 1))) (n + 1) = some (73, 4) := kn2
  have z3 : Jvm.Pilot.@@N@@.sz (sR (sN (sR (sN σ 68 8) a 0 (some (n))) 73 4) a 1 (some (n + 1))) = n + 2 := g2.sz
  have h3 : BS L xs fo (n + 3) (((K ++ [(68, 8)]) ++ [(73, 4)]) ++ [(70, 6)]) W ((a, 1, n + 1) :: ((a, 0, n) :: R)) (sN (sR (sN (sR (sN σ 68 8) a 0 (some (n))) 73 4) a 1 (some (n + 1))) 70 6) := g2.wN 70 6
  have k3 : kd (sN (sR (sN (sR (sN σ 68 8) a 0 (some (n))) 73 4) a 1 (some (n + 1))) 70 6) a = some (1, 11) := kdN l2
  have kn3 : kd (sN (sR (sN (sR (sN σ 68 8) a 0 (some (n))) 73 4) a 1 (some (n + 1))) 70 6) (n + 2) = some (70, 6) := kdNn g2 70 6
  have g3 : BS L xs fo (n + 3) (((K ++ [(68, 8)]) ++ [(73, 4)]) ++ [(70, 6)]) W ((a, 2, n + 2) :: ((a, 1, n + 1) :: ((a, 0, n) :: R))) (sR (sN (sR (sN (sR (sN σ 68 8) a 0 (some (n))) 73 4) a 1 (some (n + 1))) 70 6) a 2 (some (n + 2))) := h3.wR ⟨ha, by omega⟩ 2 (n + 2)
  have l3 : kd (sR (sN (sR (sN (sR (sN σ 68 8) a 0 (some (n))) 73 4) a 1 (some (n + 1))) 70 6) a 2 (some (n + 2))) a = some (1, 11) := k3
  have ln3 : kd (sR (sN (sR (sN (sR (sN σ 68 8) a 0 (some (n))) 73 4) a 1 (some (n + 1))) 70 6) a 2 (some (n + 2))) (n + 2) = some (70, 6) := kn3
  have z4 : Jvm.Pilot.@@N@@.sz (sR (sN (sR (sN (sR (sN σ 68 8) a 0 (some (n))) 73 4) a 1 (some (n + 1))) 70 6) a 2 (some (n + 2))) = n + 3 := g3.sz
  have h4 : BS L xs fo (n + 4) ((((K ++ [(68, 8)]) ++ [(73, 4)]) ++ [(70, 6)]) ++ [(32, 5)]) W ((a, 2, n + 2) :: ((a, 1, n + 1) :: ((a, 0, n) :: R))) (sN (sR (sN (sR (sN (sR (sN σ 68 8) a 0 (some (n))) 73 4) a 1 (some (n + 1))) 70 6) a 2 (some (n + 2))) 32 5) := g3.wN 32 5
  have k4 : kd (sN (sR (sN (sR (sN (sR (sN σ 68 8) a 0 (some (n))) 73 4) a 1 (some (n + 1))) 70 6) a 2 (some (n + 2))) 32 5) a = some (1, 11) := kdN l3
  have kn4 : kd (sN (sR (sN (sR (sN (sR (sN σ 68 8) a 0 (some (n))) 73 4) a 1 (some (n + 1))) 70 6) a 2 (some (n + 2))) 32 5) (n + 3) = some (32, 5) := kdNn g3 32 5
  have g4 : BS L xs fo (n + 4) ((((K ++ [(68, 8)]) ++ [(73, 4)]) ++ [(70, 6)]) ++ [(32, 5)]) W ((a, 3, n + 3) :: ((a, 2, n + 2) :: ((a, 1, n + 1) :: ((a, 0, n) :: R)))) (sR (sN (sR (sN (sR (sN (sR (sN σ 68 8) a 0 (some (n))) 73 4) a 1 (some (n + 1))) 70 6) a 2 (some (n + 2))) 32 5) a 3 (some (n + 3))) := h4.wR ⟨ha, by omega⟩ 3 (n + 3)
  have l4 : kd (sR (sN (sR (sN (sR (sN (sR (sN σ 68 8) a 0 (some (n))) 73 4) a 1 (some (n + 1))) 70 6) a 2 (some (n + 2))) 32 5) a 3 (some (n + 3))) a = some (1, 11) := k4
  have ln4 : kd (sR (sN (sR (sN (sR (sN (sR (sN σ 68 8) a 0 (some (n))) 73 4) a 1 (some (n + 1))) 70 6) a 2 (some (n + 2))) 32 5) a 3 (some (n + 3))) (n + 3) = some (32, 5) := kn4
  have t0 : kd (sR (sN (sR (sN (sR (sN (sR (sN σ 68 8) a 0 (some (n))) 73 4) a 1 (some (n + 1))) 70 6) a 2 (some (n + 2))) 32 5) a 3 (some (n + 3))) n = some (68, 8) := kdN (kdN (kdN ln1))
  have t1 : kd (sR (sN (sR (sN (sR (sN (sR (sN σ 68 8) a 0 (some (n))) 73 4) a 1 (some (n + 1))) 70 6) a 2 (some (n + 2))) 32 5) a 3 (some (n + 3))) (n + 1) = some (73, 4) := kdN (kdN ln2)
  have t2 : kd (sR (sN (sR (sN (sR (sN (sR (sN σ 68 8) a 0 (some (n))) 73 4) a 1 (some (n + 1))) 70 6) a 2 (some (n + 2))) 32 5) a 3 (some (n + 3))) (n + 2) = some (70, 6) := kdN ln3
  have v0 : gR (sR (sN (sR (sN (sR (sN (sR (sN σ 68 8) a 0 (some (n))) 73 4) a 1 (some (n + 1))) 70 6) a 2 (some (n + 2))) 32 5) a 3 (some (n + 3))) a 0 = some n := by rw [gR_sR, if_neg (by omega)]; exact (ExN g3 (fun _ => False) 32 5).2 a 0 (by omega) (fun y => y) |>.trans (by rw [gR_sR, if_neg (by omega)]; exact (ExN g2 (fun _ => False) 70 6).2 a 0 (by omega) (fun y => y) |>.trans (by rw [gR_sR, if_neg (by omega)]; exact (ExN g1 (fun _ => False) 73 4).2 a 0 (by omega) (fun y => y) |>.trans (by rw [gR_sR, if_pos ⟨rfl, rfl⟩])))
  have v1 : gR (sR (sN (sR (sN (sR (sN (sR (sN σ 68 8) a 0 (some (n))) 73 4) a 1 (some (n + 1))) 70 6) a 2 (some (n + 2))) 32 5) a 3 (some (n + 3))) a 1 = some (n + 1) := by rw [gR_sR, if_neg (by omega)]; exact (ExN g3 (fun _ => False) 32 5).2 a 1 (by omega) (fun y => y) |>.trans (by rw [gR_sR, if_neg (by omega)]; exact (ExN g2 (fun _ => False) 70 6).2 a 1 (by omega) (fun y => y) |>.trans (by rw [gR_sR, if_pos ⟨rfl, rfl⟩]))
  have v2 : gR (sR (sN (sR (sN (sR (sN (sR (sN σ 68 8) a 0 (some (n))) 73 4) a 1 (some (n + 1))) 70 6) a 2 (some (n + 2))) 32 5) a 3 (some (n + 3))) a 2 = some (n + 2) := by rw [gR_sR, if_neg (by omega)]; exact (ExN g3 (fun _ => False) 32 5).2 a 2 (by omega) (fun y => y) |>.trans (by rw [gR_sR, if_pos ⟨rfl, rfl⟩])
  have ex4 : Ex n (fun r => r = a) σ (sR (sN (sR (sN (sR (sN (sR (sN σ 68 8) a 0 (some (n))) 73 4) a 1 (some (n + 1))) 70 6) a 2 (some (n + 2))) 32 5) a 3 (some (n + 3))) := Ex.trans (Ex.trans (Ex.trans (Ex.trans (Ex.trans (Ex.trans (Ex.trans (ExN h (fun r => r = a) 68 8) (ExR (n + 1) (E := fun r => r = a) rfl 0 (some (n))) (by omega) (fun r _ y => y)) (ExN g1 (fun r => r = a) 73 4) (by omega) (fun r _ y => y)) (ExR (n + 2) (E := fun r => r = a) rfl 1 (some (n + 1))) (by omega) (fun r _ y => y)) (ExN g2 (fun r => r = a) 70 6) (by omega) (fun r _ y => y)) (ExR (n + 3) (E := fun r => r = a) rfl 2 (some (n + 2))) (by omega) (fun r _ y => y)) (ExN g3 (fun r => r = a) 32 5) (by omega) (fun r _ y => y)) (ExR (n + 4) (E := fun r => r = a) rfl 3 (some (n + 3))) (by omega) (fun r _ y => y)
  obtain ⟨s4, q4⟩ : ∃ s4, s4 = (sR (sN (sR (sN (sR (sN (sR (sN σ 68 8) a 0 (some (n))) 73 4) a 1 (some (n + 1))) 70 6) a 2 (some (n + 2))) 32 5) a 3 (some (n + 3))) := ⟨_, rfl⟩
  rw [← q4] at g4 l4 t0 t1 t2 v0 v1 v2 ex4
  have z5 : Jvm.Pilot.@@N@@.sz s4 = n + 4 := g4.sz
  have h5 : BS L xs fo (n + 5) (((((K ++ [(68, 8)]) ++ [(73, 4)]) ++ [(70, 6)]) ++ [(32, 5)]) ++ [(10, 4)]) W ((a, 3, n + 3) :: ((a, 2, n + 2) :: ((a, 1, n + 1) :: ((a, 0, n) :: R)))) (sN s4 10 4) := g4.wN 10 4
  have ks5 : kd (sN s4 10 4) (n + 4) = some (10, 4) := kdNn g4 10 4
  obtain ⟨s6, e6, h6, x6⟩ := b_X9 h5 ks5 (by omega)
  have x56 : Ex (n + 4) (fun r => r = a) s4 s6 := Ex.trans (ExN g4 (fun r => r = a) 10 4) x6 (by omega) (fun r hr y => absurd y (by omega))
  have k6 : kd s6 a = some (1, 11) := x56.kd l4
  have h7 : BS L xs fo (n + 7) (((((((K ++ [(68, 8)]) ++ [(73, 4)]) ++ [(70, 6)]) ++ [(32, 5)]) ++ [(10, 4)]) ++ [(32, 160)]) ++ [(32, 1120)]) W ((a, 4, n + 4) :: ((n + 4, 1, n + 6) :: (n + 4, 0, n + 5) :: ((a, 3, n + 3) :: ((a, 2, n + 2) :: ((a, 1, n + 1) :: ((a, 0, n) :: R)))))) (sR s6 a 4 (some (n + 4))) := h6.wR ⟨ha, by omega⟩ 4 (n + 4)
  obtain ⟨s7, q7⟩ : ∃ s7, s7 = sR s6 a 4 (some (n + 4)) := ⟨_, rfl⟩
  rw [← q7] at h7
  have x47 : Ex (n + 4) (fun r => r = a) s4 s7 := by rw [q7]; exact Ex.trans x56 (ExR (n + 7) (E := fun r => r = a) rfl 4 (some (n + 4))) (by omega) (fun r _ y => y)
  have ex7 : Ex n (fun r => r = a) σ s7 := Ex.trans ex4 x47 (by omega) (fun r _ y => y)
  have k7 : kd s7 a = some (1, 11) := x47.kd l4
  have w0 : gR s7 a 0 = some (n) := by rw [q7, gR_sR, if_neg (by omega), x6.2 a 0 (by omega) (by omega)]; exact (ExN g4 (fun _ => False) 10 4).2 a 0 (by omega) (fun y => y) |>.trans v0
  have u0 : kd s7 (n) = some (68, 8) := x47.kd t0
  have w1 : gR s7 a 1 = some (n + 1) := by rw [q7, gR_sR, if_neg (by omega), x6.2 a 1 (by omega) (by omega)]; exact (ExN g4 (fun _ => False) 10 4).2 a 1 (by omega) (fun y => y) |>.trans v1
  have u1 : kd s7 (n + 1) = some (73, 4) := x47.kd t1
  have w2 : gR s7 a 2 = some (n + 2) := by rw [q7, gR_sR, if_neg (by omega), x6.2 a 2 (by omega) (by omega)]; exact (ExN g4 (fun _ => False) 10 4).2 a 2 (by omega) (fun y => y) |>.trans v2
  have u2 : kd s7 (n + 2) = some (70, 6) := x47.kd t2
  obtain ⟨s8, e8, h8', x8⟩ := h_X3 (i := 0) h7 k7 w0 u0 (by omega) (by omega)
  have h8 : BS L xs fo (n + 9) (((((((((K ++ [(68, 8)]) ++ [(73, 4)]) ++ [(70, 6)]) ++ [(32, 5)]) ++ [(10, 4)]) ++ [(32, 160)]) ++ [(32, 1120)]) ++ [(4, 4)]) ++ [(32, 3)]) ((n + 7, 3, (-1)) :: W) ((n, 0, n + 7) :: (n + 7, 2, n + 8) :: ((a, 4, n + 4) :: ((n + 4, 1, n + 6) :: (n + 4, 0, n + 5) :: ((a, 3, n + 3) :: ((a, 2, n + 2) :: ((a, 1, n + 1) :: ((a, 0, n) :: R))))))) s8 := h8'
  have k8 : kd s8 a = some (1, 11) := x8.kd k7
  have ex8 : Ex n (fun r => r = a ∨ (n ≤ r)) σ s8 := Ex.trans (Ex.trans (Ex.refl n _ σ) ex7 (Nat.le_refl _) (fun r _ y => .inl y)) x8 (by omega) (fun r hr y => by omega)
  have w0_8 : gR s8 a 0 = some (n) := by rw [x8.2 a 0 (by omega) (by omega)]; exact w0
  have u0_8 : kd s8 (n) = some (68, 8) := x8.kd u0
  have w1_8 : gR s8 a 1 = some (n + 1) := by rw [x8.2 a 1 (by omega) (by omega)]; exact w1
  have u1_8 : kd s8 (n + 1) = some (73, 4) := x8.kd u1
  have w2_8 : gR s8 a 2 = some (n + 2) := by rw [x8.2 a 2 (by omega) (by omega)]; exact w2
  have u2_8 : kd s8 (n + 2) = some (70, 6) := x8.kd u2
  obtain ⟨s9, e9, h9', x9⟩ := h_X3 (i := 1) h8 k8 w0_8 u0_8 (by omega) (by omega)
  have h9 : BS L xs fo (n + 11) (((((((((((K ++ [(68, 8)]) ++ [(73, 4)]) ++ [(70, 6)]) ++ [(32, 5)]) ++ [(10, 4)]) ++ [(32, 160)]) ++ [(32, 1120)]) ++ [(4, 4)]) ++ [(32, 3)]) ++ [(4, 4)]) ++ [(32, 3)]) ((n + 9, 3, (-1)) :: ((n + 7, 3, (-1)) :: W)) ((n, 1, n + 9) :: (n + 9, 2, n + 10) :: ((n, 0, n + 7) :: (n + 7, 2, n + 8) :: ((a, 4, n + 4) :: ((n + 4, 1, n + 6) :: (n + 4, 0, n + 5) :: ((a, 3, n + 3) :: ((a, 2, n + 2) :: ((a, 1, n + 1) :: ((a, 0, n) :: R)))))))) s9 := h9'
  have k9 : kd s9 a = some (1, 11) := x9.kd k8
  have ex9 : Ex n (fun r => r = a ∨ (n ≤ r)) σ s9 := Ex.trans ex8 x9 (by omega) (fun r hr y => by omega)
  have w0_9 : gR s9 a 0 = some (n) := by rw [x9.2 a 0 (by omega) (by omega)]; exact w0_8
  have u0_9 : kd s9 (n) = some (68, 8) := x9.kd u0_8
  have w1_9 : gR s9 a 1 = some (n + 1) := by rw [x9.2 a 1 (by omega) (by omega)]; exact w1_8
  have u1_9 : kd s9 (n + 1) = some (73, 4) := x9.kd u1_8
  have w2_9 : gR s9 a 2 = some (n + 2) := by rw [x9.2 a 2 (by omega) (by omega)]; exact w2_8
  have u2_9 : kd s9 (n + 2) = some (70, 6) := x9.kd u2_8
  obtain ⟨s10, e10, h10', x10⟩ := h_X3 (i := 2) h9 k9 w0_9 u0_9 (by omega) (by omega)
  have h10 : BS L xs fo (n + 13) (((((((((((((K ++ [(68, 8)]) ++ [(73, 4)]) ++ [(70, 6)]) ++ [(32, 5)]) ++ [(10, 4)]) ++ [(32, 160)]) ++ [(32, 1120)]) ++ [(4, 4)]) ++ [(32, 3)]) ++ [(4, 4)]) ++ [(32, 3)]) ++ [(4, 4)]) ++ [(32, 3)]) ((n + 11, 3, (-1)) :: ((n + 9, 3, (-1)) :: ((n + 7, 3, (-1)) :: W))) ((n, 2, n + 11) :: (n + 11, 2, n + 12) :: ((n, 1, n + 9) :: (n + 9, 2, n + 10) :: ((n, 0, n + 7) :: (n + 7, 2, n + 8) :: ((a, 4, n + 4) :: ((n + 4, 1, n + 6) :: (n + 4, 0, n + 5) :: ((a, 3, n + 3) :: ((a, 2, n + 2) :: ((a, 1, n + 1) :: ((a, 0, n) :: R))))))))) s10 := h10'
  have k10 : kd s10 a = some (1, 11) := x10.kd k9
  have ex10 : Ex n (fun r => r = a ∨ (n ≤ r)) σ s10 := Ex.trans ex9 x10 (by omega) (fun r hr y => by omega)
  have w0_10 : gR s10 a 0 = some (n) := by rw [x10.2 a 0 (by omega) (by omega)]; exact w0_9
  have u0_10 : kd s10 (n) = some (68, 8) := x10.kd u0_9
  have w1_10 : gR s10 a 1 = some (n + 1) := by rw [x10.2 a 1 (by omega) (by omega)]; exact w1_9
  have u1_10 : kd s10 (n + 1) = some (73, 4) := x10.kd u1_9
  have w2_10 : gR s10 a 2 = some (n + 2) := by rw [x10.2 a 2 (by omega) (by omega)]; exact w2_9
  have u2_10 : kd s10 (n + 2) = some (70, 6) := x10.kd u2_9
  obtain ⟨s11, e11, h11', x11⟩ := h_X3 (i := 3) h10 k10 w0_10 u0_10 (by omega) (by omega)
  have h11 : BS L xs fo (n + 15) (((((((((((((((K ++ [(68, 8)]) ++ [(73, 4)]) ++ [(70, 6)]) ++ [(32, 5)]) ++ [(10, 4)]) ++ [(32, 160)]) ++ [(32, 1120)]) ++ [(4, 4)]) ++ [(32, 3)]) ++ [(4, 4)]) ++ [(32, 3)]) ++ [(4, 4)]) ++ [(32, 3)]) ++ [(4, 4)]) ++ [(32, 3)]) ((n + 13, 3, (-1)) :: ((n + 11, 3, (-1)) :: ((n + 9, 3, (-1)) :: ((n + 7, 3, (-1)) :: W)))) ((n, 3, n + 13) :: (n + 13, 2, n + 14) :: ((n, 2, n + 11) :: (n + 11, 2, n + 12) :: ((n, 1, n + 9) :: (n + 9, 2, n + 10) :: ((n, 0, n + 7) :: (n + 7, 2, n + 8) :: ((a, 4, n + 4) :: ((n + 4, 1, n + 6) :: (n + 4, 0, n + 5) :: ((a, 3, n + 3) :: ((a, 2, n + 2) :: ((a, 1, n + 1) :: ((a, 0, n) :: R)))))))))) s11 := h11'
  have k11 : kd s11 a = some (1, 11) := x11.kd k10
  have ex11 : Ex n (fun r => r = a ∨ (n ≤ r)) σ s11 := Ex.trans ex10 x11 (by omega) (fun r hr y => by omega)
  have w0_11 : gR s11 a 0 = some (n) := by rw [x11.2 a 0 (by omega) (by omega)]; exact w0_10
  have u0_11 : kd s11 (n) = some (68, 8) := x11.kd u0_10
  have w1_11 : gR s11 a 1 = some (n + 1) := by rw [x11.2 a 1 (by omega) (by omega)]; exact w1_10
  have u1_11 : kd s11 (n + 1) = some (73, 4) := x11.kd u1_10
  have w2_11 : gR s11 a 2 = some (n + 2) := by rw [x11.2 a 2 (by omega) (by omega)]; exact w2_10
  have u2_11 : kd s11 (n + 2) = some (70, 6) := x11.kd u2_10
  obtain ⟨s12, e12, h12', x12⟩ := h_X3 (i := 4) h11 k11 w0_11 u0_11 (by omega) (by omega)
  have h12 : BS L xs fo (n + 17) (((((((((((((((((K ++ [(68, 8)]) ++ [(73, 4)]) ++ [(70, 6)]) ++ [(32, 5)]) ++ [(10, 4)]) ++ [(32, 160)]) ++ [(32, 1120)]) ++ [(4, 4)]) ++ [(32, 3)]) ++ [(4, 4)]) ++ [(32, 3)]) ++ [(4, 4)]) ++ [(32, 3)]) ++ [(4, 4)]) ++ [(32, 3)]) ++ [(4, 4)]) ++ [(32, 3)]) ((n + 15, 3, (-1)) :: ((n + 13, 3, (-1)) :: ((n + 11, 3, (-1)) :: ((n + 9, 3, (-1)) :: ((n + 7, 3, (-1)) :: W))))) ((n, 4, n + 15) :: (n + 15, 2, n + 16) :: ((n, 3, n + 13) :: (n + 13, 2, n + 14) :: ((n, 2, n + 11) :: (n + 11, 2, n + 12) :: ((n, 1, n + 9) :: (n + 9, 2, n + 10) :: ((n, 0, n + 7) :: (n + 7, 2, n + 8) :: ((a, 4, n + 4) :: ((n + 4, 1, n + 6) :: (n + 4, 0, n + 5) :: ((a, 3, n + 3) :: ((a, 2, n + 2) :: ((a, 1, n + 1) :: ((a, 0, n) :: R))))))))))) s12 := h12'
  have k12 : kd s12 a = some (1, 11) := x12.kd k11
  have ex12 : Ex n (fun r => r = a ∨ (n ≤ r)) σ s12 := Ex.trans ex11 x12 (by omega) (fun r hr y => by omega)
  have w0_12 : gR s12 a 0 = some (n) := by rw [x12.2 a 0 (by omega) (by omega)]; exact w0_11
  have u0_12 : kd s12 (n) = some (68, 8) := x12.kd u0_11
  have w1_12 : gR s12 a 1 = some (n + 1) := by rw [x12.2 a 1 (by omega) (by omega)]; exact w1_11
  have u1_12 : kd s12 (n + 1) = some (73, 4) := x12.kd u1_11
  have w2_12 : gR s12 a 2 = some (n + 2) := by rw [x12.2 a 2 (by omega) (by omega)]; exact w2_11
  have u2_12 : kd s12 (n + 2) = some (70, 6) := x12.kd u2_11
  obtain ⟨s13, e13, h13', x13⟩ := h_X3 (i := 5) h12 k12 w0_12 u0_12 (by omega) (by omega)
  have h13 : BS L xs fo (n + 19) (((((((((((((((((((K ++ [(68, 8)]) ++ [(73, 4)]) ++ [(70, 6)]) ++ [(32, 5)]) ++ [(10, 4)]) ++ [(32, 160)]) ++ [(32, 1120)]) ++ [(4, 4)]) ++ [(32, 3)]) ++ [(4, 4)]) ++ [(32, 3)]) ++ [(4, 4)]) ++ [(32, 3)]) ++ [(4, 4)]) ++ [(32, 3)]) ++ [(4, 4)]) ++ [(32, 3)]) ++ [(4, 4)]) ++ [(32, 3)]) ((n + 17, 3, (-1)) :: ((n + 15, 3, (-1)) :: ((n + 13, 3, (-1)) :: ((n + 11, 3, (-1)) :: ((n + 9, 3, (-1)) :: ((n + 7, 3, (-1)) :: W)))))) ((n, 5, n + 17) :: (n + 17, 2, n + 18) :: ((n, 4, n + 15) :: (n + 15, 2, n + 16) :: ((n, 3, n + 13) :: (n + 13, 2, n + 14) :: ((n, 2, n + 11) :: (n + 11, 2, n + 12) :: ((n, 1, n + 9) :: (n + 9, 2, n + 10) :: ((n, 0, n + 7) :: (n + 7, 2, n + 8) :: ((a, 4, n + 4) :: ((n + 4, 1, n + 6) :: (n + 4, 0, n + 5) :: ((a, 3, n + 3) :: ((a, 2, n + 2) :: ((a, 1, n + 1) :: ((a, 0, n) :: R)))))))))))) s13 := h13'
  have k13 : kd s13 a = some (1, 11) := x13.kd k12
  have ex13 : Ex n (fun r => r = a ∨ (n ≤ r)) σ s13 := Ex.trans ex12 x13 (by omega) (fun r hr y => by omega)
  have w0_13 : gR s13 a 0 = some (n) := by rw [x13.2 a 0 (by omega) (by omega)]; exact w0_12
  have u0_13 : kd s13 (n) = some (68, 8) := x13.kd u0_12
  have w1_13 : gR s13 a 1 = some (n + 1) := by rw [x13.2 a 1 (by omega) (by omega)]; exact w1_12
  have u1_13 : kd s13 (n + 1) = some (73, 4) := x13.kd u1_12
  have w2_13 : gR s13 a 2 = some (n + 2) := by rw [x13.2 a 2 (by omega) (by omega)]; exact w2_12
  have u2_13 : kd s13 (n + 2) = some (70, 6) := x13.kd u2_12
  obtain ⟨s14, e14, h14', x14⟩ := h_X3 (i := 6) h13 k13 w0_13 u0_13 (by omega) (by omega)
  have h14 : BS L xs fo (n + 21) (((((((((((((((((((((K ++ [(68, 8)]) ++ [(73, 4)]) ++ [(70, 6)]) ++ [(32, 5)]) ++ [(10, 4)]) ++ [(32, 160)]) ++ [(32, 1120)]) ++ [(4, 4)]) ++ [(32, 3)]) ++ [(4, 4)]) ++ [(32, 3)]) ++ [(4, 4)]) ++ [(32, 3)]) ++ [(4, 4)]) ++ [(32, 3)]) ++ [(4, 4)]) ++ [(32, 3)]) ++ [(4, 4)]) ++ [(32, 3)]) ++ [(4, 4)]) ++ [(32, 3)]) ((n + 19, 3, (-1)) :: ((n + 17, 3, (-1)) :: ((n + 15, 3, (-1)) :: ((n + 13, 3, (-1)) :: ((n + 11, 3, (-1)) :: ((n + 9, 3, (-1)) :: ((n + 7, 3, (-1)) :: W))))))) ((n, 6, n + 19) :: (n + 19, 2, n + 20) :: ((n, 5, n + 17) :: (n + 17, 2, n + 18) :: ((n, 4, n + 15) :: (n + 15, 2, n + 16) :: ((n, 3, n + 13) :: (n + 13, 2, n + 14) :: ((n, 2, n + 11) :: (n + 11, 2, n + 12) :: ((n, 1, n + 9) :: (n + 9, 2, n + 10) :: ((n, 0, n + 7) :: (n + 7, 2, n + 8) :: ((a, 4, n + 4) :: ((n + 4, 1, n + 6) :: (n + 4, 0, n + 5) :: ((a, 3, n + 3) :: ((a, 2, n + 2) :: ((a, 1, n + 1) :: ((a, 0, n) :: R))))))))))))) s14 := h14'
  have k14 : kd s14 a = some (1, 11) := x14.kd k13
  have ex14 : Ex n (fun r => r = a ∨ (n ≤ r)) σ s14 := Ex.trans ex13 x14 (by omega) (fun r hr y => by omega)
  have w0_14 : gR s14 a 0 = some (n) := by rw [x14.2 a 0 (by omega) (by omega)]; exact w0_13
  have u0_14 : kd s14 (n) = some (68, 8) := x14.kd u0_13
  have w1_14 : gR s14 a 1 = some (n + 1) := by rw [x14.2 a 1 (by omega) (by omega)]; exact w1_13
  have u1_14 : kd s14 (n + 1) = some (73, 4) := x14.kd u1_13
  have w2_14 : gR s14 a 2 = some (n + 2) := by rw [x14.2 a 2 (by omega) (by omega)]; exact w2_13
  have u2_14 : kd s14 (n + 2) = some (70, 6) := x14.kd u2_13
  obtain ⟨s15, e15, h15', x15⟩ := h_X3 (i := 7) h14 k14 w0_14 u0_14 (by omega) (by omega)
  have h15 : BS L xs fo (n + 23) (((((((((((((((((((((((K ++ [(68, 8)]) ++ [(73, 4)]) ++ [(70, 6)]) ++ [(32, 5)]) ++ [(10, 4)]) ++ [(32, 160)]) ++ [(32, 1120)]) ++ [(4, 4)]) ++ [(32, 3)]) ++ [(4, 4)]) ++ [(32, 3)]) ++ [(4, 4)]) ++ [(32, 3)]) ++ [(4, 4)]) ++ [(32, 3)]) ++ [(4, 4)]) ++ [(32, 3)]) ++ [(4, 4)]) ++ [(32, 3)]) ++ [(4, 4)]) ++ [(32, 3)]) ++ [(4, 4)]) ++ [(32, 3)]) ((n + 21, 3, (-1)) :: ((n + 19, 3, (-1)) :: ((n + 17, 3, (-1)) :: ((n + 15, 3, (-1)) :: ((n + 13, 3, (-1)) :: ((n + 11, 3, (-1)) :: ((n + 9, 3, (-1)) :: ((n + 7, 3, (-1)) :: W)))))))) ((n, 7, n + 21) :: (n + 21, 2, n + 22) :: ((n, 6, n + 19) :: (n + 19, 2, n + 20) :: ((n, 5, n + 17) :: (n + 17, 2, n + 18) :: ((n, 4, n + 15) :: (n + 15, 2, n + 16) :: ((n, 3, n + 13) :: (n + 13, 2, n + 14) :: ((n, 2, n + 11) :: (n + 11, 2, n + 12) :: ((n, 1, n + 9) :: (n + 9, 2, n + 10) :: ((n, 0, n + 7) :: (n + 7, 2, n + 8) :: ((a, 4, n + 4) :: ((n + 4, 1, n + 6) :: (n + 4, 0, n + 5) :: ((a, 3, n + 3) :: ((a, 2, n + 2) :: ((a, 1, n + 1) :: ((a, 0, n) :: R)))))))))))))) s15 := h15'
  have k15 : kd s15 a = some (1, 11) := x15.kd k14
  have ex15 : Ex n (fun r => r = a ∨ (n ≤ r)) σ s15 := Ex.trans ex14 x15 (by omega) (fun r hr y => by omega)
  have w0_15 : gR s15 a 0 = some (n) := by rw [x15.2 a 0 (by omega) (by omega)]; exact w0_14
  have u0_15 : kd s15 (n) = some (68, 8) := x15.kd u0_14
  have w1_15 : gR s15 a 1 = some (n + 1) := by rw [x15.2 a 1 (by omega) (by omega)]; exact w1_14
  have u1_15 : kd s15 (n + 1) = some (73, 4) := x15.kd u1_14
  have w2_15 : gR s15 a 2 = some (n + 2) := by rw [x15.2 a 2 (by omega) (by omega)]; exact w2_14
  have u2_15 : kd s15 (n + 2) = some (70, 6) := x15.kd u2_14
  obtain ⟨s16, e16, h16', x16⟩ := h_X8 (i := 0) h15 k15 w1_15 u1_15 (by omega) (by omega)
  have h16 : BS L xs fo (n + 25) (((((((((((((((((((((((((K ++ [(68, 8)]) ++ [(73, 4)]) ++ [(70, 6)]) ++ [(32, 5)]) ++ [(10, 4)]) ++ [(32, 160)]) ++ [(32, 1120)]) ++ [(4, 4)]) ++ [(32, 3)]) ++ [(4, 4)]) ++ [(32, 3)]) ++ [(4, 4)]) ++ [(32, 3)]) ++ [(4, 4)]) ++ [(32, 3)]) ++ [(4, 4)]) ++ [(32, 3)]) ++ [(4, 4)]) ++ [(32, 3)]) ++ [(4, 4)]) ++ [(32, 3)]) ++ [(4, 4)]) ++ [(32, 3)]) ++ [(9, 5)]) ++ [(32, 5)]) ((n + 21, 3, (-1)) :: ((n + 19, 3, (-1)) :: ((n + 17, 3, (-1)) :: ((n + 15, 3, (-1)) :: ((n + 13, 3, (-1)) :: ((n + 11, 3, (-1)) :: ((n + 9, 3, (-1)) :: ((n + 7, 3, (-1)) :: W)))))))) ((n + 1, 0, n + 23) :: (n + 23, 1, n + 24) :: ((n, 7, n + 21) :: (n + 21, 2, n + 22) :: ((n, 6, n + 19) :: (n + 19, 2, n + 20) :: ((n, 5, n + 17) :: (n + 17, 2, n + 18) :: ((n, 4, n + 15) :: (n + 15, 2, n + 16) :: ((n, 3, n + 13) :: (n + 13, 2, n + 14) :: ((n, 2, n + 11) :: (n + 11, 2, n + 12) :: ((n, 1, n + 9) :: (n + 9, 2, n + 10) :: ((n, 0, n + 7) :: (n + 7, 2, n + 8) :: ((a, 4, n + 4) :: ((n + 4, 1, n + 6) :: (n + 4, 0, n + 5) :: ((a, 3, n + 3) :: ((a, 2, n + 2) :: ((a, 1, n + 1) :: ((a, 0, n) :: R))))))))))))))) s16 := h16'
  have k16 : kd s16 a = some (1, 11) := x16.kd k15
  have ex16 : Ex n (fun r => r = a ∨ (n ≤ r)) σ s16 := Ex.trans ex15 x16 (by omega) (fun r hr y => by omega)
  have w1_16 : gR s16 a 1 = some (n + 1) := by rw [x16.2 a 1 (by omega) (by omega)]; exact w1_15
  have u1_16 : kd s16 (n + 1) = some (73, 4) := x16.kd u1_15
  have w2_16 : gR s16 a 2 = some (n + 2) := by rw [x16.2 a 2 (by omega) (by omega)]; exact w2_15
  have u2_16 : kd s16 (n + 2) = some (70, 6) := x16.kd u2_15
  obtain ⟨s17, e17, h17', x17⟩ := h_X8 (i := 1) h16 k16 w1_16 u1_16 (by omega) (by omega)
  have h17 : BS L xs fo (n + 27) (((((((((((((((((((((((((((K ++ [(68, 8)]) ++ [(73, 4)]) ++ [(70, 6)]) ++ [(32, 5)]) ++ [(10, 4)]) ++ [(32, 160)]) ++ [(32, 1120)]) ++ [(4, 4)]) ++ [(32, 3)]) ++ [(4, 4)]) ++ [(32, 3)]) ++ [(4, 4)]) ++ [(32, 3)]) ++ [(4, 4)]) ++ [(32, 3)]) ++ [(4, 4)]) ++ [(32, 3)]) ++ [(4, 4)]) ++ [(32, 3)]) ++ [(4, 4)]) ++ [(32, 3)]) ++ [(4, 4)]) ++ [(32, 3)]) ++ [(9, 5)]) ++ [(32, 5)]) ++ [(9, 5)]) ++ [(32, 5)]) ((n + 21, 3, (-1)) :: ((n + 19, 3, (-1)) :: ((n + 17, 3, (-1)) :: ((n + 15, 3, (-1)) :: ((n + 13, 3, (-1)) :: ((n + 11, 3, (-1)) :: ((n + 9, 3, (-1)) :: ((n + 7, 3, (-1)) :: W)))))))) ((n + 1, 1, n + 25) :: (n + 25, 1, n + 26) :: ((n + 1, 0, n + 23) :: (n + 23, 1, n + 24) :: ((n, 7, n + 21) :: (n + 21, 2, n + 22) :: ((n, 6, n + 19) :: (n + 19, 2, n + 20) :: ((n, 5, n + 17) :: (n + 17, 2, n + 18) :: ((n, 4, n + 15) :: (n + 15, 2, n + 16) :: ((n, 3, n + 13) :: (n + 13, 2, n + 14) :: ((n, 2, n + 11) :: (n + 11, 2, n + 12) :: ((n, 1, n + 9) :: (n + 9, 2, n + 10) :: ((n, 0, n + 7) :: (n + 7, 2, n + 8) :: ((a, 4, n + 4) :: ((n + 4, 1, n + 6) :: (n + 4, 0, n + 5) :: ((a, 3, n + 3) :: ((a, 2, n + 2) :: ((a, 1, n + 1) :: ((a, 0, n) :: R)))))))))))))))) s17 := h17'
  have k17 : kd s17 a = some (1, 11) := x17.kd k16
  have ex17 : Ex n (fun r => r = a ∨ (n ≤ r)) σ s17 := Ex.trans ex16 x17 (by omega) (fun r hr y => by omega)
  have w1_17 : gR s17 a 1 = some (n + 1) := by rw [x17.2 a 1 (by omega) (by omega)]; exact w1_16
  have u1_17 : kd s17 (n + 1) = some (73, 4) := x17.kd u1_16
  have w2_17 : gR s17 a 2 = some (n + 2) := by rw [x17.2 a 2 (by omega) (by omega)]; exact w2_16
  have u2_17 : kd s17 (n + 2) = some (70, 6) := x17.kd u2_16
  obtain ⟨s18, e18, h18', x18⟩ := h_X8 (i := 2) h17 k17 w1_17 u1_17 (by omega) (by omega)
  have h18 : BS L xs fo (n + 29) (((((((((((((((((((((((((((((K ++ [(68, 8)]) ++ [(73, 4)]) ++ [(70, 6)]) ++ [(32, 5)]) ++ [(10, 4)]) ++ [(32, 160)]) ++ [(32, 1120)]) ++ [(4, 4)]) ++ [(32, 3)]) ++ [(4, 4)]) ++ [(32, 3)]) ++ [(4, 4)]) ++ [(32, 3)]) ++ [(4, 4)]) ++ [(32, 3)]) ++ [(4, 4)]) ++ [(32, 3)]) ++ [(4, 4)]) ++ [(32, 3)]) ++ [(4, 4)]) ++ [(32, 3)]) ++ [(4, 4)]) ++ [(32, 3)]) ++ [(9, 5)]) ++ [(32, 5)]) ++ [(9, 5)]) ++ [(32, 5)]) ++ [(9, 5)]) ++ [(32, 5)]) ((n + 21, 3, (-1)) :: ((n + 19, 3, (-1)) :: ((n + 17, 3, (-1)) :: ((n + 15, 3, (-1)) :: ((n + 13, 3, (-1)) :: ((n + 11, 3, (-1)) :: ((n + 9, 3, (-1)) :: ((n + 7, 3, (-1)) :: W)))))))) ((n + 1, 2, n + 27) :: (n + 27, 1, n + 28) :: ((n + 1, 1, n + 25) :: (n + 25, 1, n + 26) :: ((n + 1, 0, n + 23) :: (n + 23, 1, n + 24) :: ((n, 7, n + 21) :: (n + 21, 2, n + 22) :: ((n, 6, n + 19) :: (n + 19, 2, n + 20) :: ((n, 5, n + 17) :: (n + 17, 2, n + 18) :: ((n, 4, n + 15) :: (n + 15, 2, n + 16) :: ((n, 3, n + 13) :: (n + 13, 2, n + 14) :: ((n, 2, n + 11) :: (n + 11, 2, n + 12) :: ((n, 1, n + 9) :: (n + 9, 2, n + 10) :: ((n, 0, n + 7) :: (n + 7, 2, n + 8) :: ((a, 4, n + 4) :: ((n + 4, 1, n + 6) :: (n + 4, 0, n + 5) :: ((a, 3, n + 3) :: ((a, 2, n + 2) :: ((a, 1, n + 1) :: ((a, 0, n) :: R))))))))))))))))) s18 := h18'
  have k18 : kd s18 a = some (1, 11) := x18.kd k17
  have ex18 : Ex n (fun r => r = a ∨ (n ≤ r)) σ s18 := Ex.trans ex17 x18 (by omega) (fun r hr y => by omega)
  have w1_18 : gR s18 a 1 = some (n + 1) := by rw [x18.2 a 1 (by omega) (by omega)]; exact w1_17
  have u1_18 : kd s18 (n + 1) = some (73, 4) := x18.kd u1_17
  have w2_18 : gR s18 a 2 = some (n + 2) := by rw [x18.2 a 2 (by omega) (by omega)]; exact w2_17
  have u2_18 : kd s18 (n + 2) = some (70, 6) := x18.kd u2_17
  obtain ⟨s19, e19, h19', x19⟩ := h_X8 (i := 3) h18 k18 w1_18 u1_18 (by omega) (by omega)
  have h19 : BS L xs fo (n + 31) (((((((((((((((((((((((((((((((K ++ [(68, 8)]) ++ [(73, 4)]) ++ [(70, 6)]) ++ [(32, 5)]) ++ [(10, 4)]) ++ [(32, 160)]) ++ [(32, 1120)]) ++ [(4, 4)]) ++ [(32, 3)]) ++ [(4, 4)]) ++ [(32, 3)]) ++ [(4, 4)]) ++ [(32, 3)]) ++ [(4, 4)]) ++ [(32, 3)]) ++ [(4, 4)]) ++ [(32, 3)]) ++ [(4, 4)]) ++ [(32, 3)]) ++ [(4, 4)]) ++ [(32, 3)]) ++ [(4, 4)]) ++ [(32, 3)]) ++ [(9, 5)]) ++ [(32, 5)]) ++ [(9, 5)]) ++ [(32, 5)]) ++ [(9, 5)]) ++ [(32, 5)]) ++ [(9, 5)]) ++ [(32, 5)]) ((n + 21, 3, (-1)) :: ((n + 19, 3, (-1)) :: ((n + 17, 3, (-1)) :: ((n + 15, 3, (-1)) :: ((n + 13, 3, (-1)) :: ((n + 11, 3, (-1)) :: ((n + 9, 3, (-1)) :: ((n + 7, 3, (-1)) :: W)))))))) ((n + 1, 3, n + 29) :: (n + 29, 1, n + 30) :: ((n + 1, 2, n + 27) :: (n + 27, 1, n + 28) :: ((n + 1, 1, n + 25) :: (n + 25, 1, n + 26) :: ((n + 1, 0, n + 23) :: (n + 23, 1, n + 24) :: ((n, 7, n + 21) :: (n + 21, 2, n + 22) :: ((n, 6, n + 19) :: (n + 19, 2, n + 20) :: ((n, 5, n + 17) :: (n + 17, 2, n + 18) :: ((n, 4, n + 15) :: (n + 15, 2, n + 16) :: ((n, 3, n + 13) :: (n + 13, 2, n + 14) :: ((n, 2, n + 11) :: (n + 11, 2, n + 12) :: ((n, 1, n + 9) :: (n + 9, 2, n + 10) :: ((n, 0, n + 7) :: (n + 7, 2, n + 8) :: ((a, 4, n + 4) :: ((n + 4, 1, n + 6) :: (n + 4, 0, n + 5) :: ((a, 3, n + 3) :: ((a, 2, n + 2) :: ((a, 1, n + 1) :: ((a, 0, n) :: R)))))))))))))))))) s19 := h19'
  have k19 : kd s19 a = some (1, 11) := x19.kd k18
  have ex19 : Ex n (fun r => r = a ∨ (n ≤ r)) σ s19 := Ex.trans ex18 x19 (by omega) (fun r hr y => by omega)
  have w1_19 : gR s19 a 1 = some (n + 1) := by rw [x19.2 a 1 (by omega) (by omega)]; exact w1_18
  have u1_19 : kd s19 (n + 1) = some (73, 4) := x19.kd u1_18
  have w2_19 : gR s19 a 2 = some (n + 2) := by rw [x19.2 a 2 (by omega) (by omega)]; exact w2_18
  have u2_19 : kd s19 (n + 2) = some (70, 6) := x19.kd u2_18
  obtain ⟨s20, e20, h20', x20⟩ := h_X5 (i := 0) h19 k19 w2_19 u2_19 (by omega) (by omega)
  have h20 : BS L xs fo (n + 33) (((((((((((((((((((((((((((((((((K ++ [(68, 8)]) ++ [(73, 4)]) ++ [(70, 6)]) ++ [(32, 5)]) ++ [(10, 4)]) ++ [(32, 160)]) ++ [(32, 1120)]) ++ [(4, 4)]) ++ [(32, 3)]) ++ [(4, 4)]) ++ [(32, 3)]) ++ [(4, 4)]) ++ [(32, 3)]) ++ [(4, 4)]) ++ [(32, 3)]) ++ [(4, 4)]) ++ [(32, 3)]) ++ [(4, 4)]) ++ [(32, 3)]) ++ [(4, 4)]) ++ [(32, 3)]) ++ [(4, 4)]) ++ [(32, 3)]) ++ [(9, 5)]) ++ [(32, 5)]) ++ [(9, 5)]) ++ [(32, 5)]) ++ [(9, 5)]) ++ [(32, 5)]) ++ [(9, 5)]) ++ [(32, 5)]) ++ [(6, 2)]) ++ [(32, 5)]) ((n + 21, 3, (-1)) :: ((n + 19, 3, (-1)) :: ((n + 17, 3, (-1)) :: ((n + 15, 3, (-1)) :: ((n + 13, 3, (-1)) :: ((n + 11, 3, (-1)) :: ((n + 9, 3, (-1)) :: ((n + 7, 3, (-1)) :: W)))))))) ((n + 2, 0, n + 31) :: (n + 31, 1, n + 32) :: ((n + 1, 3, n + 29) :: (n + 29, 1, n + 30) :: ((n + 1, 2, n + 27) :: (n + 27, 1, n + 28) :: ((n + 1, 1, n + 25) :: (n + 25, 1, n + 26) :: ((n + 1, 0, n + 23) :: (n + 23, 1, n + 24) :: ((n, 7, n + 21) :: (n + 21, 2, n + 22) :: ((n, 6, n + 19) :: (n + 19, 2, n + 20) :: ((n, 5, n + 17) :: (n + 17, 2, n + 18) :: ((n, 4, n + 15) :: (n + 15, 2, n + 16) :: ((n, 3, n + 13) :: (n + 13, 2, n + 14) :: ((n, 2, n + 11) :: (n + 11, 2, n + 12) :: ((n, 1, n + 9) :: (n + 9, 2, n + 10) :: ((n, 0, n + 7) :: (n + 7, 2, n + 8) :: ((a, 4, n + 4) :: ((n + 4, 1, n + 6) :: (n + 4, 0, n + 5) :: ((a, 3, n + 3) :: ((a, 2, n + 2) :: ((a, 1, n + 1) :: ((a, 0, n) :: R))))))))))))))))))) s20 := h20'
  have k20 : kd s20 a = some (1, 11) := x20.kd k19
  have ex20 : Ex n (fun r => r = a ∨ (n ≤ r)) σ s20 := Ex.trans ex19 x20 (by omega) (fun r hr y => by omega)
  have w2_20 : gR s20 a 2 = some (n + 2) := by rw [x20.2 a 2 (by omega) (by omega)]; exact w2_19
  have u2_20 : kd s20 (n + 2) = some (70, 6) := x20.kd u2_19
  obtain ⟨s21, e21, h21', x21⟩ := h_X5 (i := 1) h20 k20 w2_20 u2_20 (by omega) (by omega)
  have h21 : BS L xs fo (n + 35) (((((((((((((((((((((((((((((((((((K ++ [(68, 8)]) ++ [(73, 4)]) ++ [(70, 6)]) ++ [(32, 5)]) ++ [(10, 4)]) ++ [(32, 160)]) ++ [(32, 1120)]) ++ [(4, 4)]) ++ [(32, 3)]) ++ [(4, 4)]) ++ [(32, 3)]) ++ [(4, 4)]) ++ [(32, 3)]) ++ [(4, 4)]) ++ [(32, 3)]) ++ [(4, 4)]) ++ [(32, 3)]) ++ [(4, 4)]) ++ [(32, 3)]) ++ [(4, 4)]) ++ [(32, 3)]) ++ [(4, 4)]) ++ [(32, 3)]) ++ [(9, 5)]) ++ [(32, 5)]) ++ [(9, 5)]) ++ [(32, 5)]) ++ [(9, 5)]) ++ [(32, 5)]) ++ [(9, 5)]) ++ [(32, 5)]) ++ [(6, 2)]) ++ [(32, 5)]) ++ [(6, 2)]) ++ [(32, 5)]) ((n + 21, 3, (-1)) :: ((n + 19, 3, (-1)) :: ((n + 17, 3, (-1)) :: ((n + 15, 3, (-1)) :: ((n + 13, 3, (-1)) :: ((n + 11, 3, (-1)) :: ((n + 9, 3, (-1)) :: ((n + 7, 3, (-1)) :: W)))))))) ((n + 2, 1, n + 33) :: (n + 33, 1, n + 34) :: ((n + 2, 0, n + 31) :: (n + 31, 1, n + 32) :: ((n + 1, 3, n + 29) :: (n + 29, 1, n + 30) :: ((n + 1, 2, n + 27) :: (n + 27, 1, n + 28) :: ((n + 1, 1, n + 25) :: (n + 25, 1, n + 26) :: ((n + 1, 0, n + 23) :: (n + 23, 1, n + 24) :: ((n, 7, n + 21) :: (n + 21, 2, n + 22) :: ((n, 6, n + 19) :: (n + 19, 2, n + 20) :: ((n, 5, n + 17) :: (n + 17, 2, n + 18) :: ((n, 4, n + 15) :: (n + 15, 2, n + 16) :: ((n, 3, n + 13) :: (n + 13, 2, n + 14) :: ((n, 2, n + 11) :: (n + 11, 2, n + 12) :: ((n, 1, n + 9) :: (n + 9, 2, n + 10) :: ((n, 0, n + 7) :: (n + 7, 2, n + 8) :: ((a, 4, n + 4) :: ((n + 4, 1, n + 6) :: (n + 4, 0, n + 5) :: ((a, 3, n + 3) :: ((a, 2, n + 2) :: ((a, 1, n + 1) :: ((a, 0, n) :: R)))))))))))))))))))) s21 := h21'
  have k21 : kd s21 a = some (1, 11) := x21.kd k20
  have ex21 : Ex n (fun r => r = a ∨ (n ≤ r)) σ s21 := Ex.trans ex20 x21 (by omega) (fun r hr y => by omega)
  have w2_21 : gR s21 a 2 = some (n + 2) := by rw [x21.2 a 2 (by omega) (by omega)]; exact w2_20
  have u2_21 : kd s21 (n + 2) = some (70, 6) := x21.kd u2_20
  obtain ⟨s22, e22, h22', x22⟩ := h_X5 (i := 2) h21 k21 w2_21 u2_21 (by omega) (by omega)
  have h22 : BS L xs fo (n + 37) (((((((((((((((((((((((((((((((((((((K ++ [(68, 8)]) ++ [(73, 4)]) ++ [(70, 6)]) ++ [(32, 5)]) ++ [(10, 4)]) ++ [(32, 160)]) ++ [(32, 1120)]) ++ [(4, 4)]) ++ [(32, 3)]) ++ [(4, 4)]) ++ [(32, 3)]) ++ [(4, 4)]) ++ [(32, 3)]) ++ [(4, 4)]) ++ [(32, 3)]) ++ [(4, 4)]) ++ [(32, 3)]) ++ [(4, 4)]) ++ [(32, 3)]) ++ [(4, 4)]) ++ [(32, 3)]) ++ [(4, 4)]) ++ [(32, 3)]) ++ [(9, 5)]) ++ [(32, 5)]) ++ [(9, 5)]) ++ [(32, 5)]) ++ [(9, 5)]) ++ [(32, 5)]) ++ [(9, 5)]) ++ [(32, 5)]) ++ [(6, 2)]) ++ [(32, 5)]) ++ [(6, 2)]) ++ [(32, 5)]) ++ [(6, 2)]) ++ [(32, 5)]) ((n + 21, 3, (-1)) :: ((n + 19, 3, (-1)) :: ((n + 17, 3, (-1)) :: ((n + 15, 3, (-1)) :: ((n + 13, 3, (-1)) :: ((n + 11, 3, (-1)) :: ((n + 9, 3, (-1)) :: ((n + 7, 3, (-1)) :: W)))))))) ((n + 2, 2, n + 35) :: (n + 35, 1, n + 36) :: ((n + 2, 1, n + 33) :: (n + 33, 1, n + 34) :: ((n + 2, 0, n + 31) :: (n + 31, 1, n + 32) :: ((n + 1, 3, n + 29) :: (n + 29, 1, n + 30) :: ((n + 1, 2, n + 27) :: (n + 27, 1, n + 28) :: ((n + 1, 1, n + 25) :: (n + 25, 1, n + 26) :: ((n + 1, 0, n + 23) :: (n + 23, 1, n + 24) :: ((n, 7, n + 21) :: (n + 21, 2, n + 22) :: ((n, 6, n + 19) :: (n + 19, 2, n + 20) :: ((n, 5, n + 17) :: (n + 17, 2, n + 18) :: ((n, 4, n + 15) :: (n + 15, 2, n + 16) :: ((n, 3, n + 13) :: (n + 13, 2, n + 14) :: ((n, 2, n + 11) :: (n + 11, 2, n + 12) :: ((n, 1, n + 9) :: (n + 9, 2, n + 10) :: ((n, 0, n + 7) :: (n + 7, 2, n + 8) :: ((a, 4, n + 4) :: ((n + 4, 1, n + 6) :: (n + 4, 0, n + 5) :: ((a, 3, n + 3) :: ((a, 2, n + 2) :: ((a, 1, n + 1) :: ((a, 0, n) :: R))))))))))))))))))))) s22 := h22'
  have k22 : kd s22 a = some (1, 11) := x22.kd k21
  have ex22 : Ex n (fun r => r = a ∨ (n ≤ r)) σ s22 := Ex.trans ex21 x22 (by omega) (fun r hr y => by omega)
  have w2_22 : gR s22 a 2 = some (n + 2) := by rw [x22.2 a 2 (by omega) (by omega)]; exact w2_21
  have u2_22 : kd s22 (n + 2) = some (70, 6) := x22.kd u2_21
  obtain ⟨s23, e23, h23', x23⟩ := h_X5 (i := 3) h22 k22 w2_22 u2_22 (by omega) (by omega)
  have h23 : BS L xs fo (n + 39) (((((((((((((((((((((((((((((((((((((((K ++ [(68, 8)]) ++ [(73, 4)]) ++ [(70, 6)]) ++ [(32, 5)]) ++ [(10, 4)]) ++ [(32, 160)]) ++ [(32, 1120)]) ++ [(4, 4)]) ++ [(32, 3)]) ++ [(4, 4)]) ++ [(32, 3)]) ++ [(4, 4)]) ++ [(32, 3)]) ++ [(4, 4)]) ++ [(32, 3)]) ++ [(4, 4)]) ++ [(32, 3)]) ++ [(4, 4)]) ++ [(32, 3)]) ++ [(4, 4)]) ++ [(32, 3)]) ++ [(4, 4)]) ++ [(32, 3)]) ++ [(9, 5)]) ++ [(32, 5)]) ++ [(9, 5)]) ++ [(32, 5)]) ++ [(9, 5)]) ++ [(32, 5)]) ++ [(9, 5)]) ++ [(32, 5)]) ++ [(6, 2)]) ++ [(32, 5)]) ++ [(6, 2)]) ++ [(32, 5)]) ++ [(6, 2)]) ++ [(32, 5)]) ++ [(6, 2)]) ++ [(32, 5)]) ((n + 21, 3, (-1)) :: ((n + 19, 3, (-1)) :: ((n + 17, 3, (-1)) :: ((n + 15, 3, (-1)) :: ((n + 13, 3, (-1)) :: ((n + 11, 3, (-1)) :: ((n + 9, 3, (-1)) :: ((n + 7, 3, (-1)) :: W)))))))) ((n + 2, 3, n + 37) :: (n + 37, 1, n + 38) :: ((n + 2, 2, n + 35) :: (n + 35, 1, n + 36) :: ((n + 2, 1, n + 33) :: (n + 33, 1, n + 34) :: ((n + 2, 0, n + 31) :: (n + 31, 1, n + 32) :: ((n + 1, 3, n + 29) :: (n + 29, 1, n + 30) :: ((n + 1, 2, n + 27) :: (n + 27, 1, n + 28) :: ((n + 1, 1, n + 25) :: (n + 25, 1, n + 26) :: ((n + 1, 0, n + 23) :: (n + 23, 1, n + 24) :: ((n, 7, n + 21) :: (n + 21, 2, n + 22) :: ((n, 6, n + 19) :: (n + 19, 2, n + 20) :: ((n, 5, n + 17) :: (n + 17, 2, n + 18) :: ((n, 4, n + 15) :: (n + 15, 2, n + 16) :: ((n, 3, n + 13) :: (n + 13, 2, n + 14) :: ((n, 2, n + 11) :: (n + 11, 2, n + 12) :: ((n, 1, n + 9) :: (n + 9, 2, n + 10) :: ((n, 0, n + 7) :: (n + 7, 2, n + 8) :: ((a, 4, n + 4) :: ((n + 4, 1, n + 6) :: (n + 4, 0, n + 5) :: ((a, 3, n + 3) :: ((a, 2, n + 2) :: ((a, 1, n + 1) :: ((a, 0, n) :: R)))))))))))))))))))))) s23 := h23'
  have k23 : kd s23 a = some (1, 11) := x23.kd k22
  have ex23 : Ex n (fun r => r = a ∨ (n ≤ r)) σ s23 := Ex.trans ex22 x23 (by omega) (fun r hr y => by omega)
  have w2_23 : gR s23 a 2 = some (n + 2) := by rw [x23.2 a 2 (by omega) (by omega)]; exact w2_22
  have u2_23 : kd s23 (n + 2) = some (70, 6) := x23.kd u2_22
  obtain ⟨s24, e24, h24', x24⟩ := h_X5 (i := 4) h23 k23 w2_23 u2_23 (by omega) (by omega)
  have h24 : BS L xs fo (n + 41) (((((((((((((((((((((((((((((((((((((((((K ++ [(68, 8)]) ++ [(73, 4)]) ++ [(70, 6)]) ++ [(32, 5)]) ++ [(10, 4)]) ++ [(32, 160)]) ++ [(32, 1120)]) ++ [(4, 4)]) ++ [(32, 3)]) ++ [(4, 4)]) ++ [(32, 3)]) ++ [(4, 4)]) ++ [(32, 3)]) ++ [(4, 4)]) ++ [(32, 3)]) ++ [(4, 4)]) ++ [(32, 3)]) ++ [(4, 4)]) ++ [(32, 3)]) ++ [(4, 4)]) ++ [(32, 3)]) ++ [(4, 4)]) ++ [(32, 3)]) ++ [(9, 5)]) ++ [(32, 5)]) ++ [(9, 5)]) ++ [(32, 5)]) ++ [(9, 5)]) ++ [(32, 5)]) ++ [(9, 5)]) ++ [(32, 5)]) ++ [(6, 2)]) ++ [(32, 5)]) ++ [(6, 2)]) ++ [(32, 5)]) ++ [(6, 2)]) ++ [(32, 5)]) ++ [(6, 2)]) ++ [(32, 5)]) ++ [(6, 2)]) ++ [(32, 5)]) ((n + 21, 3, (-1)) :: ((n + 19, 3, (-1)) :: ((n + 17, 3, (-1)) :: ((n + 15, 3, (-1)) :: ((n + 13, 3, (-1)) :: ((n + 11, 3, (-1)) :: ((n + 9, 3, (-1)) :: ((n + 7, 3, (-1)) :: W)))))))) ((n + 2, 4, n + 39) :: (n + 39, 1, n + 40) :: ((n + 2, 3, n + 37) :: (n + 37, 1, n + 38) :: ((n + 2, 2, n + 35) :: (n + 35, 1, n + 36) :: ((n + 2, 1, n + 33) :: (n + 33, 1, n + 34) :: ((n + 2, 0, n + 31) :: (n + 31, 1, n + 32) :: ((n + 1, 3, n + 29) :: (n + 29, 1, n + 30) :: ((n + 1, 2, n + 27) :: (n + 27, 1, n + 28) :: ((n + 1, 1, n + 25) :: (n + 25, 1, n + 26) :: ((n + 1, 0, n + 23) :: (n + 23, 1, n + 24) :: ((n, 7, n + 21) :: (n + 21, 2, n + 22) :: ((n, 6, n + 19) :: (n + 19, 2, n + 20) :: ((n, 5, n + 17) :: (n + 17, 2, n + 18) :: ((n, 4, n + 15) :: (n + 15, 2, n + 16) :: ((n, 3, n + 13) :: (n + 13, 2, n + 14) :: ((n, 2, n + 11) :: (n + 11, 2, n + 12) :: ((n, 1, n + 9) :: (n + 9, 2, n + 10) :: ((n, 0, n + 7) :: (n + 7, 2, n + 8) :: ((a, 4, n + 4) :: ((n + 4, 1, n + 6) :: (n + 4, 0, n + 5) :: ((a, 3, n + 3) :: ((a, 2, n + 2) :: ((a, 1, n + 1) :: ((a, 0, n) :: R))))))))))))))))))))))) s24 := h24'
  have k24 : kd s24 a = some (1, 11) := x24.kd k23
  have ex24 : Ex n (fun r => r = a ∨ (n ≤ r)) σ s24 := Ex.trans ex23 x24 (by omega) (fun r hr y => by omega)
  have w2_24 : gR s24 a 2 = some (n + 2) := by rw [x24.2 a 2 (by omega) (by omega)]; exact w2_23
  have u2_24 : kd s24 (n + 2) = some (70, 6) := x24.kd u2_23
  obtain ⟨s25, e25, h25', x25⟩ := h_X5 (i := 5) h24 k24 w2_24 u2_24 (by omega) (by omega)
  have h25 : BS L xs fo (n + 43) (((((((((((((((((((((((((((((((((((((((((((K ++ [(68, 8)]) ++ [(73, 4)]) ++ [(70, 6)]) ++ [(32, 5)]) ++ [(10, 4)]) ++ [(32, 160)]) ++ [(32, 1120)]) ++ [(4, 4)]) ++ [(32, 3)]) ++ [(4, 4)]) ++ [(32, 3)]) ++ [(4, 4)]) ++ [(32, 3)]) ++ [(4, 4)]) ++ [(32, 3)]) ++ [(4, 4)]) ++ [(32, 3)]) ++ [(4, 4)]) ++ [(32, 3)]) ++ [(4, 4)]) ++ [(32, 3)]) ++ [(4, 4)]) ++ [(32, 3)]) ++ [(9, 5)]) ++ [(32, 5)]) ++ [(9, 5)]) ++ [(32, 5)]) ++ [(9, 5)]) ++ [(32, 5)]) ++ [(9, 5)]) ++ [(32, 5)]) ++ [(6, 2)]) ++ [(32, 5)]) ++ [(6, 2)]) ++ [(32, 5)]) ++ [(6, 2)]) ++ [(32, 5)]) ++ [(6, 2)]) ++ [(32, 5)]) ++ [(6, 2)]) ++ [(32, 5)]) ++ [(6, 2)]) ++ [(32, 5)]) ((n + 21, 3, (-1)) :: ((n + 19, 3, (-1)) :: ((n + 17, 3, (-1)) :: ((n + 15, 3, (-1)) :: ((n + 13, 3, (-1)) :: ((n + 11, 3, (-1)) :: ((n + 9, 3, (-1)) :: ((n + 7, 3, (-1)) :: W)))))))) ((n + 2, 5, n + 41) :: (n + 41, 1, n + 42) :: ((n + 2, 4, n + 39) :: (n + 39, 1, n + 40) :: ((n + 2, 3, n + 37) :: (n + 37, 1, n + 38) :: ((n + 2, 2, n + 35) :: (n + 35, 1, n + 36) :: ((n + 2, 1, n + 33) :: (n + 33, 1, n + 34) :: ((n + 2, 0, n + 31) :: (n + 31, 1, n + 32) :: ((n + 1, 3, n + 29) :: (n + 29, 1, n + 30) :: ((n + 1, 2, n + 27) :: (n + 27, 1, n + 28) :: ((n + 1, 1, n + 25) :: (n + 25, 1, n + 26) :: ((n + 1, 0, n + 23) :: (n + 23, 1, n + 24) :: ((n, 7, n + 21) :: (n + 21, 2, n + 22) :: ((n, 6, n + 19) :: (n + 19, 2, n + 20) :: ((n, 5, n + 17) :: (n + 17, 2, n + 18) :: ((n, 4, n + 15) :: (n + 15, 2, n + 16) :: ((n, 3, n + 13) :: (n + 13, 2, n + 14) :: ((n, 2, n + 11) :: (n + 11, 2, n + 12) :: ((n, 1, n + 9) :: (n + 9, 2, n + 10) :: ((n, 0, n + 7) :: (n + 7, 2, n + 8) :: ((a, 4, n + 4) :: ((n + 4, 1, n + 6) :: (n + 4, 0, n + 5) :: ((a, 3, n + 3) :: ((a, 2, n + 2) :: ((a, 1, n + 1) :: ((a, 0, n) :: R)))))))))))))))))))))))) s25 := h25'
  have k25 : kd s25 a = some (1, 11) := x25.kd k24
  have ex25 : Ex n (fun r => r = a ∨ (n ≤ r)) σ s25 := Ex.trans ex24 x25 (by omega) (fun r hr y => by omega)
  have w2_25 : gR s25 a 2 = some (n + 2) := by rw [x25.2 a 2 (by omega) (by omega)]; exact w2_24
  have u2_25 : kd s25 (n + 2) = some (70, 6) := x25.kd u2_24
  refine ⟨s25, ?_, h25, Ex.trans (Ex.refl n _ σ) ex25 (Nat.le_refl _) (fun r hr y => by omega)⟩
  rw [q_X0_init, zln_e, zlt_e, z1, show ix (8 : Int32) = 8 from rfl, tg_kd k1, if_pos rfl, zlt_e, zln_e, zlt_e, z2, show ix (4 : Int32) = 4 from rfl, tg_kd k2, if_pos rfl, zlt_e, zln_e, zlt_e, z3, show ix (6 : Int32) = 6 from rfl, tg_kd k3, if_pos rfl, zlt_e, zln_e, zlt_e, z4, show ix (5 : Int32) = 5 from rfl, tg_kd k4, if_pos rfl, zlt_e, ← q4]
  rw [q_X0_init_18, zln_e, zlt_e, z5, e6, zbV_e, tg_kd k6, if_pos rfl, zlt_e, ← q7]
  refine Eq.trans e8 ?_
  refine Eq.trans e9 ?_
  refine Eq.trans e10 ?_
  refine Eq.trans e11 ?_
  refine Eq.trans e12 ?_
  refine Eq.trans e13 ?_
  refine Eq.trans e14 ?_
  refine Eq.trans e15 ?_
  rw [q_X0_init_25, if_pos (show (8 : Int32) ≤ nI (7 + 1) by decide)]
  refine Eq.trans e16 ?_
  refine Eq.trans e17 ?_
  refine Eq.trans e18 ?_
  refine Eq.trans e19 ?_
  rw [q_X0_init_39, if_pos (show (4 : Int32) ≤ nI (3 + 1) by decide)]
  refine Eq.trans e20 ?_
  refine Eq.trans e21 ?_
  refine Eq.trans e22 ?_
  refine Eq.trans e23 ?_
  refine Eq.trans e24 ?_
  refine Eq.trans e25 ?_
  rw [q_X0_init_53, if_pos (show (6 : Int32) ≤ nI (5 + 1) by decide)]
end
