/-! the small constructors; laid by wip/whole/gen/kini.py -/
section
variable {σ : zS} {L : Nat} {xs : Nat → Int32} {fo : Option Nat} {n a r0 : Nat} {K : List (Nat × Nat)} {W : List (Nat × Nat × Int32)} {R : List (Nat × Nat × Nat)}
theorem b_X1 (h : BS L xs fo n K W R σ) (hk : kd σ a = some (2, 1)) (ha : 6 ≤ a) : ∃ σ', zM 6 [.ref a, .ref r0] σ = some (none, σ') ∧ BS L xs fo (n) K W ((a, 0, r0) :: R) σ' ∧ Ex n (fun r => r = a) σ σ' := by
  have al : a < n := by rw [← h.sz']; exact kd_ltA hk
  have g1 : BS L xs fo (n) K W ((a, 0, r0) :: R) (sR σ a 0 (some r0)) := h.wR ⟨ha, by omega⟩ 0 r0
  have l1 : kd (sR σ a 0 (some r0)) a = some (2, 1) := hk
  refine ⟨(sR σ a 0 (some r0)), ?_, g1, ExR (n) (E := fun r => r = a) rfl 0 (some r0)⟩
  rw [q_X1_init, tg_kd hk, if_pos rfl, zlt_e]
theorem b_X2 (h : BS L xs fo n K W R σ) (hk : kd σ a = some (3, 2)) (ha : 6 ≤ a) : ∃ σ', zM 16 [.ref a] σ = some (none, σ') ∧ BS L xs fo (n + 1) (K ++ [(33, 290)]) W ((a, 0, n) :: R) σ' ∧ Ex n (fun r => r = a) σ σ' := by
  have al : a < n := by rw [← h.sz']; exact kd_ltA hk
  have z1 : Jvm.Pilot.@@N@@.sz σ = n := h.sz
  have h1 : BS L xs fo (n + 1) (K ++ [(33, 290)]) W R (sN σ 33 290) := h.wN 33 290
  have k1 : kd (sN σ 33 290) a = some (3, 2) := kdN hk
  have g1 : BS L xs fo (n + 1) (K ++ [(33, 290)]) W ((a, 0, n) :: R) (sR (sN σ 33 290) a 0 (some (n))) := h1.wR ⟨ha, by omega⟩ 0 (n)
  have l1 : kd (sR (sN σ 33 290) a 0 (some (n))) a = some (3, 2) := k1
  refine ⟨(sR (sN σ 33 290) a 0 (some (n))), ?_, g1, Ex.trans (ExN h (fun r => r = a) 33 290) (ExR (n + 1) (E := fun r => r = a) rfl 0 (some (n))) (by omega) (fun r _ y => y)⟩
  rw [q_X2_init, zln_e, zlt_e, z1, show ix (290 : Int32) = 290 from rfl, tg_kd k1, if_pos rfl, zlt_e]
theorem b_X3 (h : BS L xs fo n K W R σ) (hk : kd σ a = some (4, 4)) (ha : 6 ≤ a) : ∃ σ', zM 30 [.ref a] σ = some (none, σ') ∧ BS L xs fo (n + 1) (K ++ [(32, 3)]) ((a, 3, (-1)) :: W) ((a, 2, n) :: R) σ' ∧ Ex n (fun r => r = a) σ σ' := by
  have al : a < n := by rw [← h.sz']; exact kd_ltA hk
  have z1 : Jvm.Pilot.@@N@@.sz σ = n := h.sz
  have h1 : BS L xs fo (n + 1) (K ++ [(32, 3)]) W R (sN σ 32 3) := h.wN 32 3
  have k1 : kd (sN σ 32 3) a = some (4, 4) := kdN hk
  have g1 : BS L xs fo (n + 1) (K ++ [(32, 3)]) W ((a, 2, n) :: R) (sR (sN σ 32 3) a 2 (some (n))) := h1.wR ⟨ha, by omega⟩ 2 (n)
  have l1 : kd (sR (sN σ 32 3) a 2 (some (n))) a = some (4, 4) := k1
  have g2 : BS L xs fo (n + 1) (K ++ [(32, 3)]) ((a, 3, (-1)) :: W) ((a, 2, n) :: R) (sI (sR (sN σ 32 3) a 2 (some (n))) a 3 (-1)) := g1.wI ⟨ha, by omega⟩ 3 (-1)
  have l2 : kd (sI (sR (sN σ 32 3) a 2 (some (n))) a 3 (-1)) a = some (4, 4) := l1
  refine ⟨(sI (sR (sN σ 32 3) a 2 (some (n))) a 3 (-1)), ?_, g2, Ex.trans (Ex.trans (ExN h (fun r => r = a) 32 3) (ExR (n + 1) (E := fun r => r = a) rfl 2 (some (n))) (by omega) (fun r _ y => y)) (ExI (n + 1) (fun r => r = a) a 3 (-1)) (by omega) (fun r _ y => y)⟩
  rw [q_X3_init, zln_e, zlt_e, z1, show ix (3 : Int32) = 3 from rfl, tg_kd k1, if_pos rfl, zlt_e, tg_kd l1, if_pos rfl, zlt_e]
theorem b_X4 (h : BS L xs fo n K W R σ) (hk : kd σ a = some (5, 9)) (ha : 6 ≤ a) : ∃ σ', zM 32 [.ref a] σ = some (none, σ') ∧ BS L xs fo (n + 2) ((K ++ [(32, 5)]) ++ [(32, 40)]) ((a, 7, (-1)) :: ((a, 5, (-1)) :: W)) ((a, 8, n + 1) :: ((a, 2, n) :: R)) σ' ∧ Ex n (fun r => r = a) σ σ' := by
  have al : a < n := by rw [← h.sz']; exact kd_ltA hk
  have z1 : Jvm.Pilot.@@N@@.sz σ = n := h.sz
  have h1 : BS L xs fo (n + 1) (K ++ [(32, 5)]) W R (sN σ 32 5) := h.wN 32 5
  have k1 : kd (sN σ 32 5) a = some (5, 9) := kdN hk
  have g1 : BS L xs fo (n + 1) (K ++ [(32, 5)]) W ((a, 2, n) :: R) (sR (sN σ 32 5) a 2 (some (n))) := h1.wR ⟨ha, by omega⟩ 2 (n)
  have l1 : kd (sR (sN σ 32 5) a 2 (some (n))) a = some (5, 9) := k1
  have g2 : BS L xs fo (n + 1) (K ++ [(32, 5)]) ((a, 5, (-1)) :: W) ((a, 2, n) :: R) (sI (sR (sN σ 32 5) a 2 (some (n))) a 5 (-1)) := g1.wI ⟨ha, by omega⟩ 5 (-1)
  have l2 : kd (sI (sR (sN σ 32 5) a 2 (some (n))) a 5 (-1)) a = some (5, 9) := l1
  have g3 : BS L xs fo (n + 1) (K ++ [(32, 5)]) ((a, 7, (-1)) :: ((a, 5, (-1)) :: W)) ((a, 2, n) :: R) (sI (sI (sR (sN σ 32 5) a 2 (some (n))) a 5 (-1)) a 7 (-1)) := g2.wI ⟨ha, by omega⟩ 7 (-1)
  have l3 : kd (sI (sI (sR (sN σ 32 5) a 2 (some (n))) a 5 (-1)) a 7 (-1)) a = some (5, 9) := l2
  have z4 : Jvm.Pilot.@@N@@.sz (sI (sI (sR (sN σ 32 5) a 2 (some (n))) a 5 (-1)) a 7 (-1)) = n + 1 := g3.sz
  have h4 : BS L xs fo (n + 2) ((K ++ [(32, 5)]) ++ [(32, 40)]) ((a, 7, (-1)) :: ((a, 5, (-1)) :: W)) ((a, 2, n) :: R) (sN (sI (sI (sR (sN σ 32 5) a 2 (some (n))) a 5 (-1)) a 7 (-1)) 32 40) := g3.wN 32 40
  have k4 : kd (sN (sI (sI (sR (sN σ 32 5) a 2 (some (n))) a 5 (-1)) a 7 (-1)) 32 40) a = some (5, 9) := kdN l3
  have g4 : BS L xs fo (n + 2) ((K ++ [(32, 5)]) ++ [(32, 40)]) ((a, 7, (-1)) :: ((a, 5, (-1)) :: W)) ((a, 8, n + 1) :: ((a, 2, n) :: R)) (sR (sN (sI (sI (sR (sN σ 32 5) a 2 (some (n))) a 5 (-1)) a 7 (-1)) 32 40) a 8 (some (n + 1))) := h4.wR ⟨ha, by omega⟩ 8 (n + 1)
  have l4 : kd (sR (sN (sI (sI (sR (sN σ 32 5) a 2 (some (n))) a 5 (-1)) a 7 (-1)) 32 40) a 8 (some (n + 1))) a = some (5, 9) := k4
  refine ⟨(sR (sN (sI (sI (sR (sN σ 32 5) a 2 (some (n))) a 5 (-1)) a 7 (-1)) 32 40) a 8 (some (n + 1))), ?_, g4, Ex.trans (Ex.trans (Ex.trans (Ex.trans (Ex.trans (ExN h (fun r => r = a) 32 5) (ExR (n + 1) (E := fun r => r = a) rfl 2 (some (n))) (by omega) (fun r _ y => y)) (ExI (n + 1) (fun r => r = a) a 5 (-1)) (by omega) (fun r _ y => y)) (ExI (n + 1) (fun r => r = a) a 7 (-1)) (by omega) (fun r _ y => y)) (ExN g3 (fun r => r = a) 32 40) (by omega) (fun r _ y => y)) (ExR (n + 2) (E := fun r => r = a) rfl 8 (some (n + 1))) (by omega) (fun r _ y => y)⟩
  rw [q_X4_init, zln_e, zlt_e, z1, show ix (5 : Int32) = 5 from rfl, tg_kd k1, if_pos rfl, zlt_e, tg_kd l1, if_pos rfl, zlt_e, tg_kd l2, if_pos rfl, zlt_e, zln_e, zlt_e, z4, show ix (40 : Int32) = 40 from rfl, tg_kd k4, if_pos rfl, zlt_e]
theorem b_X5 (h : BS L xs fo n K W R σ) (hk : kd σ a = some (6, 2)) (ha : 6 ≤ a) : ∃ σ', zM 43 [.ref a] σ = some (none, σ') ∧ BS L xs fo (n + 1) (K ++ [(32, 5)]) W ((a, 1, n) :: R) σ' ∧ Ex n (fun r => r = a) σ σ' := by
  have al : a < n := by rw [← h.sz']; exact kd_ltA hk
  have z1 : Jvm.Pilot.@@N@@.sz σ = n := h.sz
  have h1 : BS L xs fo (n + 1) (K ++ [(32, 5)]) W R (sN σ 32 5) := h.wN 32 5
  have k1 : kd (sN σ 32 5) a = some (6, 2) := kdN hk
  have g1 : BS L xs fo (n + 1) (K ++ [(32, 5)]) W ((a, 1, n) :: R) (sR (sN σ 32 5) a 1 (some (n))) := h1.wR ⟨ha, by omega⟩ 1 (n)
  have l1 : kd (sR (sN σ 32 5) a 1 (some (n))) a = some (6, 2) := k1
  refine ⟨(sR (sN σ 32 5) a 1 (some (n))), ?_, g1, Ex.trans (ExN h (fun r => r = a) 32 5) (ExR (n + 1) (E := fun r => r = a) rfl 1 (some (n))) (by omega) (fun r _ y => y)⟩
  rw [q_X5_init, zln_e, zlt_e, z1, show ix (5 : Int32) = 5 from rfl, tg_kd k1, if_pos rfl, zlt_e]
theorem b_X6 (h : BS L xs fo n K W R σ) (hk : kd σ a = some (7, 6)) (ha : 6 ≤ a) : ∃ σ', zM 44 [.ref a, .ref r0] σ = some (none, σ') ∧ BS L xs fo (n + 3) (((K ++ [(80, 3)]) ++ [(32, 1600)]) ++ [(32, 64)]) W ((a, 0, r0) :: ((a, 4, n + 2) :: ((a, 2, n + 1) :: ((a, 1, n) :: R)))) σ' ∧ Ex n (fun r => r = a) σ σ' := by
  have al : a < n := by rw [← h.sz']; exact kd_ltA hk
  have z1 : Jvm.Pilot.@@N@@.sz σ = n := h.sz
  have h1 : BS L xs fo (n + 1) (K ++ [(80, 3)]) W R (sN σ 80 3) := h.wN 80 3
  have k1 : kd (sN σ 80 3) a = some (7, 6) := kdN hk
  have g1 : BS L xs fo (n + 1) (K ++ [(80, 3)]) W ((a, 1, n) :: R) (sR (sN σ 80 3) a 1 (some (n))) := h1.wR ⟨ha, by omega⟩ 1 (n)
  have l1 : kd (sR (sN σ 80 3) a 1 (some (n))) a = some (7, 6) := k1
  have z2 : Jvm.Pilot.@@N@@.sz (sR (sN σ 80 3) a 1 (some (n))) = n + 1 := g1.sz
  have h2 : BS L xs fo (n + 2) ((K ++ [(80, 3)]) ++ [(32, 1600)]) W ((a, 1, n) :: R) (sN (sR (sN σ 80 3) a 1 (some (n))) 32 1600) := g1.wN 32 1600
  have k2 : kd (sN (sR (sN σ 80 3) a 1 (some (n))) 32 1600) a = some (7, 6) := kdN l1
  have g2 : BS L xs fo (n + 2) ((K ++ [(80, 3)]) ++ [(32, 1600)]) W ((a, 2, n + 1) :: ((a, 1, n) :: R)) (sR (sN (sR (sN σ 80 3) a 1 (some (n))) 32 1600) a 2 (some (n + 1))) := h2.wR ⟨ha, by omega⟩ 2 (n + 1)
  have l2 : kd (sR (sN (sR (sN σ 80 3) a 1 (some (n))) 32 1600) a 2 (some (n + 1))) a = some (7, 6) := k2
  have z3 : Jvm.Pilot.@@N@@.sz (sR (sN (sR (sN σ 80 3) a 1 (some (n))) 32 1600) a 2 (some (n + 1))) = n + 2 := g2.sz
  have h3 : BS L xs fo (n + 3) (((K ++ [(80, 3)]) ++ [(32, 1600)]) ++ [(32, 64)]) W ((a, 2, n + 1) :: ((a, 1, n) :: R)) (sN (sR (sN (sR (sN σ 80 3) a 1 (some (n))) 32 1600) a 2 (some (n + 1))) 32 64) := g2.wN 32 64
  have k3 : kd (sN (sR (sN (sR (sN σ 80 3) a 1 (some (n))) 32 1600) a 2 (some (n + 1))) 32 64) a = some (7, 6) := kdN l2
  have g3 : BS L xs fo (n + 3) (((K ++ [(80, 3)]) ++ [(32, 1600)]) ++ [(32, 64)]) W ((a, 4, n + 2) :: ((a, 2, n + 1) :: ((a, 1, n) :: R))) (sR (sN (sR (sN (sR (sN σ 80 3) a 1 (some (n))) 32 1600) a 2 (some (n + 1))) 32 64) a 4 (some (n + 2))) := h3.wR ⟨ha, by omega⟩ 4 (n + 2)
  have l3 : kd (sR (sN (sR (sN (sR (sN σ 80 3) a 1 (some (n))) 32 1600) a 2 (some (n + 1))) 32 64) a 4 (some (n + 2))) a = some (7, 6) := k3
  have g4 : BS L xs fo (n + 3) (((K ++ [(80, 3)]) ++ [(32, 1600)]) ++ [(32, 64)]) W ((a, 0, r0) :: ((a, 4, n + 2) :: ((a, 2, n + 1) :: ((a, 1, n) :: R)))) (sR (sR (sN (sR (sN (sR (sN σ 80 3) a 1 (some (n))) 32 1600) a 2 (some (n + 1))) 32 64) a 4 (some (n + 2))) a 0 (some r0)) := g3.wR ⟨ha, by omega⟩ 0 r0
  have l4 : kd (sR (sR (sN (sR (sN (sR (sN σ 80 3) a 1 (some (n))) 32 1600) a 2 (some (n + 1))) 32 64) a 4 (some (n + 2))) a 0 (some r0)) a = some (7, 6) := l3
  refine ⟨(sR (sR (sN (sR (sN (sR (sN σ 80 3) a 1 (some (n))) 32 1600) a 2 (some (n + 1))) 32 64) a 4 (some (n + 2))) a 0 (some r0)), ?_, g4, Ex.trans (Ex.trans (Ex.trans (Ex.trans (Ex.trans (Ex.trans (ExN h (fun r => r = a) 80 3) (ExR (n + 1) (E := fun r => r = a) rfl 1 (some (n))) (by omega) (fun r _ y => y)) (ExN g1 (fun r => r = a) 32 1600) (by omega) (fun r _ y => y)) (ExR (n + 2) (E := fun r => r = a) rfl 2 (some (n + 1))) (by omega) (fun r _ y => y)) (ExN g2 (fun r => r = a) 32 64) (by omega) (fun r _ y => y)) (ExR (n + 3) (E := fun r => r = a) rfl 4 (some (n + 2))) (by omega) (fun r _ y => y)) (ExR (n + 3) (E := fun r => r = a) rfl 0 (some r0)) (by omega) (fun r _ y => y)⟩
  rw [q_X6_init, zln_e, zlt_e, z1, show ix (3 : Int32) = 3 from rfl, tg_kd k1, if_pos rfl, zlt_e, zln_e, zlt_e, z2, show ix (1600 : Int32) = 1600 from rfl, tg_kd k2, if_pos rfl, zlt_e, zln_e, zlt_e, z3, show ix (64 : Int32) = 64 from rfl, tg_kd k3, if_pos rfl, zlt_e, tg_kd l3, if_pos rfl, zlt_e]
theorem b_X7 (h : BS L xs fo n K W R σ) (hk : kd σ a = some (8, 5)) (ha : 6 ≤ a) : ∃ σ', zM 65 [.ref a] σ = some (none, σ') ∧ BS L xs fo (n + 4) ((((K ++ [(36, 5)]) ++ [(36, 3)]) ++ [(36, 7)]) ++ [(32, 5)]) W ((a, 3, n + 3) :: ((a, 2, n + 2) :: ((a, 1, n + 1) :: ((a, 0, n) :: R)))) σ' ∧ Ex n (fun r => r = a) σ σ' := by
  have al : a < n := by rw [← h.sz']; exact kd_ltA hk
  have z1 : Jvm.Pilot.@@N@@.sz σ = n := h.sz
  have h1 : BS L xs fo (n + 1) (K ++ [(36, 5)]) W R (sN σ 36 5) := h.wN 36 5
  have k1 : kd (sN σ 36 5) a = some (8, 5) := kdN hk
  have g1 : BS L xs fo (n + 1) (K ++ [(36, 5)]) W ((a, 0, n) :: R) (sR (sN σ 36 5) a 0 (some (n))) := h1.wR ⟨ha, by omega⟩ 0 (n)
  have l1 : kd (sR (sN σ 36 5) a 0 (some (n))) a = some (8, 5) := k1
  have z2 : Jvm.Pilot.@@N@@.sz (sR (sN σ 36 5) a 0 (some (n))) = n + 1 := g1.sz
  have h2 : BS L xs fo (n + 2) ((K ++ [(36, 5)]) ++ [(36, 3)]) W ((a, 0, n) :: R) (sN (sR (sN σ 36 5) a 0 (some (n))) 36 3) := g1.wN 36 3
  have k2 : kd (sN (sR (sN σ 36 5) a 0 (some (n))) 36 3) a = some (8, 5) := kdN l1
  have g2 : BS L xs fo (n + 2) ((K ++ [(36, 5)]) ++ [(36, 3)]) W ((a, 1, n + 1) :: ((a, 0, n) :: R)) (sR (sN (sR (sN σ 36 5) a 0 (some (n))) 36 3) a 1 (some (n + 1))) := h2.wR ⟨ha, by omega⟩ 1 (n + 1)
  have l2 : kd (sR (sN (sR (sN σ 36 5) a 0 (some (n))) 36 3) a 1 (some (n + 1))) a = some (8, 5) := k2
  have z3 : Jvm.Pilot.@@N@@.sz (sR (sN (sR (sN σ 36 5) a 0 (some (n))) 36 3) a 1 (some (n + 1))) = n + 2 := g2.sz
  have h3 : BS L xs fo (n + 3) (((K ++ [(36, 5)]) ++ [(36, 3)]) ++ [(36, 7)]) W ((a, 1, n + 1) :: ((a, 0, n) :: R)) (sN (sR (sN (sR (sN σ 36 5) a 0 (some (n))) 36 3) a 1 (some (n + 1))) 36 7) := g2.wN 36 7
  have k3 : kd (sN (sR (sN (sR (sN σ 36 5) a 0 (some (n))) 36 3) a 1 (some (n + 1))) 36 7) a = some (8, 5) := kdN l2
  have g3 : BS L xs fo (n + 3) (((K ++ [(36, 5)]) ++ [(36, 3)]) ++ [(36, 7)]) W ((a, 2, n + 2) :: ((a, 1, n + 1) :: ((a, 0, n) :: R))) (sR (sN (sR (sN (sR (sN σ 36 5) a 0 (some (n))) 36 3) a 1 (some (n + 1))) 36 7) a 2 (some (n + 2))) := h3.wR ⟨ha, by omega⟩ 2 (n + 2)
  have l3 : kd (sR (sN (sR (sN (sR (sN σ 36 5) a 0 (some (n))) 36 3) a 1 (some (n + 1))) 36 7) a 2 (some (n + 2))) a = some (8, 5) := k3
  have z4 : Jvm.Pilot.@@N@@.sz (sR (sN (sR (sN (sR (sN σ 36 5) a 0 (some (n))) 36 3) a 1 (some (n + 1))) 36 7) a 2 (some (n + 2))) = n + 3 := g3.sz
  have h4 : BS L xs fo (n + 4) ((((K ++ [(36, 5)]) ++ [(36, 3)]) ++ [(36, 7)]) ++ [(32, 5)]) W ((a, 2, n + 2) :: ((a, 1, n + 1) :: ((a, 0, n) :: R))) (sN (sR (sN (sR (sN (sR (sN σ 36 5) a 0 (some (n))) 36 3) a 1 (some (n + 1))) 36 7) a 2 (some (n + 2))) 32 5) := g3.wN 32 5
  have k4 : kd (sN (sR (sN (sR (sN (sR (sN σ 36 5) a 0 (some (n))) 36 3) a 1 (some (n + 1))) 36 7) a 2 (some (n + 2))) 32 5) a = some (8, 5) := kdN l3
  have g4 : BS L xs fo (n + 4) ((((K ++ [(36, 5)]) ++ [(36, 3)]) ++ [(36, 7)]) ++ [(32, 5)]) W ((a, 3, n + 3) :: ((a, 2, n + 2) :: ((a, 1, n + 1) :: ((a, 0, n) :: R)))) (sR (sN (sR (sN (sR (sN (sR (sN σ 36 5) a 0 (some (n))) 36 3) a 1 (some (n + 1))) 36 7) a 2 (some (n + 2))) 32 5) a 3 (some (n + 3))) := h4.wR ⟨ha, by omega⟩ 3 (n + 3)
  have l4 : kd (sR (sN (sR (sN (sR (sN (sR (sN σ 36 5) a 0 (some (n))) 36 3) a 1 (some (n + 1))) 36 7) a 2 (some (n + 2))) 32 5) a 3 (some (n + 3))) a = some (8, 5) := k4
  refine ⟨(sR (sN (sR (sN (sR (sN (sR (sN σ 36 5) a 0 (some (n))) 36 3) a 1 (some (n + 1))) 36 7) a 2 (some (n + 2))) 32 5) a 3 (some (n + 3))), ?_, g4, Ex.trans (Ex.trans (Ex.trans (Ex.trans (Ex.trans (Ex.trans (Ex.trans (ExN h (fun r => r = a) 36 5) (ExR (n + 1) (E := fun r => r = a) rfl 0 (some (n))) (by omega) (fun r _ y => y)) (ExN g1 (fun r => r = a) 36 3) (by omega) (fun r _ y => y)) (ExR (n + 2) (E := fun r => r = a) rfl 1 (some (n + 1))) (by omega) (fun r _ y => y)) (ExN g2 (fun r => r = a) 36 7) (by omega) (fun r _ y => y)) (ExR (n + 3) (E := fun r => r = a) rfl 2 (some (n + 2))) (by omega) (fun r _ y => y)) (ExN g3 (fun r => r = a) 32 5) (by omega) (fun r _ y => y)) (ExR (n + 4) (E := fun r => r = a) rfl 3 (some (n + 3))) (by omega) (fun r _ y => y)⟩
  rw [q_X7_init, zln_e, zlt_e, z1, show ix (5 : Int32) = 5 from rfl, tg_kd k1, if_pos rfl, zlt_e, zln_e, zlt_e, z2, show ix (3 : Int32) = 3 from rfl, tg_kd k2, if_pos rfl, zlt_e, zln_e, zlt_e, z3, show ix (7 : Int32) = 7 from rfl, tg_kd k3, if_pos rfl, zlt_e, zln_e, zlt_e, z4, tg_kd k4, if_pos rfl, zlt_e]
theorem b_X8 (h : BS L xs fo n K W R σ) (hk : kd σ a = some (9, 5)) (ha : 6 ≤ a) : ∃ σ', zM 78 [.ref a] σ = some (none, σ') ∧ BS L xs fo (n + 1) (K ++ [(32, 5)]) W ((a, 1, n) :: R) σ' ∧ Ex n (fun r => r = a) σ σ' := by
  have al : a < n := by rw [← h.sz']; exact kd_ltA hk
  have z1 : Jvm.Pilot.@@N@@.sz σ = n := h.sz
  have h1 : BS L xs fo (n + 1) (K ++ [(32, 5)]) W R (sN σ 32 5) := h.wN 32 5
  have k1 : kd (sN σ 32 5) a = some (9, 5) := kdN hk
  have g1 : BS L xs fo (n + 1) (K ++ [(32, 5)]) W ((a, 1, n) :: R) (sR (sN σ 32 5) a 1 (some (n))) := h1.wR ⟨ha, by omega⟩ 1 (n)
  have l1 : kd (sR (sN σ 32 5) a 1 (some (n))) a = some (9, 5) := k1
  refine ⟨(sR (sN σ 32 5) a 1 (some (n))), ?_, g1, Ex.trans (ExN h (fun r => r = a) 32 5) (ExR (n + 1) (E := fun r => r = a) rfl 1 (some (n))) (by omega) (fun r _ y => y)⟩
  rw [q_X8_init, zln_e, zlt_e, z1, show ix (5 : Int32) = 5 from rfl, tg_kd k1, if_pos rfl, zlt_e]
theorem b_X9 (h : BS L xs fo n K W R σ) (hk : kd σ a = some (10, 4)) (ha : 6 ≤ a) : ∃ σ', zM 79 [.ref a] σ = some (none, σ') ∧ BS L xs fo (n + 2) ((K ++ [(32, 160)]) ++ [(32, 1120)]) W ((a, 1, n + 1) :: ((a, 0, n) :: R)) σ' ∧ Ex n (fun r => r = a) σ σ' := by
  have al : a < n := by rw [← h.sz']; exact kd_ltA hk
  have z1 : Jvm.Pilot.@@N@@.sz σ = n := h.sz
  have h1 : BS L xs fo (n + 1) (K ++ [(32, 160)]) W R (sN σ 32 160) := h.wN 32 160
  have k1 : kd (sN σ 32 160) a = some (10, 4) := kdN hk
  have g1 : BS L xs fo (n + 1) (K ++ [(32, 160)]) W ((a, 0, n) :: R) (sR (sN σ 32 160) a 0 (some (n))) := h1.wR ⟨ha, by omega⟩ 0 (n)
  have l1 : kd (sR (sN σ 32 160) a 0 (some (n))) a = some (10, 4) := k1
  have z2 : Jvm.Pilot.@@N@@.sz (sR (sN σ 32 160) a 0 (some (n))) = n + 1 := g1.sz
  have h2 : BS L xs fo (n + 2) ((K ++ [(32, 160)]) ++ [(32, 1120)]) W ((a, 0, n) :: R) (sN (sR (sN σ 32 160) a 0 (some (n))) 32 1120) := g1.wN 32 1120
  have k2 : kd (sN (sR (sN σ 32 160) a 0 (some (n))) 32 1120) a = some (10, 4) := kdN l1
  have g2 : BS L xs fo (n + 2) ((K ++ [(32, 160)]) ++ [(32, 1120)]) W ((a, 1, n + 1) :: ((a, 0, n) :: R)) (sR (sN (sR (sN σ 32 160) a 0 (some (n))) 32 1120) a 1 (some (n + 1))) := h2.wR ⟨ha, by omega⟩ 1 (n + 1)
  have l2 : kd (sR (sN (sR (sN σ 32 160) a 0 (some (n))) 32 1120) a 1 (some (n + 1))) a = some (10, 4) := k2
  refine ⟨(sR (sN (sR (sN σ 32 160) a 0 (some (n))) 32 1120) a 1 (some (n + 1))), ?_, g2, Ex.trans (Ex.trans (Ex.trans (ExN h (fun r => r = a) 32 160) (ExR (n + 1) (E := fun r => r = a) rfl 0 (some (n))) (by omega) (fun r _ y => y)) (ExN g1 (fun r => r = a) 32 1120) (by omega) (fun r _ y => y)) (ExR (n + 2) (E := fun r => r = a) rfl 1 (some (n + 1))) (by omega) (fun r _ y => y)⟩
  rw [q_X9_init, zln_e, zlt_e, z1, show ix (160 : Int32) = 160 from rfl, tg_kd k1, if_pos rfl, zlt_e, zln_e, zlt_e, z2, show ix (1120 : Int32) = 1120 from rfl, tg_kd k2, if_pos rfl, zlt_e]
end
