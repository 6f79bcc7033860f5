/-! the class is made -/
def pK : Nat → List (Nat × Nat) → List (Nat × Nat)
  | 0, K => K
  | i + 1, K => ((pK i K ++ [(5, 9)]) ++ [(32, 5)]) ++ [(32, 40)]
def pW : Nat → List (Nat × Nat × Int32) → List (Nat × Nat × Int32)
  | 0, W => W
  | i + 1, W => (116 + 3 * i, 7, -1) :: (116 + 3 * i, 5, -1) :: pW i W
def pR : Nat → List (Nat × Nat × Nat) → List (Nat × Nat × Nat)
  | 0, R => R
  | i + 1, R => (104, i, 116 + 3 * i) :: (116 + 3 * i, 8, 116 + 3 * i + 2) :: (116 + 3 * i, 2, 116 + 3 * i + 1) :: pR i R
def aK : List (Nat × Nat) := (((([(12, 19)] ++ [(33, 1600)]) ++ [(11, 10)]) ++ [(32, 35)]) ++ [(33, 0)])
def aR : List (Nat × Nat × Nat) := (6, 2, 8) :: (8, 1, 10) :: (8, 0, 9) :: (6, 0, 7) :: []
def bK (K : List (Nat × Nat)) : List (Nat × Nat) := ((((K ++ [(2, 1)]) ++ [(7, 6)]) ++ [(80, 3)]) ++ [(32, 1600)]) ++ [(32, 64)]
def bR (R : List (Nat × Nat × Nat)) : List (Nat × Nat × Nat) := (6, 4, 12) :: (12, 0, 8) :: (12, 4, 15) :: (12, 2, 14) :: (12, 1, 13) :: (6, 3, 11) :: (11, 0, 8) :: R
def cK (K : List (Nat × Nat)) : List (Nat × Nat) := hK (hK (K ++ [(1, 11)]) ++ [(1, 11)])
def cW (W : List (Nat × Nat × Int32)) : List (Nat × Nat × Int32) := (6, 8, -1) :: hW 61 (hW 17 W)
def cR (R : List (Nat × Nat × Nat)) : List (Nat × Nat × Nat) := (6, 6, 60) :: hR 60 61 ((6, 5, 16) :: hR 16 17 R)
def dK (K : List (Nat × Nat)) : List (Nat × Nat) := (((((((K ++ [(69, 20)]) ++ [(8, 5)]) ++ [(36, 5)]) ++ [(36, 3)]) ++ [(36, 7)]) ++ [(32, 5)]) ++ [(3, 2)]) ++ [(33, 290)]
def dR (R : List (Nat × Nat × Nat)) : List (Nat × Nat × Nat) := (6, 14, 110) :: (110, 0, 111) :: (6, 13, 105) :: (105, 3, 109) :: (105, 2, 108) :: (105, 1, 107) :: (105, 0, 106) :: (6, 9, 104) :: R
def eK (K : List (Nat × Nat)) : List (Nat × Nat) := (((K ++ [(32, 5)]) ++ [(32, 3)]) ++ [(32, 8)]) ++ [(32, 20)]
def eR (R : List (Nat × Nat × Nat)) : List (Nat × Nat × Nat) := (6, 18, 115) :: (6, 17, 114) :: (6, 16, 113) :: (6, 15, 112) :: R
section
variable {σ : zS} {L : Nat} {xs : Nat → Int32} {fo : Option Nat} {n i : Nat} {K : List (Nat × Nat)} {W : List (Nat × Nat × Int32)} {R : List (Nat × Nat × Nat)}
theorem m_1 (h : BS L xs fo 7 [(12, 19)] [] [] σ) (hk : kd σ 6 = some (12, 19)) : ∃ σ', zM 112 [.ref 6] σ = zR 6 112 11 [some (.ref 6), none] [] σ' ∧ BS L xs fo 11 aK (owV 174) aR σ' ∧ kd σ' 6 = some (12, 19) := by
  have z1 : Jvm.Pilot.@@N@@.sz σ = 7 := h.sz
  have h1 : BS L xs fo 8 ([(12, 19)] ++ [(33, 1600)]) [] [] (sN σ 33 1600) := h.wN 33 1600
  have k1 : kd (sN σ 33 1600) 6 = some (12, 19) := kdN hk
  have h2 : BS L xs fo 8 ([(12, 19)] ++ [(33, 1600)]) [] ((6, 0, 7) :: []) (sR (sN σ 33 1600) 6 0 (some 7)) := h1.wR (r := 6) ⟨by omega, by omega⟩ 0 7
  have k2 : kd (sR (sN σ 33 1600) 6 0 (some 7)) 6 = some (12, 19) := k1
  have z2 : Jvm.Pilot.@@N@@.sz (sR (sN σ 33 1600) 6 0 (some 7)) = 8 := h2.sz
  have h3 : BS L xs fo 9 (([(12, 19)] ++ [(33, 1600)]) ++ [(11, 10)]) [] ((6, 0, 7) :: []) (sN (sR (sN σ 33 1600) 6 0 (some 7)) 11 10) := h2.wN 11 10
  have k3 : kd (sN (sR (sN σ 33 1600) 6 0 (some 7)) 11 10) 6 = some (12, 19) := kdN k2
  have k8 : kd (sN (sR (sN σ 33 1600) 6 0 (some 7)) 11 10) 8 = some (11, 10) := kdNn h2 11 10
  obtain ⟨s4, e4, h4, x4⟩ := b_X10 h3 k8
  have k4 := x4.kd k3
  refine ⟨sR s4 6 2 (some 8), ?_, h4.wR (r := 6) ⟨by omega, by omega⟩ 2 8, k4⟩
  rw [q_X11_init, zln_e, zlt_e, z1, show ix (1600 : Int32) = 1600 from rfl, tg_kd k1, if_pos rfl, zlt_e, zln_e, zlt_e, z2, e4, zbV_e, tg_kd k4, if_pos rfl, zlt_e]
theorem m_2 (h : BS L xs fo 11 K W R σ) (hk : kd σ 6 = some (12, 19)) (h2 : gR σ 6 2 = some 8) (u : Option Value) : ∃ σ', zR 6 112 11 [some (.ref 6), u] [] σ = zR 6 112 25 [some (.ref 6), u] [] σ' ∧ BS L xs fo 16 (bK K) W (bR R) σ' ∧ kd σ' 6 = some (12, 19) := by
  have z1 : Jvm.Pilot.@@N@@.sz σ = 11 := h.sz
  have h1 : BS L xs fo 12 (K ++ [(2, 1)]) W R (sN σ 2 1) := h.wN 2 1
  have k1 : kd (sN σ 2 1) 6 = some (12, 19) := kdN hk
  have g1 : gR (sN σ 2 1) 6 2 = some 8 := ((ExN h (fun _ => False) 2 1).2 6 2 (by omega) (fun y => y)).trans h2
  obtain ⟨s3, e3, h3, x3⟩ := b_X1 (r0 := 8) h1 (kdNn h 2 1) (by omega)
  have k3 := x3.kd k1
  have h4 : BS L xs fo 12 (K ++ [(2, 1)]) W ((6, 3, 11) :: (11, 0, 8) :: R) (sR s3 6 3 (some 11)) := h3.wR (r := 6) ⟨by omega, by omega⟩ 3 11
  have k4 : kd (sR s3 6 3 (some 11)) 6 = some (12, 19) := k3
  have z4 : Jvm.Pilot.@@N@@.sz (sR s3 6 3 (some 11)) = 12 := h4.sz
  have g4 : gR (sR s3 6 3 (some 11)) 6 2 = some 8 := by
    rw [gR_sR, if_neg (by omega), x3.2 6 2 (by omega) (by omega)]; exact g1
  have h5 : BS L xs fo 13 ((K ++ [(2, 1)]) ++ [(7, 6)]) W ((6, 3, 11) :: (11, 0, 8) :: R) (sN (sR s3 6 3 (some 11)) 7 6) := h4.wN 7 6
  have k5 : kd (sN (sR s3 6 3 (some 11)) 7 6) 6 = some (12, 19) := kdN k4
  have g5 : gR (sN (sR s3 6 3 (some 11)) 7 6) 6 2 = some 8 := ((ExN h4 (fun _ => False) 7 6).2 6 2 (by omega) (fun y => y)).trans g4
  obtain ⟨s6, e6, h6, x6⟩ := b_X6 (r0 := 8) h5 (kdNn h4 7 6) (by omega)
  have k6 := x6.kd k5
  refine ⟨sR s6 6 4 (some 12), ?_, h6.wR (r := 6) ⟨by omega, by omega⟩ 4 12, k6⟩
  rw [q_X11_init_11, zln_e, zlt_e, z1, tg_kd k1, if_pos rfl, g1, zeR_e, e3, zbV_e, tg_kd k3, if_pos rfl, zlt_e, zln_e, zlt_e, z4, tg_kd k5, if_pos rfl, g5, zeR_e, e6, zbV_e, tg_kd k6, if_pos rfl, zlt_e]
theorem m_3 (h : BS L xs fo 16 K W R σ) (hk : kd σ 6 = some (12, 19)) (u : Option Value) : ∃ σ', zR 6 112 25 [some (.ref 6), u] [] σ = zR 6 112 38 [some (.ref 6), u] [] σ' ∧ BS L xs fo 104 (cK K) (cW W) (cR R) σ' ∧ kd σ' 6 = some (12, 19) := by
  have z1 : Jvm.Pilot.@@N@@.sz σ = 16 := h.sz
  have h1 : BS L xs fo 17 (K ++ [(1, 11)]) W R (sN σ 1 11) := h.wN 1 11
  have k1 : kd (sN σ 1 11) 6 = some (12, 19) := kdN hk
  obtain ⟨s2, e2, h2, x2⟩ := b_X0 h1 (kdNn h 1 11) (by omega)
  have h2 : BS L xs fo 60 (hK (K ++ [(1, 11)])) (hW 17 W) (hR 16 17 R) s2 := h2
  have k2 := x2.kd k1
  have h3 : BS L xs fo 60 (hK (K ++ [(1, 11)])) (hW 17 W) ((6, 5, 16) :: hR 16 17 R) (sR s2 6 5 (some 16)) := h2.wR (r := 6) ⟨by omega, by omega⟩ 5 16
  have k3 : kd (sR s2 6 5 (some 16)) 6 = some (12, 19) := k2
  have z3 : Jvm.Pilot.@@N@@.sz (sR s2 6 5 (some 16)) = 60 := h3.sz
  have h4 : BS L xs fo 61 (hK (K ++ [(1, 11)]) ++ [(1, 11)]) (hW 17 W) ((6, 5, 16) :: hR 16 17 R) (sN (sR s2 6 5 (some 16)) 1 11) := h3.wN 1 11
  have k4 : kd (sN (sR s2 6 5 (some 16)) 1 11) 6 = some (12, 19) := kdN k3
  obtain ⟨s5, e5, h5, x5⟩ := b_X0 h4 (kdNn h3 1 11) (by omega)
  have h5 : BS L xs fo 104 (cK K) (hW 61 (hW 17 W)) (hR 60 61 ((6, 5, 16) :: hR 16 17 R)) s5 := h5
  have k5 := x5.kd k4
  have h6 : BS L xs fo 104 (cK K) (hW 61 (hW 17 W)) (cR R) (sR s5 6 6 (some 60)) := h5.wR (r := 6) ⟨by omega, by omega⟩ 6 60
  have k6 : kd (sR s5 6 6 (some 60)) 6 = some (12, 19) := k5
  refine ⟨sI (sR s5 6 6 (some 60)) 6 8 (-1), ?_, h6.wI (r := 6) ⟨by omega, by omega⟩ 8 (-1), k6⟩
  rw [q_X11_init_25, zln_e, zlt_e, z1, e2, zbV_e, tg_kd k2, if_pos rfl, zlt_e, zln_e, zlt_e, z3, e5, zbV_e, tg_kd k5, if_pos rfl, zlt_e, tg_kd k6, if_pos rfl, zlt_e]
theorem m_4 (h : BS L xs fo 104 K W R σ) (hk : kd σ 6 = some (12, 19)) (u : Option Value) : ∃ σ', zR 6 112 38 [some (.ref 6), u] [] σ = zR 6 112 52 [some (.ref 6), u] [] σ' ∧ BS L xs fo 112 (dK K) W (dR R) σ' ∧ kd σ' 6 = some (12, 19) ∧ kd σ' 104 = some (69, 20) := by
  have z1 : Jvm.Pilot.@@N@@.sz σ = 104 := h.sz
  have h1 : BS L xs fo 105 (K ++ [(69, 20)]) W R (sN σ 69 20) := h.wN 69 20
  have k1 : kd (sN σ 69 20) 6 = some (12, 19) := kdN hk
  have p1 : kd (sN σ 69 20) 104 = some (69, 20) := kdNn h 69 20
  have h2 : BS L xs fo 105 (K ++ [(69, 20)]) W ((6, 9, 104) :: R) (sR (sN σ 69 20) 6 9 (some 104)) := h1.wR (r := 6) ⟨by omega, by omega⟩ 9 104
  have k2 : kd (sR (sN σ 69 20) 6 9 (some 104)) 6 = some (12, 19) := k1
  have p2 : kd (sR (sN σ 69 20) 6 9 (some 104)) 104 = some (69, 20) := p1
  have z2 : Jvm.Pilot.@@N@@.sz (sR (sN σ 69 20) 6 9 (some 104)) = 105 := h2.sz
  have h3 := h2.wN 8 5
  have k3 : kd (sN (sR (sN σ 69 20) 6 9 (some 104)) 8 5) 6 = some (12, 19) := kdN k2
  have p3 : kd (sN (sR (sN σ 69 20) 6 9 (some 104)) 8 5) 104 = some (69, 20) := kdN p2
  obtain ⟨s4, e4, h4, x4⟩ := b_X7 h3 (kdNn h2 8 5) (by omega)
  have k4 := x4.kd k3
  have p4 := x4.kd p3
  have h5 : BS L xs fo 110 ((((((K ++ [(69, 20)]) ++ [(8, 5)]) ++ [(36, 5)]) ++ [(36, 3)]) ++ [(36, 7)]) ++ [(32, 5)]) W ((6, 13, 105) :: (105, 3, 109) :: (105, 2, 108) :: (105, 1, 107) :: (105, 0, 106) :: (6, 9, 104) :: R) (sR s4 6 13 (some 105)) := h4.wR (r := 6) ⟨by omega, by omega⟩ 13 105
  have k5 : kd (sR s4 6 13 (some 105)) 6 = some (12, 19) := k4
  have p5 : kd (sR s4 6 13 (some 105)) 104 = some (69, 20) := p4
  have z5 : Jvm.Pilot.@@N@@.sz (sR s4 6 13 (some 105)) = 110 := h5.sz
  have h6 := h5.wN 3 2
  have k6 : kd (sN (sR s4 6 13 (some 105)) 3 2) 6 = some (12, 19) := kdN k5
  have p6 : kd (sN (sR s4 6 13 (some 105)) 3 2) 104 = some (69, 20) := kdN p5
  obtain ⟨s7, e7, h7, x7⟩ := b_X2 h6 (kdNn h5 3 2) (by omega)
  have k7 := x7.kd k6
  have p7 := x7.kd p6
  refine ⟨sR s7 6 14 (some 110), ?_, h7.wR (r := 6) ⟨by omega, by omega⟩ 14 110, k7, p7⟩
  rw [q_X11_init_38, zln_e, zlt_e, z1, show ix (20 : Int32) = 20 from rfl, tg_kd k1, if_pos rfl, zlt_e, zln_e, zlt_e, z2, e4, zbV_e, tg_kd k4, if_pos rfl, zlt_e, zln_e, zlt_e, z5, e7, zbV_e, tg_kd k7, if_pos rfl, zlt_e]
theorem m_5 (h : BS L xs fo 112 K W R σ) (hk : kd σ 6 = some (12, 19)) (hp : kd σ 104 = some (69, 20)) (u : Option Value) : ∃ σ', zR 6 112 52 [some (.ref 6), u] [] σ = zR 6 112 70 [some (.ref 6), some (.int 0)] [] σ' ∧ BS L xs fo 116 (eK K) W (eR R) σ' ∧ kd σ' 6 = some (12, 19) ∧ kd σ' 104 = some (69, 20) := by
  have z1 : Jvm.Pilot.@@N@@.sz σ = 112 := h.sz
  have k1 : kd (sN σ 32 5) 6 = some (12, 19) := kdN hk
  have h2 : BS L xs fo 113 (K ++ [(32, 5)]) W ((6, 15, 112) :: R) (sR (sN σ 32 5) 6 15 (some 112)) := (h.wN 32 5).wR (r := 6) ⟨by omega, by omega⟩ 15 112
  have k2 : kd (sR (sN σ 32 5) 6 15 (some 112)) 6 = some (12, 19) := k1
  have p2 : kd (sR (sN σ 32 5) 6 15 (some 112)) 104 = some (69, 20) := kdN hp
  obtain ⟨s2, q2⟩ : ∃ s2, s2 = sR (sN σ 32 5) 6 15 (some 112) := ⟨_, rfl⟩
  rw [← q2] at h2 k2 p2
  have z2 : Jvm.Pilot.@@N@@.sz s2 = 113 := h2.sz
  have k3 : kd (sN s2 32 3) 6 = some (12, 19) := kdN k2
  have h4 : BS L xs fo 114 ((K ++ [(32, 5)]) ++ [(32, 3)]) W ((6, 16, 113) :: (6, 15, 112) :: R) (sR (sN s2 32 3) 6 16 (some 113)) := (h2.wN 32 3).wR (r := 6) ⟨by omega, by omega⟩ 16 113
  have k4 : kd (sR (sN s2 32 3) 6 16 (some 113)) 6 = some (12, 19) := k3
  have p4 : kd (sR (sN s2 32 3) 6 16 (some 113)) 104 = some (69, 20) := kdN p2
  obtain ⟨s4, q4⟩ : ∃ s4, s4 = sR (sN s2 32 3) 6 16 (some 113) := ⟨_, rfl⟩
  rw [← q4] at h4 k4 p4
  have z4 : Jvm.Pilot.@@N@@.sz s4 = 114 := h4.sz
  have k5 : kd (sN s4 32 8) 6 = some (12, 19) := kdN k4
  have h6 : BS L xs fo 115 (((K ++ [(32, 5)]) ++ [(32, 3)]) ++ [(32, 8)]) W ((6, 17, 114) :: (6, 16, 113) :: (6, 15, 112) :: R) (sR (sN s4 32 8) 6 17 (some 114)) := (h4.wN 32 8).wR (r := 6) ⟨by omega, by omega⟩ 17 114
  have k6 : kd (sR (sN s4 32 8) 6 17 (some 114)) 6 = some (12, 19) := k5
  have p6 : kd (sR (sN s4 32 8) 6 17 (some 114)) 104 = some (69, 20) := kdN p4
  obtain ⟨s6, q6⟩ : ∃ s6, s6 = sR (sN s4 32 8) 6 17 (some 114) := ⟨_, rfl⟩
  rw [← q6] at h6 k6 p6
  have z6 : Jvm.Pilot.@@N@@.sz s6 = 115 := h6.sz
  have k7 : kd (sN s6 32 20) 6 = some (12, 19) := kdN k6
  have p7 : kd (sN s6 32 20) 104 = some (69, 20) := kdN p6
  refine ⟨sR (sN s6 32 20) 6 18 (some 115), ?_, (h6.wN 32 20).wR (r := 6) ⟨by omega, by omega⟩ 18 115, k7, p7⟩
  rw [q_X11_init_52, zln_e, zlt_e, z1, show ix (5 : Int32) = 5 from rfl, tg_kd k1, if_pos rfl, zlt_e, ← q2, zln_e, zlt_e, z2, show ix (3 : Int32) = 3 from rfl, tg_kd k3, if_pos rfl, zlt_e, ← q4, zln_e, zlt_e, z4, show ix (8 : Int32) = 8 from rfl, tg_kd k5, if_pos rfl, zlt_e, ← q6, zln_e, zlt_e, z6, show ix (20 : Int32) = 20 from rfl, tg_kd k7, if_pos rfl, zlt_e]
theorem m_6 (h : BS L xs fo n K W R σ) (hk : kd σ 6 = some (12, 19)) (h9 : gR σ 6 9 = some 104) (kA : kd σ 104 = some (69, 20)) (hi : i < 20) : ∃ σ', zR 6 112 70 [some (.ref 6), some (.int (nI i))] [] σ = zR 6 112 70 [some (.ref 6), some (.int (nI (i + 1)))] [] σ' ∧ BS L xs fo (n + 3) (((K ++ [(5, 9)]) ++ [(32, 5)]) ++ [(32, 40)]) ((n, 7, (-1)) :: (n, 5, (-1)) :: W) ((104, i, n) :: (n, 8, n + 2) :: (n, 2, n + 1) :: R) σ' ∧ Ex n (fun r => r = 104) σ σ' := by
  have n6 : 6 ≤ n := by have := h.1.2; omega
  have al : 104 < n := by rw [← h.sz']; exact kd_ltA kA
  have z1 : Jvm.Pilot.@@N@@.sz σ = n := h.sz
  have h1 := h.wN 5 9
  have kn := kdNn h 5 9
  obtain ⟨σ3, e3, h3, x3⟩ := b_X4 h1 kn n6
  have kA3 : kd σ3 104 = some (69, 20) := x3.kd (kdN kA)
  have kn3 : kd σ3 n = some (5, 9) := x3.kd kn
  have aA := ai_nI (σ := σ3) (t := 69) (u := 69) (.inl (tg_kd kA3)) (ln_kd kA3) hi (by omega)
  refine ⟨sR σ3 104 i (some n), ?_, h3.wR (r := 104) ⟨by omega, by omega⟩ i n, Ex.trans (Ex.trans (ExN h (fun r => r = 104) 5 9) x3 (by omega) (fun r hr y => absurd y (by omega))) (ExR (n + 3) (E := fun r => r = 104) rfl i (some n)) (by omega) (fun r _ y => y)⟩
  rw [q_X11_init_70, if_neg (show ¬ (20 : Int32) ≤ nI i from nI_ge (b := 20) hi (by omega)), tg_kd hk, if_pos rfl, h9, zeR_e, zln_e, zlt_e, z1, e3, zbV_e, if_pos aA, tg_kd kn3, if_pos rfl, zlt_e, ixn (by omega), nI_1]
theorem m_7 (h : BS L xs fo 116 K W R σ) (hk : kd σ 6 = some (12, 19)) (h9 : gR σ 6 9 = some 104) (kA : kd σ 104 = some (69, 20)) : ∃ σ', zR 6 112 70 [some (.ref 6), some (.int 0)] [] σ = some (none, σ') ∧ BS L xs fo 176 (pK 20 K) (pW 20 W) (pR 20 R) σ' := by
  obtain ⟨s1, e1, h1, -⟩ := lp_run (F := fun i (g : zS) => zR 6 112 70 [some (.ref 6), some (.int (nI i))] [] g) (fun i g => BS L xs fo (116 + 3 * i) (pK i K) (pW i W) (pR i R) g ∧ kd g 6 = some (12, 19) ∧ gR g 6 9 = some 104 ∧ kd g 104 = some (69, 20)) 20 (by
    rintro i g hi ⟨k1, k2, k3, k4⟩
    obtain ⟨g', a1, a2, a3⟩ := m_6 k1 k2 k3 k4 hi
    have n1 : 104 < 116 + 3 * i := by omega
    exact ⟨g', a1, a2, a3.kd k2, (a3.2 6 9 (by omega) (by omega)).trans k3, a3.kd k4⟩) σ ⟨h, hk, h9, kA⟩
  refine ⟨s1, Eq.trans e1 ?_, h1⟩
  rw [q_X11_init_70, if_pos (show (20 : Int32) ≤ nI 20 by decide)]
def zKf : List (Nat × Nat) := pK 20 (eK (dK (cK (bK aK))))
def zWf : List (Nat × Nat × Int32) := pW 20 (cW (owV 174))
def zRf : List (Nat × Nat × Nat) := pR 20 (eR (dR (cR (bR aR))))
theorem b_X11 (h : BS L xs fo 7 [(12, 19)] [] [] σ) (hk : kd σ 6 = some (12, 19)) : ∃ σ', zM 112 [.ref 6] σ = some (none, σ') ∧ BS L xs fo 176 zKf zWf zRf σ' := by
  obtain ⟨s1, e1, h1, k1⟩ := m_1 h hk
  obtain ⟨s2, e2, h2, k2⟩ := m_2 h1 k1 ((h1.gr (by omega) 2).trans rfl) none
  obtain ⟨s3, e3, h3, k3⟩ := m_3 h2 k2 none
  obtain ⟨s4, e4, h4, k4, p4⟩ := m_4 h3 k3 none
  obtain ⟨s5, e5, h5, k5, p5⟩ := m_5 h4 k4 p4 none
  obtain ⟨s6, e6, h6⟩ := m_7 h5 k5 ((h5.gr (by omega) 9).trans rfl) p5
  exact ⟨s6, by rw [e1, e2, e3, e4, e5, e6], h6⟩
theorem b_0 (L : Nat) (xs : Nat → Int32) (fo : Option Nat) : BS L xs fo 6 [] [] [] (zs0 L xs fo) := by
  refine ⟨⟨?_, rfl⟩, fun r j _ => ⟨rfl, rfl⟩, fun r j hr => ?_, fun r j => rfl, fun e he => absurd he (List.not_mem_nil), fun e he => absurd he (List.not_mem_nil)⟩
  · show zpre L = zpre L ++ []
    rw [List.append_nil]
  · obtain ⟨k, rfl⟩ : ∃ k, r = k + 6 := ⟨r - 6, by omega⟩
    exact ⟨rfl, rfl⟩
end
