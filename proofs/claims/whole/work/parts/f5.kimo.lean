/-! image: both answer alike -/
def pBy (np : Nat) (sf zf : Nat → Nat) (ff : Nat → Nat → Nat) : Nat → List Nat
  | 0 => [np]
  | i + 1 => pBy np sf zf ff i ++ [sf i] ++ [zf i] ++ rowB (ff i) 5
section
variable {σ σ' σ1 σ2 : zS} {sf zf hf t : Nat → Nat} {ff : Nat → Nat → Nat} {B P S N M K np c n : Nat} {L : List Nat}
theorem pBy_len : ∀ i, (pBy np sf zf ff i).length = 1 + 12 * i
  | 0 => rfl
  | i + 1 => by
    show (pBy np sf zf ff i ++ [sf i] ++ [zf i] ++ rowB (ff i) 5).length = _
    rw [List.length_append, len1, len1, pBy_len i, rowB_len]
    omega
theorem rowB_3 (f : Nat → Nat) (i : Nat) : rowB f (3 * (i + 1)) = rowB f (3 * i) ++ rowB (fun r => f (3 * i + r)) 3 := by
  show rowB f (3 * i + 1 + 1 + 1) = _
  simp only [rowB, List.append_assoc, List.nil_append, Nat.add_zero, List.cons_append]
theorem op_image (h : RR B σ c P S N M K np t n) : Al B σ c 183 [.ref 6] 314 [.ref 176] := by
  have hR := h
  have hS := h.1
  have hP := h.2.1.1
  have hb := HPb hP
  obtain ⟨g1, g2, g3, g4, g5, ⟨h1, h2, h3, h4, h5, h6, h7, h8, h9, h10⟩, g7, g8, g9, g10, g11, g12, g13⟩ := h
  have n1 := h1.1.2.1
  have n2 := h1.2.1.2.1
  have n3 := h1.2.2.2.1
  have n4 := g8.1
  have h65 : gR σ 6 5 = some P := g2.2.2.2.1
  have p20 := n4
  have fam : ∃ (sf zf : Nat → Nat) (ff : Nat → Nat → Nat), ∀ p, p < np → sf p < 256 ∧ zf p < 256 ∧ gI σ (116 + 3 * p) 0 = nI (sf p) ∧ gI σ 232 p = nI (sf p) ∧ gI σ (116 + 3 * p) 1 = nI (zf p) ∧ gI σ 233 p = nI (zf p) ∧ ∀ d, d < 5 → ff p d ≤ 10000 ∧ gI σ (117 + 3 * p) d = nI (ff p d) ∧ gI σ 234 (5 * p + d) = nI (ff p d) := by
    refine ⟨fun p => ix (gI σ 232 p), fun p => ix (gI σ 233 p), fun p d => ix (gI σ 234 (5 * p + d)), fun p hp => ?_⟩
    obtain ⟨so, z, s1, z1, z2, ⟨a1, a2, a3, a4⟩, ⟨f, f1, f2⟩, -⟩ := g9 p hp
    have e1 : ix (gI σ 232 p) = so := by rw [a2, ixn (by omega)]
    have e2 : ix (gI σ 233 p) = z := by rw [a4, ixn (by omega)]
    have e3 : ∀ d, d < 5 → ix (gI σ 234 (5 * p + d)) = f d := fun d hd => by
      have := sm5 f d hd
      rw [(f2 d hd).2, ixn (by omega)]
    simp only [e1, e2]
    refine ⟨by omega, by omega, a1, a2, a3, a4, fun d hd => ?_⟩
    rw [e3 d hd]
    have := sm5 f d hd
    exact ⟨by omega, f2 d hd⟩
  have fam2 : ∃ hf : Nat → Nat, ∀ i, i < N → ∀ r, r < 3 → hf (3 * i + r) ≤ 10000 ∧ gI σ (P + 9 + 2 * i) r = nI (hf (3 * i + r)) ∧ gI σ 235 (3 * i + r) = nI (hf (3 * i + r)) := by
    refine ⟨fun k => ix (gI σ 235 k), fun i hi r hr => ?_⟩
    obtain ⟨g, y1, y2⟩ := h8 i hi
    have := sm3 g r hr
    have e : ix (gI σ 235 (3 * i + r)) = g r := by rw [(y2 r hr).2, ixn (by omega)]
    simp only [e]
    exact ⟨by omega, y2 r hr⟩
  obtain ⟨sf, zf, ff, fam⟩ := fam
  obtain ⟨hf, fam2⟩ := fam2
  -- the class
  have S0 : Sh (sI σ 110 1 0) := hS.sI (by omega)
  have ci0 : CI (sI σ 110 1 0) [] := ⟨by rw [gI_sI, if_pos ⟨rfl, rfl⟩]; rfl, fun j hj => absurd hj (Nat.not_lt_zero j), fun j => by rw [List.getD_nil]; omega⟩
  obtain ⟨s1, a1, a2, a3, a4⟩ := c_putB (b := np) (v := nI np) S0 ci0 (by show 0 < 290; omega) (by rw [lb_nI (by omega)]; omega)
  have u1 : Un (fun r j => (r = 110 ∧ j = 1) ∨ r = 111) σ s1 := (Un_sI (.inl ⟨rfl, rfl⟩)).trans a3
  obtain ⟨s2, e2, b1, b2, b3⟩ := lp_run (F := fun i (s : zS) => zR 3 18 8 [some (.ref 110), some (.ref 104), some (.int (nI np)), some (.ref P), some (.int (nI i))] [] s) (fun i s => Sh s ∧ Un (fun r j => (r = 110 ∧ j = 1) ∨ r = 111) σ s ∧ CI s (pBy np sf zf ff i)) np (by
    rintro i s hi ⟨k1, k2, k3⟩
    have i20 : i < 20 := by omega
    obtain ⟨y1, y2, y3, y4, y5, y6, y7⟩ := fam i hi
    have ll := pBy_len (np := np) (sf := sf) (zf := zf) (ff := ff) i
    have aq : ∀ s', Sh s' → ai s' 69 69 104 (nI i) = true := fun s' hs => ai_nI (.inl (tg_104 hs)) (ln_104 hs) i20 (by omega)
    obtain ⟨q1, x1, x2, x3, x4⟩ := c_putB (b := sf i) (v := nI (sf i)) k1 k3 (by rw [ll]; omega) (by rw [lb_nI (by omega)]; omega)
    obtain ⟨q2, w1, w2, w3, w4⟩ := c_putB (b := zf i) (v := nI (zf i)) x2 x4 (by rw [len1, ll]; omega) (by rw [lb_nI (by omega)]; omega)
    have uu : Un (fun r j => (r = 110 ∧ j = 1) ∨ r = 111) σ q2 := k2.trans (x3.trans w3)
    obtain ⟨q3, v1, v2, v3, v4⟩ := c_putRow (f := ff i) (n := 5) (A := 117 + 3 * i) w2 w4 (by omega) (by rw [len1, len1, ll]; omega) (tg_pfeet w2 i20) (ln_pfeet w2 i20) (by omega) (fun d hd => ⟨(y7 d hd).1, by rw [uu.i (by omega) (by omega) (by omega) (by omega)]; exact (y7 d hd).2.1⟩)
    have gs : gI s (116 + 3 * i) 0 = nI (sf i) := by rw [k2.i (by omega) (by omega) (by omega) (by omega)]; exact y3
    have gz : gI q1 (116 + 3 * i) 1 = nI (zf i) := by rw [(k2.trans x3).i (by omega) (by omega) (by omega) (by omega)]; exact y5
    refine ⟨q3, ?_, v2, uu.trans v3, v4⟩
    rw [q_X2_write_8, if_neg (nI_ge hi (by omega)), tg_104 k1, if_pos (by decide), ln_104 k1, if_neg (show ¬ Int32.ofNat 20 ≤ nI i from nI_ge (b := 20) i20 (by omega)), if_pos (aq s k1), ixn (by omega), gR_people k1 i20, zeR_e, tg_person k1 i20, if_pos rfl, tg_110 k1, if_pos rfl, gs, x1, zbV_e, if_pos (aq q1 x2), gR_people x2 i20, zeR_e, tg_person x2 i20, if_pos rfl, tg_110 x2, if_pos rfl, gz, w1, zbV_e, if_pos (aq q2 w2), gR_people w2 i20, zeR_e, tg_person w2 i20, if_pos rfl, gR_pfeet w2 i20, zeR_e, tg_110 w2, if_pos rfl, v1, zbV_e, q_X2_write_33, nI_1]) s1 ⟨a2, u1, a4⟩
  obtain ⟨s3, e3, c1, c2, c3⟩ := lp_run (F := fun i (s : zS) => zR 3 18 37 [some (.ref 110), some (.ref 104), some (.int (nI np)), some (.ref P), some (.int (nI i))] [] s) (fun i s => Sh s ∧ Un (fun r j => (r = 110 ∧ j = 1) ∨ r = 111) σ s ∧ CI s (pBy np sf zf ff np ++ rowB hf (3 * i))) N (by
    rintro i s hi ⟨k1, k2, k3⟩
    have i8 : i < 8 := by omega
    have ll : (pBy np sf zf ff np ++ rowB hf (3 * i)).length = 1 + 12 * np + 6 * i := by rw [List.length_append, pBy_len, rowB_len]; omega
    have g5' : gI s P 5 = nI N := by rw [k2.i (by omega) (by omega) (by omega) (by omega)]; exact h1.1.1
    obtain ⟨q3, v1, v2, v3, v4⟩ := c_putRow (f := fun r => hf (3 * i + r)) (n := 3) (A := P + 9 + 2 * i) k1 k3 (by omega) (by rw [ll]; omega) (tg_Pruns k1 hP i8) (ln_Pruns k1 hP i8) (by omega) (fun r hr => ⟨(fam2 i hi r hr).1, by rw [k2.i (by omega) (by omega) (by omega) (by omega)]; exact (fam2 i hi r hr).2.1⟩)
    refine ⟨q3, ?_, v2, k2.trans v3, by rw [rowB_3, ← List.append_assoc]; exact v4⟩
    rw [q_X2_write_37, tg_P k1 hP, if_pos rfl, g5', if_neg (nI_ge hi (by omega)), if_pos rfl, gR_P_0 k1 hP, zeR_e, if_pos (ai_nI (.inl (tg_P1 k1 hP)) (ln_P1 k1 hP) i8 (by omega)), ixn (by omega), gR_Plast k1 hP i8, zeR_e, tg_Plast k1 hP i8, if_pos rfl, gR_Pruns k1 hP i8, zeR_e, tg_110 k1, if_pos rfl, v1, zbV_e, nI_1]) s2 ⟨b1, b2, by show CI s2 (pBy np sf zf ff np ++ []); rw [List.append_nil]; exact b3⟩
  have ll : (pBy np sf zf ff np ++ rowB hf (3 * N)).length = 1 + 12 * np + 6 * N := by rw [List.length_append, pBy_len, rowB_len]; omega
  generalize hL : pBy np sf zf ff np ++ rowB hf (3 * N) = L at c3 ll
  have ck := c_check c1 c3 (by rw [ll]; omega)
  have cl := ckn_lt (L := L) L.length
  obtain ⟨σ1, d1, d2, d3, d4⟩ := c_putB (b := ckn L L.length) (v := nI (ckn L L.length)) c1 c3 (by rw [ll]; omega) (by rw [lb_nI (by omega)]; omega)
  have uc : Un (fun r j => (r = 110 ∧ j = 1) ∨ r = 111) σ σ1 := c2.trans d3
  have g5' : gI s3 P 5 = nI N := by rw [c2.i (by omega) (by omega) (by omega) (by omega)]; exact h1.1.1
  -- the reference
  have rf : ∀ r j, 112 ≤ r → r < 253 → j < 100 → gI σ1 r j = gI σ r j := fun r j x y v => by rw [uc.i (by omega) (by omega) v (by omega)]
  have R0 : Sh (sI σ1 176 97 0) := d2.sI (by omega)
  have ri0 : RI (sI σ1 176 97 0) [] := ⟨by rw [gI_sI, if_pos ⟨rfl, rfl⟩]; rfl, fun j hj => absurd hj (Nat.not_lt_zero j), fun j => by rw [List.getD_nil]; omega⟩
  have g70 : gI (sI σ1 176 97 0) 176 70 = nI np := by rw [gI_sI, if_neg (by omega), rf _ _ (by omega) (by omega) (by omega)]; exact g8.2.2
  obtain ⟨r1, m1, m2, m3, m4⟩ := r_wr (b := np) R0 ri0 (by show 0 < 310; omega) (by omega)
  have v1 : Un (fun r j => (r = 176 ∧ j = 97) ∨ r = 252) σ1 r1 := (Un_sI (.inl ⟨rfl, rfl⟩)).trans m3
  obtain ⟨⟨r2, w2⟩, f2, o1, o2, o3⟩ := lp_run (F := fun i (u : zS × Option Value) => zR 3 314 9 [some (.ref 176), some (.int (nI i)), u.2] [] u.1) (fun i u => Sh u.1 ∧ Un (fun r j => (r = 176 ∧ j = 97) ∨ r = 252) σ1 u.1 ∧ RI u.1 (pBy np sf zf ff i)) np (by
    rintro i ⟨s, u⟩ hi ⟨k1, k2, k3⟩
    have k1 : Sh s := k1
    have k2 : Un (fun r j => (r = 176 ∧ j = 97) ∨ r = 252) σ1 s := k2
    have i20 : i < 20 := by omega
    obtain ⟨y1, y2, y3, y4, y5, y6, y7⟩ := fam i hi
    have ll := pBy_len (np := np) (sf := sf) (zf := zf) (ff := ff) i
    obtain ⟨q1, x1, x2, x3, x4⟩ := r_wr (b := sf i) k1 k3 (by rw [ll]; omega) y1
    obtain ⟨q2, w1, w2, w3, w4⟩ := r_wr (b := zf i) x2 x4 (by rw [len1, ll]; omega) y2
    have uu : Un (fun r j => (r = 176 ∧ j = 97) ∨ r = 252) σ1 q2 := k2.trans (x3.trans w3)
    obtain ⟨q3, z1, z2, z3, z4⟩ := lp_run (F := fun d (x : zS) => zR 3 314 27 [some (.ref 176), some (.int (nI i)), some (.int (nI d))] [] x) (fun d x => Sh x ∧ Un (fun r j => (r = 176 ∧ j = 97) ∨ r = 252) σ1 x ∧ RI x (pBy np sf zf ff i ++ [sf i] ++ [zf i] ++ rowB (ff i) d)) 5 (by
      rintro d x hd ⟨j1, j2, j3⟩
      have lx : (pBy np sf zf ff i ++ [sf i] ++ [zf i] ++ rowB (ff i) d).length = 1 + 12 * i + 2 + 2 * d := by rw [List.length_append, len1, len1, ll, rowB_len]
      have gf : gI x 234 (5 * i + d) = nI (ff i d) := by rw [j2.i (by omega) (by omega) (by omega) (by omega), rf _ _ (by omega) (by omega) (by omega)]; exact (y7 d hd).2.2
      obtain ⟨x', t1, t2, t3, t4⟩ := r_wr2 j1 j3 (by rw [lx]; omega) (y7 d hd).1
      refine ⟨x', ?_, t2, j2.trans t3, by show RI x' (pBy np sf zf ff i ++ [sf i] ++ [zf i] ++ (rowB (ff i) d ++ [ff i d / 256, ff i d % 256])); rw [← List.append_assoc]; exact t4⟩
      rw [q_X12_image_27, if_neg (show ¬ (5 : Int32) ≤ nI d from nI_ge (b := 5) hd (by omega)), tg_176 j1, if_pos rfl, gR_176_73 j1, zeR_e, nI_mulL 5 i, nI_add, if_pos (ai_nI (.inl (tg_234 j1)) (ln_234 j1) (show 5 * i + d < 100 by omega) (by omega)), if_pos rfl, ixn (by omega), gf, t1, zbV_e, nI_1]) q2 ⟨w2, uu, by show RI q2 (pBy np sf zf ff i ++ [sf i] ++ [zf i] ++ []); rw [List.append_nil]; exact w4⟩
    have gn : gI s 176 70 = nI np := by rw [k2.i (by omega) (by omega) (by omega) (by omega), rf _ _ (by omega) (by omega) (by omega)]; exact g8.2.2
    have gs : gI s 232 i = nI (sf i) := by rw [k2.i (by omega) (by omega) (by omega) (by omega), rf _ _ (by omega) (by omega) (by omega)]; exact y4
    have gz : gI q1 233 i = nI (zf i) := by rw [(k2.trans x3).i (by omega) (by omega) (by omega) (by omega), rf _ _ (by omega) (by omega) (by omega)]; exact y6
    refine ⟨(q3, some (.int (nI 5))), ?_, z2, z3, z4⟩
    show zR 3 314 9 [some (.ref 176), some (.int (nI i)), u] [] s = zR 3 314 9 [some (.ref 176), some (.int (nI (i + 1))), some (.int (nI 5))] [] q3
    rw [q_X12_image_9, tg_176 k1, if_pos rfl, gn, if_neg (nI_ge hi (by omega)), if_pos rfl, gR_176_71 k1, zeR_e, if_pos (ai_nI (.inl (tg_232 k1)) (ln_232 k1) i20 (by omega)), if_pos rfl, ixn (by omega), gs, x1, zbV_e, tg_176 x2, if_pos rfl, gR_176_72 x2, zeR_e, if_pos (ai_nI (.inl (tg_233 x2)) (ln_233 x2) i20 (by omega)), if_pos rfl, gz, w1, zbV_e]
    refine Eq.trans z1 ?_
    rw [q_X12_image_27, if_pos (show (5 : Int32) ≤ nI 5 by decide), nI_1]) (r1, none) ⟨m2, v1, m4⟩
  have o1 : Sh r2 := o1
  have o2 : Un (fun r j => (r = 176 ∧ j = 97) ∨ r = 252) σ1 r2 := o2
  obtain ⟨r3, f3, n1', n2', n3'⟩ := lp_run (F := fun i (s : zS) => zR 3 314 46 [some (.ref 176), some (.int (nI i)), w2] [] s) (fun i s => Sh s ∧ Un (fun r j => (r = 176 ∧ j = 97) ∨ r = 252) σ1 s ∧ RI s (pBy np sf zf ff np ++ rowB hf i)) (3 * N) (by
    rintro i s hi ⟨k1, k2, k3⟩
    have lx : (pBy np sf zf ff np ++ rowB hf i).length = 1 + 12 * np + 2 * i := by rw [List.length_append, pBy_len, rowB_len]
    have g3' : gI s 214 3 = nI N := by rw [k2.i (by omega) (by omega) (by omega) (by omega), rf _ _ (by omega) (by omega) (by omega)]; exact h1.1.2.2
    have fm := fam2 (i / 3) (by omega) (i % 3) (by omega)
    rw [show 3 * (i / 3) + i % 3 = i by omega] at fm
    have gf : gI s 235 i = nI (hf i) := by rw [k2.i (by omega) (by omega) (by omega) (by omega), rf _ _ (by omega) (by omega) (by omega)]; exact fm.2.2
    obtain ⟨s', t1, t2, t3, t4⟩ := r_wr2 k1 k3 (by rw [lx]; omega) fm.1
    refine ⟨s', ?_, t2, k2.trans t3, by show RI s' (pBy np sf zf ff np ++ (rowB hf i ++ [hf i / 256, hf i % 256])); rw [← List.append_assoc]; exact t4⟩
    rw [q_X12_image_46, tg_176 k1, if_pos rfl, r_lasts k1 g3', zbI_e, nI_mulL 3 N, if_neg (nI_ge hi (by omega)), tg_176 k1, if_pos rfl, gR_176_74 k1, zeR_e, if_pos (ai_nI (.inl (tg_235 k1)) (ln_235 k1) (show i < 24 by omega) (by omega)), if_pos rfl, ixn (by omega), gf, t1, zbV_e, nI_1]) r2 ⟨o1, o2, by show RI r2 (pBy np sf zf ff np ++ []); rw [List.append_nil]; exact o3⟩
  rw [hL] at n3'
  have rk := r_check n1' n3' (by rw [ll]; omega)
  obtain ⟨σ2, t1, t2, t3, t4⟩ := r_wr (b := ckn L L.length) n1' n3' (by rw [ll]; omega) (by omega)
  have ur : Un (fun r j => (r = 176 ∧ j = 97) ∨ r = 252) σ1 σ2 := n2'.trans t3
  have w : Un (fun r j => ((r = 110 ∧ j = 1) ∨ r = 111) ∨ (r = 176 ∧ j = 97) ∨ r = 252) σ σ2 := (uc.mono (fun r j _ _ q => .inl q)).trans (ur.mono (fun r j _ _ q => .inr q))
  have l2 : (L ++ [ckn L L.length]).length = L.length + 1 := len1
  have gl : gI σ1 110 1 = nI (L.length + 1) := by rw [d4.1, l2]
  have gr : gI σ2 176 97 = nI (L.length + 1) := by rw [t4.1, l2]
  have gn2 : gI r2 176 70 = nI np := by rw [o2.i (by omega) (by omega) (by omega) (by omega), rf _ _ (by omega) (by omega) (by omega)]; exact g8.2.2
  have g33 : gI r3 214 3 = nI N := by rw [n2'.i (by omega) (by omega) (by omega) (by omega), rf _ _ (by omega) (by omega) (by omega)]; exact h1.1.2.2
  refine ⟨nI (L.length + 1), σ1, σ2, ?_, d2, ?_, P, S, N, M, K, np, t, n, RR_mono (c := c) ⟨t2, Hs_un g2 w ⟨by omega, by omega⟩, Tp_un g3 g1 w ⟨fun j => by omega, fun j => by omega, by omega, by omega⟩, Ow_un g4 g1 w (fun r j a => by omega), Ft_un g5 w ⟨by omega, by omega, by omega, by omega⟩, ⟨HN_un h1 hP w (fun j _ _ => by omega) (fun j _ _ => by omega), HF_un h2 hP w ⟨by omega, by omega⟩ ⟨by omega, by omega⟩, HC_un h3 hP w (by omega) (by omega), HPl_un h4 hP w (fun j _ => by omega) (fun j _ _ => by omega), (fun k hk => HL_un (h5 k hk) (by omega) hP w (fun j _ => by omega) ⟨by omega, by omega⟩), (fun k hk => HO_un (h6 k hk) (by omega) hP w (fun j => ⟨by omega, by omega⟩) ⟨by omega, by omega, by omega, by omega, fun d _ => by omega⟩), (fun k hk => HQ_un (h7 k hk) (by omega) hP w (fun j => ⟨by omega, by omega⟩) ⟨by omega, fun d _ => by omega⟩), (fun k hk => HR_un (h8 k hk) (by omega) hP w (fun j => by omega) (fun r _ => by omega)), (fun k hk => HU_un (h9 k hk) (by omega) hP w (by omega) (by omega)), HS_un h10 n1 g1 hP w (fun j => by omega) (fun j _ => by omega)⟩, HD_un g7 g1 hP w ⟨by omega, by omega, fun j => by omega⟩ ⟨by omega, by omega, fun j => by omega, fun j => by omega⟩, PN_un g8 w ⟨by omega, by omega⟩, (fun p hp => by
          have hp20 : p < 20 := by omega
          obtain ⟨so, z, p1, p2, p3, p4, p5, p6, p7, p8⟩ := g9 p hp
          exact ⟨so, z, p1, p2, p3, PA_un p4 hp20 w ⟨by omega, by omega, by omega, by omega⟩, PF_un p5 hp20 g1 w ⟨fun d => by omega, fun d _ => by omega⟩, PB_un p6 hp20 w ⟨by omega, by omega, by omega, by omega⟩, PT_un p7 hp20 w ⟨by omega, by omega⟩, PK_un p8 hp20 p3 g1 w ⟨by omega, by omega, by omega, by omega, fun j => by omega, fun j _ _ => by omega⟩⟩), ⟨L.length + 1, by rw [ll]; omega, ?_, gr, fun j hj => ?_⟩, MS_un g11 w ⟨by omega, by omega, by omega, by omega⟩, (fun k hk => RUk_un (g12 k hk) hk g1 w ⟨by omega, by omega, by omega, fun r j a _ _ => by omega, fun j _ _ => by omega⟩), rm_un g13 w (fun j => by omega)⟩ (by omega)⟩
  · rw [q_X11_image, tg_6 hS, if_pos rfl, gR_6_14 hS, zeR_e, if_pos rfl, gR_6_9 hS, zeR_e, if_pos rfl, if_pos rfl, h65, zeR_e, tg_110 hS, if_pos rfl, g8.2.1, q_X2_write, tg_110 hS, if_pos rfl, zlt_e, tg_110 S0, if_pos rfl, a1, zbV_e]
    have e2 : zR 3 18 8 [some (.ref 110), some (.ref 104), some (.int (nI np)), some (.ref P), some (.int 0)] [] s1 = zR 3 18 8 [some (.ref 110), some (.ref 104), some (.int (nI np)), some (.ref P), some (.int (nI np))] [] s2 := e2
    have e3 : zR 3 18 37 [some (.ref 110), some (.ref 104), some (.int (nI np)), some (.ref P), some (.int 0)] [] s2 = zR 3 18 37 [some (.ref 110), some (.ref 104), some (.int (nI np)), some (.ref P), some (.int (nI N))] [] s3 := e3
    rw [e2, q_X2_write_8, if_pos (nI_le (Nat.le_refl _) (by omega)), e3, q_X2_write_37, tg_P c1 hP, if_pos rfl, g5', if_pos (nI_le (Nat.le_refl _) (by omega)), tg_110 c1, if_pos rfl, gR_110_0 c1, zeR_e, if_pos rfl, c3.1, ck, zbI_e, tg_110 c1, if_pos rfl, d1, zbV_e, tg_110 d2, if_pos rfl, gl, zbI_e]
  · rw [q_X12_image, tg_176 d2, if_pos rfl, zlt_e, tg_176 R0, if_pos rfl, if_pos rfl, g70, m1, zbV_e]
    refine Eq.trans f2 ?_
    show zR 3 314 9 [some (.ref 176), some (.int (nI np)), w2] [] r2 = _
    rw [q_X12_image_9, tg_176 o1, if_pos rfl, gn2, if_pos (nI_le (Nat.le_refl _) (by omega))]
    refine Eq.trans f3 ?_
    rw [q_X12_image_46, tg_176 n1', if_pos rfl, r_lasts n1' g33, zbI_e, nI_mulL 3 N, if_pos (nI_le (Nat.le_refl _) (by omega)), tg_176 n1', if_pos rfl, gR_176_96 n1', zeR_e, if_pos rfl, n3'.1, rk, zbI_e, tg_176 n1', if_pos rfl, t1, zbV_e, tg_176 t2, if_pos rfl, gr]
  · rw [ur.i (by omega) (by omega) (by omega) (by omega)]; exact gl
  · refine ⟨(L ++ [ckn L L.length]).getD j 0, d4.2.2 j, ?_, t4.2.1 j (by rw [l2]; exact hj)⟩
    rw [ur.iA (by omega) (by omega) (by rw [tg_111 d2]; omega) (by omega)]; exact d4.2.1 j (by rw [l2]; exact hj)
end
