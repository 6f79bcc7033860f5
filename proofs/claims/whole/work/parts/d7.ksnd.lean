/-! send: both answer alike -/
def chs (z b : Nat) (y : Int32) (s : Nat → Int32) : Nat → Nat → Int32
  | 0, j => s j
  | e + 1, j => if b / 2 ^ e % 2 = 1 ∧ j = z + e - 32 then chs z b y s e j + y else chs z b y s e j
section
variable {σ σ' σ1 σ2 : zS} {s : Nat → Int32} {zf : Nat → Nat} {B P S N M K np c n b e y o d r p0 p k so z : Nat} {t : Nat → Nat}
theorem plc_n (hk : k < 8) (hz : 30 ≤ z ∧ z ≤ 49) (he : e < 5) (h : 32 ≤ z + e ∧ z + e ≤ 51) : nI k * 20 + (nI z + nI e - 2) - 30 = nI (20 * k + (z + e - 32)) := by
  rw [nI_mulR 20 k, nI_add, nI_subR (n := 2) (by omega), nI_add, nI_subR (n := 30) (by omega)]
  congr 1
  omega
theorem plr_n (hk : k < 8) (hz : 30 ≤ z ∧ z ≤ 49) (he : e < 5) (h : 32 ≤ z + e ∧ z + e ≤ 51) : (160 : Int32) + 20 * nI k + (nI z + nI e - 2) - 30 = nI (160 + (20 * k + (z + e - 32))) := by
  rw [nI_mulL 20 k, nI_addL 160 (20 * k), nI_add, nI_subR (n := 2) (by omega), nI_add, nI_subR (n := 30) (by omega)]
  congr 1
  omega
theorem c_change (hS : Sh σ) (hP : HP P) (hk : k < 8) (hz : 30 ≤ z ∧ z ≤ 49) (hb : b < 32) (hi : inz z b) (y : Int32) (hs : ∀ j, j < 20 → gI σ (P + 6) (20 * k + j) = s j) : ∃ σ', zM 87 [.ref (P + 5), .int (nI k), .int (nI z), .int (nI b), .int y] σ = some (none, σ') ∧ Sh σ' ∧ Un (fun r j => r = P + 6 ∧ 20 * k ≤ j ∧ j < 20 * k + 20) σ σ' ∧ ∀ j, j < 20 → gI σ' (P + 6) (20 * k + j) = chs z b y s 5 j := by
  have hbb := HPb hP
  obtain ⟨s1, e1, k1, k2, k3⟩ := lp_run (F := fun e (g : zS) => zR 2 87 2 [some (.ref (P + 5)), some (.int (nI k)), some (.int (nI z)), some (.int (nI b)), some (.int y), some (.int (nI e))] [] g) (fun e g => Sh g ∧ Un (fun r j => r = P + 6 ∧ 20 * k ≤ j ∧ j < 20 * k + 20) σ g ∧ ∀ j, j < 20 → gI g (P + 6) (20 * k + j) = chs z b y s e j) 5 (by
    rintro e g he ⟨k1, k2, k3⟩
    have st : ∀ j, chs z b y s (e + 1) j = if b / 2 ^ e % 2 = 1 ∧ j = z + e - 32 then chs z b y s e j + y else chs z b y s e j := fun _ => rfl
    rcases (show b / 2 ^ e % 2 = 0 ∨ b / 2 ^ e % 2 = 1 by omega) with q | q
    · refine ⟨g, ?_, k1, k2, fun j hj => ?_⟩
      · rw [q_X9_change_2, if_neg (show ¬ (5 : Int32) ≤ nI e from nI_ge (b := 5) he (by omega)), c_inb hb (by omega), zbI_e, q, if_pos (by decide), nI_1]
      · rw [st, if_neg (fun x => by omega)]; exact k3 j hj
    · have rg := hi e he q
      refine ⟨sI g (P + 6) (20 * k + (z + e - 32)) (gI g (P + 6) (20 * k + (z + e - 32)) + y), ?_, k1.sI (by omega), k2.trans (Un_sI (by omega)), fun j hj => ?_⟩
      · rw [q_X9_change_2, if_neg (show ¬ (5 : Int32) ≤ nI e from nI_ge (b := 5) he (by omega)), c_inb hb (by omega), zbI_e, q, if_neg (by decide), tg_P5 k1 hP, if_pos rfl, gR_P5_0 k1 hP, zeR_e, q_X9_placeOf, zbI_e, plc_n hk hz he rg, if_pos (ai_nI (.inl (tg_P6 k1 hP)) (ln_P6 k1 hP) (show 20 * k + (z + e - 32) < 160 by omega) (by omega)), if_pos (ai_nI (.inl (tg_P6 k1 hP)) (ln_P6 k1 hP) (show 20 * k + (z + e - 32) < 160 by omega) (by omega)), zlt_e, ixn (by omega), nI_1]
      · rw [st, gI_sI]
        by_cases q2 : j = z + e - 32
        · rw [if_pos ⟨rfl, by rw [q2]⟩, if_pos ⟨q, q2⟩, ← q2, k3 j hj]
        · rw [if_neg (fun x => q2 (by omega)), if_neg (fun x => q2 x.2)]; exact k3 j hj) σ ⟨hS, Un.refl _ _, hs⟩
  refine ⟨s1, ?_, k1, k2, k3⟩
  rw [q_X9_change]
  refine Eq.trans e1 ?_
  rw [q_X9_change_2, if_pos (show (5 : Int32) ≤ nI 5 by decide)]
theorem sub1 (x : Int32) : x - 1 = x + -1 := Int32.sub_eq_add_neg x 1
theorem r_sent (hS : Sh σ) (hp : p < 20) (hk : k < 8) (h1 : gI σ 233 p = nI z) (hz : 30 ≤ z ∧ z ≤ 49) (hb : b < 32) (hi : inz z b) (hs : ∀ j, j < 20 → gI σ 224 (160 + (20 * k + j)) = s j) : ∃ σ', zM 277 [.ref 176, .int (nI p), .int (nI k), .int (nI b)] σ = some (none, σ') ∧ Sh σ' ∧ Un (fun r j => (r = 224 ∧ 160 + 20 * k ≤ j ∧ j < 160 + 20 * k + 20) ∨ ((r = 238 ∨ r = 239) ∧ j = p)) σ σ' ∧ (∀ j, j < 20 → gI σ' 224 (160 + (20 * k + j)) = chs z b (-1) s 5 j) ∧ gI σ' 238 p = nI k ∧ gI σ' 239 p = nI b := by
  have hS0 : Sh (sI (sI σ 238 p (nI k)) 239 p (nI b)) := (hS.sI (by omega)).sI (by omega)
  obtain ⟨s1, e1, k1, k2, k3⟩ := lp_run (F := fun e (g : zS) => zR 2 277 12 [some (.ref 176), some (.int (nI p)), some (.int (nI k)), some (.int (nI b)), some (.int (nI e))] [] g) (fun e g => Sh g ∧ Un (fun r j => r = 224 ∧ 160 + 20 * k ≤ j ∧ j < 160 + 20 * k + 20) (sI (sI σ 238 p (nI k)) 239 p (nI b)) g ∧ ∀ j, j < 20 → gI g 224 (160 + (20 * k + j)) = chs z b (-1) s e j) 5 (by
    rintro e g he ⟨k1, k2, k3⟩
    have st : ∀ j, chs z b (-1) s (e + 1) j = if b / 2 ^ e % 2 = 1 ∧ j = z + e - 32 then chs z b (-1) s e j + -1 else chs z b (-1) s e j := fun _ => rfl
    have hz1 : gI g 233 p = nI z := by rw [k2.i (by omega) (by omega) (by omega) (by omega), gI_sI, if_neg (by omega), gI_sI, if_neg (by omega)]; exact h1
    rcases (show b / 2 ^ e % 2 = 0 ∨ b / 2 ^ e % 2 = 1 by omega) with q | q
    · refine ⟨g, ?_, k1, k2, fun j hj => ?_⟩
      · rw [q_X12_sent_12, if_neg (show ¬ (5 : Int32) ≤ nI e from nI_ge (b := 5) he (by omega)), bit_sh b hb e (by omega), q, if_neg (by decide), nI_1]
      · rw [st, if_neg (fun x => by omega)]; exact k3 j hj
    · have rg := hi e he q
      refine ⟨sI g 224 (160 + (20 * k + (z + e - 32))) (gI g 224 (160 + (20 * k + (z + e - 32))) + -1), ?_, k1.sI (by omega), k2.trans (Un_sI (by omega)), fun j hj => ?_⟩
      · rw [q_X12_sent_12, if_neg (show ¬ (5 : Int32) ≤ nI e from nI_ge (b := 5) he (by omega)), bit_sh b hb e (by omega), q, if_pos (by decide), tg_176 k1, if_pos rfl, gR_176_57 k1, zeR_e, if_pos rfl, gR_176_72 k1, zeR_e, if_pos (ai_nI (.inl (tg_233 k1)) (ln_233 k1) hp (by omega)), if_pos rfl, ixn (show p < 2 ^ 31 by omega), hz1, q_X12_stockAt, zbI_e, plr_n hk hz he rg, if_pos (ai_nI (.inl (tg_224 k1)) (ln_224 k1) (show 160 + (20 * k + (z + e - 32)) < 320 by omega) (by omega)), if_pos (ai_nI (.inl (tg_224 k1)) (ln_224 k1) (show 160 + (20 * k + (z + e - 32)) < 320 by omega) (by omega)), zlt_e, ixn (by omega), nI_1, sub1]
      · rw [st, gI_sI]
        by_cases q2 : j = z + e - 32
        · rw [if_pos ⟨rfl, by rw [q2]⟩, if_pos ⟨q, q2⟩, ← q2, k3 j hj]
        · rw [if_neg (fun x => q2 (by omega)), if_neg (fun x => q2 x.2)]; exact k3 j hj) _ ⟨hS0, Un.refl _ _, fun j hj => by rw [gI_sI, if_neg (by omega), gI_sI, if_neg (by omega)]; exact hs j hj⟩
  have hS1 : Sh (sI σ 238 p (nI k)) := hS.sI (by omega)
  refine ⟨s1, ?_, k1, ((Un_sI (by omega)).trans (Un_sI (by omega))).trans (k2.mono (fun r j _ _ q => .inl q)), k3, ?_, ?_⟩
  · rw [q_X12_sent, tg_176 hS, if_pos rfl, gR_176_77 hS, zeR_e, if_pos (ai_nI (.inl (tg_238 hS)) (ln_238 hS) hp (by omega)), zlt_e, ixn (by omega), tg_176 hS1, if_pos rfl, gR_176_78 hS1, zeR_e, if_pos (ai_nI (.inl (tg_239 hS1)) (ln_239 hS1) hp (by omega)), zlt_e]
    refine Eq.trans e1 ?_
    rw [q_X12_sent_12, if_pos (show (5 : Int32) ≤ nI 5 by decide)]
  · rw [k2.i (by omega) (by omega) (by omega) (by omega), gI_sI, if_neg (by omega), gI_sI, if_pos ⟨rfl, rfl⟩]
  · rw [k2.i (by omega) (by omega) (by omega) (by omega), gI_sI, if_pos ⟨rfl, rfl⟩]
theorem c_canSend (hS : Sh σ) (hP : HP P) (h65 : gR σ 6 5 = some P) (hp : p < 20) (hk : k < 8) (h1 : gI σ (116 + 3 * p) 1 = nI z) (hz : 30 ≤ z ∧ z ≤ 49) (hb : b < 32) (hi : inz z b) (hs : ∀ j, j < 20 → gI σ (P + 6) (20 * k + j) = s j) : zM 157 [.ref 6, .ref (116 + 3 * p), .int (nI k), .int (nI b)] σ = some (some (.int (bI (decide (gI σ (116 + 3 * p) 6 = 0) && stq s z b 5))), σ) := by
  rw [q_X11_canSendNow, tg_person hS hp, if_pos rfl, q_X4_hasBox, tg_person hS hp, if_pos rfl]
  by_cases q : gI σ (116 + 3 * p) 6 = 0
  · rw [if_pos q, zbI_e, if_pos rfl, tg_6 hS, if_pos rfl, h65, zeR_e, tg_P hS hP, if_pos rfl, gR_P_4 hS hP, zeR_e, tg_person hS hp, if_pos rfl, tg_P5 hS hP, if_pos rfl, h1, c_hasAll hS hP hk hz hb hi hs, zbI_e, decide_eq_true q, Bool.true_and]
    cases stq s z b 5 with
    | true => rw [if_neg (by decide)]; rfl
    | false => rw [if_pos (by decide)]; rfl
  · rw [if_neg q, zbI_e, if_neg (by decide), decide_eq_false q]; rfl
theorem c_sendNow (hS : Sh σ) (hP : HP P) (h65 : gR σ 6 5 = some P) (hp : p < 20) (hk : k < 8) (h1 : gI σ (116 + 3 * p) 1 = nI z) (hz : 30 ≤ z ∧ z ≤ 49) (hb : b < 32) (hi : inz z b) (hs : ∀ j, j < 20 → gI σ (P + 6) (20 * k + j) = s j) : ∃ σ', zM 158 [.ref 6, .ref (116 + 3 * p), .int (nI k), .int (nI b)] σ = some (none, σ') ∧ Sh σ' ∧ Un (fun r j => (r = P + 6 ∧ 20 * k ≤ j ∧ j < 20 * k + 20) ∨ (r = 116 + 3 * p ∧ (j = 5 ∨ j = 6))) σ σ' ∧ (∀ j, j < 20 → gI σ' (P + 6) (20 * k + j) = chs z b (-1) s 5 j) ∧ gI σ' (116 + 3 * p) 5 = nI k ∧ gI σ' (116 + 3 * p) 6 = nI b := by
  have hbb := HPb hP
  obtain ⟨s1, a1, a2, a3, a4⟩ := c_change hS hP hk hz hb hi (-1) hs
  have hS2 : Sh (sI s1 (116 + 3 * p) 5 (nI k)) := a2.sI (by omega)
  refine ⟨sI (sI s1 (116 + 3 * p) 5 (nI k)) (116 + 3 * p) 6 (nI b), ?_, hS2.sI (by omega), (a3.mono (fun r j _ _ q => .inl q)).trans ((Un_sI (by omega)).trans (Un_sI (by omega))), fun j hj => ?_, ?_, ?_⟩
  · rw [q_X11_sendNow, tg_6 hS, if_pos rfl, h65, zeR_e, tg_P hS hP, if_pos rfl, gR_P_4 hS hP, zeR_e, tg_person hS hp, if_pos rfl, tg_P5 hS hP, if_pos rfl, h1, a1, zbV_e, tg_person a2 hp, if_pos rfl, zlt_e, tg_person hS2 hp, if_pos rfl, zlt_e]
  · rw [gI_sI, if_neg (by omega), gI_sI, if_neg (by omega)]; exact a4 j hj
  · rw [gI_sI, if_neg (by omega), gI_sI, if_pos ⟨rfl, rfl⟩]
  · rw [gI_sI, if_pos ⟨rfl, rfl⟩]
theorem PB_or (h : PB σ N p z) (hN : N ≤ 8) : (gI σ (116 + 3 * p) 6 = 0 ∧ gI σ 238 p = -1) ∨ (¬ gI σ (116 + 3 * p) 6 = 0 ∧ ¬ gI σ 238 p = -1) := by
  have e := PB_0 h hN
  by_cases q : gI σ (116 + 3 * p) 6 = 0
  · exact .inl ⟨q, by rw [← e]; exact q⟩
  · exact .inr ⟨q, by rw [← e]; exact q⟩
theorem op_send (h : RR B σ c P S N M K np t n) (a l x : Int32) : Al B σ c 156 [.ref 6, .int a, .int l, .int x] 278 [.ref 176, .int a, .int l, .int x] := by
  have hS := h.1
  have hP := h.2.1.1
  have hbb := HPb hP
  have p20 := (RR_pn h).1
  have n8 := (RR_hn h).1.2.1
  have h65 := h.2.1.2.2.2.1
  obtain ⟨zf, hz⟩ := RR_zf h
  by_cases hq : BX np N zf a l x
  · have hq' := hq
    obtain ⟨p, k, b, hp, hk, b1, b2, b3, b4, rfl, rfl, rfl⟩ := hq
    have hp20 : p < 20 := by omega
    have hk8 : k < 8 := by omega
    obtain ⟨z1, z2, z3, z4⟩ := hz p hp
    obtain ⟨s, t1, t2⟩ := RR_st h hk
    have pe := h.2.2.2.2.2.2.2.2.1 p hp
    have bi := bz_inz b4
    have ap := ai_nI (σ := σ) (t := 69) (u := 69) (.inl (tg_104 hS)) (ln_104 hS) hp20 (by omega)
    have cS := c_canSend hS hP h65 hp20 hk8 z3 ⟨z1, z2⟩ b2 bi t1
    have rS := r_stock hS hp20 hk8 z4 ⟨z1, z2⟩ b2 bi t2
    have pb : (gI σ (116 + 3 * p) 6 = 0 ∧ gI σ 238 p = -1) ∨ (¬ gI σ (116 + 3 * p) 6 = 0 ∧ ¬ gI σ 238 p = -1) := by
      obtain ⟨so, z, -, -, -, -, -, p6, -⟩ := pe
      exact PB_or p6 n8
    by_cases qs : (gI σ (116 + 3 * p) 6 = 0 ∧ gI σ 238 p = -1) ∧ stq s (zf p) b 5 = true
    · obtain ⟨⟨q6, q238⟩, qs⟩ := qs
      obtain ⟨σ1, e1, e2, e3, e4, e5, e6⟩ := c_sendNow hS hP h65 hp20 hk8 z3 ⟨z1, z2⟩ b2 bi t1
      have z4' : gI σ1 233 p = nI (zf p) := by rw [e3.i (by omega) (by omega) (by omega) (by omega)]; exact z4
      have t2' : ∀ j, j < 20 → gI σ1 224 (160 + (20 * k + j)) = s j := fun j hj => by rw [e3.iA (by omega) (by omega) (by rw [tg_224 hS]; omega) (by omega)]; exact t2 j hj
      obtain ⟨σ2, f1, f2, f3, f4, f5, f6⟩ := r_sent e2 hp20 hk8 z4' ⟨z1, z2⟩ b2 bi t2'
      have w : Un (fun r j => ((r = P + 6 ∧ 20 * k ≤ j ∧ j < 20 * k + 20) ∨ (r = 116 + 3 * p ∧ (j = 5 ∨ j = 6))) ∨ (r = 224 ∧ 160 + 20 * k ≤ j ∧ j < 160 + 20 * k + 20) ∨ ((r = 238 ∨ r = 239) ∧ j = p)) σ σ2 := (e3.mono (fun r j _ _ q => .inl q)).trans (f3.mono (fun r j _ _ q => .inr q))
      have wx : Un (XP P p k) σ σ2 := w.mono (fun r j _ _ q => by
        unfold XP
        rcases q with (q | q) | q | q
        · exact .inr (.inr (.inr (.inr (.inr (.inr (.inl q.1))))))
        · exact .inr (.inr (.inr (.inr (.inr (.inr (.inr (.inr (.inr (.inr (.inr (.inr (.inr (.inl ⟨q.1, by omega, by omega⟩)))))))))))))
        · exact .inr (.inr (.inr (.inr (.inr (.inr (.inr (.inl ⟨q.1, by omega⟩)))))))
        · exact .inr (.inr (.inr (.inr (.inr (.inr (.inr (.inr (.inr (.inr (.inr (.inr (.inr (.inr (.inr (.inr (.inl ⟨by omega, q.2⟩)))))))))))))))))
      have h2 : RR B σ2 (c + 1) P S N M K np t n := by
        have hR := h
        have hS := h.1
        have hP := h.2.1.1
        have hb := HPb hP
        obtain ⟨g1, g2, g3, g4, g5, ⟨h1, h2, h3, h4, h5, h6, h7, h8, h9, h10⟩, g7, g8, g9, g10, g11, g12, g13⟩ := h
        have n1 := h1.1.2.1
        have n2 := h1.2.1.2.1
        have n3 := h1.2.2.2.1
        have n4 := g8.1
        refine RR_pk hR hp hk wx f2 (fun j hj => ?_) (HD_mono (HD_un g7 g1 hP w ⟨by omega, by omega, fun j => by omega⟩ ⟨by omega, by omega, fun j => by omega, fun j => by omega⟩) (by omega)) (MS_un g11 w ⟨by omega, by omega, by omega, by omega⟩) ?_ (HR_un (h8 k hk) (by omega) hP w (fun j => by omega) (fun r _ => by omega)) (by
          obtain ⟨m, y1, y2⟩ := g13.2.2 p (by omega)
          refine ⟨m, by omega, ?_⟩
          rw [w.i (by omega) (by omega) (by omega) (by omega)]; exact y2)
        · by_cases q : 20 * k ≤ j ∧ j < 20 * k + 20
          · have ej : 20 * k + (j - 20 * k) = j := by omega
            have x1 := e4 (j - 20 * k) (by omega)
            have x2 := f4 (j - 20 * k) (by omega)
            rw [ej] at x1 x2
            rw [f3.iA (by omega) (by omega) (by rw [tg_P6 e2 hP]; omega) (by omega), x1, x2]
          · rw [w.iA (by omega) (by omega) (by rw [tg_P6 hS hP]; omega) (by omega), w.iA (by omega) (by omega) (by rw [tg_224 hS]; omega) (by omega)]
            exact h10 j hj
        · obtain ⟨so, z, p1, p2, p3, p4, p5, p6, p7, p8⟩ := g9 p hp
          have ez : z = zf p := by
            have := p4.2.2.2
            rw [z4] at this
            exact ((nI_eq (by omega) (by omega)).mp this).symm
          refine ⟨so, z, p1, p2, p3, PA_un p4 hp20 w ⟨by omega, by omega, by omega, by omega⟩, PF_un p5 hp20 g1 w ⟨fun d => by omega, fun d _ => by omega⟩, .inr ⟨k, b, hk, b1, b2, b3, by rw [ez]; exact bi, ?_, f5, ?_, f6⟩, PT_un p7 hp20 w ⟨by omega, by omega⟩, PK_un p8 hp20 p3 g1 w ⟨by omega, by omega, by omega, by omega, fun j => by omega, fun j _ _ => by omega⟩⟩
          · rw [f3.i (by omega) (by omega) (by omega) (by omega)]; exact e5
          · rw [f3.i (by omega) (by omega) (by omega) (by omega)]; exact e6
      have cc := c_boxG e2 (np := np) (by rw [e3.i (by omega) (by omega) (by omega) (by omega)]; exact (RR_pn h).2.1) p20
      have ec : cnt (fun k => !decide (gI σ1 (116 + 3 * k) 6 = 0)) np = cnt (fun k => !decide (gI σ2 238 k = -1)) np := cnt_congr np (fun i hi => by
        obtain ⟨so, z, -, -, -, -, -, p6, -⟩ := h2.2.2.2.2.2.2.2.2.1 i hi
        have := PB_0 p6 n8
        rw [f3.i (by omega) (by omega) (by omega) (by omega)] at this
        have d : decide (gI σ1 (116 + 3 * i) 6 = 0) = decide (gI σ2 238 i = -1) := decide_eq_decide.mpr (by rw [this])
        rw [d])
      refine ⟨nI (cnt (fun k => !decide (gI σ2 238 k = -1)) np), σ1, σ2, ?_, e2, ?_, P, S, N, M, K, np, t, n, h2⟩
      · rw [q_X11_send, tg_6 hS, if_pos rfl, (c_isBox h hz _ _ _).1 hq', zbI_e, if_neg (by decide), tg_6 hS, if_pos rfl, gR_6_9 hS, zeR_e, if_pos ap, ixn (by omega), gR_people hS hp20, zeR_e, if_pos rfl, cS, zbI_e, decide_eq_true q6, qs, if_neg (by decide), tg_6 hS, if_pos rfl, gR_6_9 hS, zeR_e, if_pos ap, gR_people hS hp20, zeR_e, if_pos rfl, e1, zbV_e, q_X11_send_25, tg_6 e2, if_pos rfl, cc, zbI_e, ec]
      · have h238 : gI σ1 238 p = -1 := by rw [e3.i (by omega) (by omega) (by omega) (by omega)]; exact q238
        have rS' := r_stock e2 hp20 hk8 z4' ⟨z1, z2⟩ b2 bi t2'
        have rb := r_isBoxG (zf := zf) e2 (np := np) (N := N) (by rw [e3.i (by omega) (by omega) (by omega) (by omega)]; exact (RR_pn h).2.2) p20 (by rw [e3.i (by omega) (by omega) (by omega) (by omega)]; exact (RR_hn h).1.2.2) n8 (fun p' hp' => ⟨(hz p' hp').1, (hz p' hp').2.1, by rw [e3.i (by omega) (by omega) (by omega) (by omega)]; exact (hz p' hp').2.2.2⟩) (nI p) (nI k) (nI b)
        rw [q_X12_send, tg_176 e2, if_pos rfl, rb.1 hq', zbI_e, if_neg (by decide), tg_176 e2, if_pos rfl, gR_176_77 e2, zeR_e, if_pos (ai_nI (.inl (tg_238 e2)) (ln_238 e2) hp20 (by omega)), ixn (by omega), if_pos h238, if_pos rfl, rS', zbI_e, qs, if_neg (by decide), tg_176 e2, if_pos rfl, f1, zbV_e, q_X12_send_25, tg_176 f2, if_pos rfl, q_X12_has, if_neg (by decide), if_neg (by decide), if_neg (by decide), if_neg (by decide), if_neg (by decide), if_neg (by decide), if_neg (by decide), if_neg (by decide), if_pos rfl, r_boxes h2, zbI_e]
    · refine Al_rd h (-1) ?_ ?_
      · have : (decide (gI σ (116 + 3 * p) 6 = 0) && stq s (zf p) b 5) = false := by
          rcases pb with pb | pb
          · have : stq s (zf p) b 5 = false := by
              cases y : stq s (zf p) b 5 with
              | true => exact absurd ⟨pb, y⟩ qs
              | false => rfl
            rw [this, Bool.and_false]
          · rw [decide_eq_false pb.1, Bool.false_and]
        rw [q_X11_send, tg_6 hS, if_pos rfl, (c_isBox h hz _ _ _).1 hq', zbI_e, if_neg (by decide), tg_6 hS, if_pos rfl, gR_6_9 hS, zeR_e, if_pos ap, ixn (by omega), gR_people hS hp20, zeR_e, if_pos rfl, cS, zbI_e, this, if_pos (by decide)]
      · rw [q_X12_send, tg_176 hS, if_pos rfl, (r_isBox h hz _ _ _).1 hq', zbI_e, if_neg (by decide), tg_176 hS, if_pos rfl, gR_176_77 hS, zeR_e, if_pos (ai_nI (.inl (tg_238 hS)) (ln_238 hS) hp20 (by omega)), ixn (by omega)]
        rcases pb with pb | pb
        · have : stq s (zf p) b 5 = false := by
            cases y : stq s (zf p) b 5 with
            | true => exact absurd ⟨pb, y⟩ qs
            | false => rfl
          rw [if_pos pb.2, if_pos rfl, rS, zbI_e, this, if_pos (by decide)]
        · rw [if_neg pb.2]
  · refine Al_rd h (-1) ?_ ?_
    · rw [q_X11_send, tg_6 hS, if_pos rfl, (c_isBox h hz a l x).2 hq, zbI_e, if_pos rfl]
    · rw [q_X12_send, tg_176 hS, if_pos rfl, (r_isBox h hz a l x).2 hq, zbI_e, if_pos rfl]
end
