/-! from the law's entry to the clean machine; laid by wip/whole/gen/klaw.py -/
set_option maxRecDepth 100000 in
theorem zls_0 : Cond.laysStatic "ThreeSizes$Tokens" "PLACES" "[I" ∈ lw_tbl := zt1 (List.mem_of_getElem? (i := 86) rfl)
set_option maxRecDepth 100000 in
theorem zli_0 : Cond.initialized "ThreeSizes$Tokens" ∈ lw_tbl := zt1 (List.mem_of_getElem? (i := 2) rfl)
set_option maxRecDepth 100000 in
theorem zls_1 : Cond.laysStatic "java/lang/String" "COMPACT_STRINGS" "Z" ∈ lw_tbl := zt1 (List.mem_of_getElem? (i := 46) rfl)
set_option maxRecDepth 100000 in
theorem zli_1 : Cond.initialized "java/lang/String" ∈ lw_tbl := zt1 (List.mem_of_getElem? (i := 3) rfl)
set_option maxRecDepth 100000 in
theorem zls_2 : Cond.laysStatic "jdk/internal/util/Preconditions" "SIOOBE_FORMATTER" "Ljava/util/function/BiFunction;" ∈ lw_tbl := zt1 (List.mem_of_getElem? (i := 62) rfl)
set_option maxRecDepth 100000 in
theorem zli_2 : Cond.initialized "jdk/internal/util/Preconditions" ∈ lw_tbl := zt1 (List.mem_of_getElem? (i := 5) rfl)
set_option maxRecDepth 100000 in
theorem zsr : Cond.stringRef "ThreeSizes$Tokens" 26 zTxS ∈ lw_tbl := zt1 (List.mem_of_getElem? (i := 36) rfl)
def zflat : List Cond := flatC (Jvm.Cond.and given_1 narrow_1)
set_option maxRecDepth 100000 in
theorem zn_1 : Cond.eq (.static "java/lang/String" "COMPACT_STRINGS" "Z") (.int 1) ∈ zflat := by decide +kernel
set_option maxRecDepth 100000 in
theorem zn_2 : Cond.isRef (.static "jdk/internal/util/Preconditions" "SIOOBE_FORMATTER" "Ljava/util/function/BiFunction;") ∈ zflat := by decide +kernel
set_option maxRecDepth 100000 in
theorem zn_3 : Cond.arrayOf (Term.static "ThreeSizes$Tokens" "PLACES" "[I") .int ∈ zflat := by decide +kernel
set_option maxRecDepth 100000 in
theorem zn_4 : Cond.eq (.length (Term.static "ThreeSizes$Tokens" "PLACES" "[I")) (.int 6) ∈ zflat := by decide +kernel
set_option maxRecDepth 100000 in
theorem zn_5 : ∀ j, j < 6 → Cond.eq (.elem (Term.static "ThreeSizes$Tokens" "PLACES" "[I") (.int (Int32.ofNat j))) (.int (zPl.getD j 0)) ∈ zflat := by decide +kernel
set_option maxRecDepth 100000 in
theorem zn_6 : Cond.exactly (Term.string "ThreeSizes$Tokens" 26) "java/lang/String" ∈ zflat := by decide +kernel
set_option maxRecDepth 100000 in
theorem zn_7 : Cond.eq (.field (Term.string "ThreeSizes$Tokens" 26) "java/lang/String" "coder" "B") (.int 0) ∈ zflat := by decide +kernel
set_option maxRecDepth 100000 in
theorem zn_8 : Cond.arrayOf (Term.field (Term.string "ThreeSizes$Tokens" 26) "java/lang/String" "value" "[B") .byte ∈ zflat := by decide +kernel
set_option maxRecDepth 100000 in
theorem zn_9 : Cond.eq (.length (Term.field (Term.string "ThreeSizes$Tokens" 26) "java/lang/String" "value" "[B")) (.int 174) ∈ zflat := by decide +kernel
set_option maxRecDepth 100000 in
theorem zn_a0 : ∀ j, j < 12 → Cond.eq (.elem (Term.field (Term.string "ThreeSizes$Tokens" 26) "java/lang/String" "value" "[B") (.int (Int32.ofNat (0 + j)))) (.int (zTx.getD (0 + j) 0)) ∈ zflat := by decide +kernel
set_option maxRecDepth 100000 in
theorem zn_a1 : ∀ j, j < 12 → Cond.eq (.elem (Term.field (Term.string "ThreeSizes$Tokens" 26) "java/lang/String" "value" "[B") (.int (Int32.ofNat (12 + j)))) (.int (zTx.getD (12 + j) 0)) ∈ zflat := by decide +kernel
set_option maxRecDepth 100000 in
theorem zn_a2 : ∀ j, j < 12 → Cond.eq (.elem (Term.field (Term.string "ThreeSizes$Tokens" 26) "java/lang/String" "value" "[B") (.int (Int32.ofNat (24 + j)))) (.int (zTx.getD (24 + j) 0)) ∈ zflat := by decide +kernel
set_option maxRecDepth 100000 in
theorem zn_a3 : ∀ j, j < 12 → Cond.eq (.elem (Term.field (Term.string "ThreeSizes$Tokens" 26) "java/lang/String" "value" "[B") (.int (Int32.ofNat (36 + j)))) (.int (zTx.getD (36 + j) 0)) ∈ zflat := by decide +kernel
set_option maxRecDepth 100000 in
theorem zn_a4 : ∀ j, j < 12 → Cond.eq (.elem (Term.field (Term.string "ThreeSizes$Tokens" 26) "java/lang/String" "value" "[B") (.int (Int32.ofNat (48 + j)))) (.int (zTx.getD (48 + j) 0)) ∈ zflat := by decide +kernel
set_option maxRecDepth 100000 in
theorem zn_a5 : ∀ j, j < 12 → Cond.eq (.elem (Term.field (Term.string "ThreeSizes$Tokens" 26) "java/lang/String" "value" "[B") (.int (Int32.ofNat (60 + j)))) (.int (zTx.getD (60 + j) 0)) ∈ zflat := by decide +kernel
set_option maxRecDepth 100000 in
theorem zn_a6 : ∀ j, j < 12 → Cond.eq (.elem (Term.field (Term.string "ThreeSizes$Tokens" 26) "java/lang/String" "value" "[B") (.int (Int32.ofNat (72 + j)))) (.int (zTx.getD (72 + j) 0)) ∈ zflat := by decide +kernel
set_option maxRecDepth 100000 in
theorem zn_a7 : ∀ j, j < 12 → Cond.eq (.elem (Term.field (Term.string "ThreeSizes$Tokens" 26) "java/lang/String" "value" "[B") (.int (Int32.ofNat (84 + j)))) (.int (zTx.getD (84 + j) 0)) ∈ zflat := by decide +kernel
set_option maxRecDepth 100000 in
theorem zn_a8 : ∀ j, j < 12 → Cond.eq (.elem (Term.field (Term.string "ThreeSizes$Tokens" 26) "java/lang/String" "value" "[B") (.int (Int32.ofNat (96 + j)))) (.int (zTx.getD (96 + j) 0)) ∈ zflat := by decide +kernel
set_option maxRecDepth 100000 in
theorem zn_a9 : ∀ j, j < 12 → Cond.eq (.elem (Term.field (Term.string "ThreeSizes$Tokens" 26) "java/lang/String" "value" "[B") (.int (Int32.ofNat (108 + j)))) (.int (zTx.getD (108 + j) 0)) ∈ zflat := by decide +kernel
set_option maxRecDepth 100000 in
theorem zn_a10 : ∀ j, j < 12 → Cond.eq (.elem (Term.field (Term.string "ThreeSizes$Tokens" 26) "java/lang/String" "value" "[B") (.int (Int32.ofNat (120 + j)))) (.int (zTx.getD (120 + j) 0)) ∈ zflat := by decide +kernel
set_option maxRecDepth 100000 in
theorem zn_a11 : ∀ j, j < 12 → Cond.eq (.elem (Term.field (Term.string "ThreeSizes$Tokens" 26) "java/lang/String" "value" "[B") (.int (Int32.ofNat (132 + j)))) (.int (zTx.getD (132 + j) 0)) ∈ zflat := by decide +kernel
set_option maxRecDepth 100000 in
theorem zn_a12 : ∀ j, j < 12 → Cond.eq (.elem (Term.field (Term.string "ThreeSizes$Tokens" 26) "java/lang/String" "value" "[B") (.int (Int32.ofNat (144 + j)))) (.int (zTx.getD (144 + j) 0)) ∈ zflat := by decide +kernel
set_option maxRecDepth 100000 in
theorem zn_a13 : ∀ j, j < 12 → Cond.eq (.elem (Term.field (Term.string "ThreeSizes$Tokens" 26) "java/lang/String" "value" "[B") (.int (Int32.ofNat (156 + j)))) (.int (zTx.getD (156 + j) 0)) ∈ zflat := by decide +kernel
set_option maxRecDepth 100000 in
theorem zn_a14 : ∀ j, j < 6 → Cond.eq (.elem (Term.field (Term.string "ThreeSizes$Tokens" 26) "java/lang/String" "value" "[B") (.int (Int32.ofNat (168 + j)))) (.int (zTx.getD (168 + j) 0)) ∈ zflat := by decide +kernel
theorem zn_a (j : Nat) (hj : j < 174) : Cond.eq (.elem (Term.field (Term.string "ThreeSizes$Tokens" 26) "java/lang/String" "value" "[B") (.int (Int32.ofNat j))) (.int (zTx.getD j 0)) ∈ zflat := by
  by_cases h0 : j < 12
  · have := zn_a0 (j - 0) (by omega)
    rwa [show 0 + (j - 0) = j by omega] at this
  by_cases h1 : j < 24
  · have := zn_a1 (j - 12) (by omega)
    rwa [show 12 + (j - 12) = j by omega] at this
  by_cases h2 : j < 36
  · have := zn_a2 (j - 24) (by omega)
    rwa [show 24 + (j - 24) = j by omega] at this
  by_cases h3 : j < 48
  · have := zn_a3 (j - 36) (by omega)
    rwa [show 36 + (j - 36) = j by omega] at this
  by_cases h4 : j < 60
  · have := zn_a4 (j - 48) (by omega)
    rwa [show 48 + (j - 48) = j by omega] at this
  by_cases h5 : j < 72
  · have := zn_a5 (j - 60) (by omega)
    rwa [show 60 + (j - 60) = j by omega] at this
  by_cases h6 : j < 84
  · have := zn_a6 (j - 72) (by omega)
    rwa [show 72 + (j - 72) = j by omega] at this
  by_cases h7 : j < 96
  · have := zn_a7 (j - 84) (by omega)
    rwa [show 84 + (j - 84) = j by omega] at this
  by_cases h8 : j < 108
  · have := zn_a8 (j - 96) (by omega)
    rwa [show 96 + (j - 96) = j by omega] at this
  by_cases h9 : j < 120
  · have := zn_a9 (j - 108) (by omega)
    rwa [show 108 + (j - 108) = j by omega] at this
  by_cases h10 : j < 132
  · have := zn_a10 (j - 120) (by omega)
    rwa [show 120 + (j - 120) = j by omega] at this
  by_cases h11 : j < 144
  · have := zn_a11 (j - 132) (by omega)
    rwa [show 132 + (j - 132) = j by omega] at this
  by_cases h12 : j < 156
  · have := zn_a12 (j - 144) (by omega)
    rwa [show 144 + (j - 144) = j by omega] at this
  by_cases h13 : j < 168
  · have := zn_a13 (j - 156) (by omega)
    rwa [show 156 + (j - 156) = j by omega] at this
  by_cases h14 : j < 180
  · have := zn_a14 (j - 168) (by omega)
    rwa [show 168 + (j - 168) = j by omega] at this
  omega
/-- the memories as the law begins -/
def zs0 (L : Nat) (xs : Nat → Int32) (fo : Option Nat) : zS := (zpre L, fun r j => match r with
  | 0 => xs j
  | 1 => zPl.getD j 0
  | 3 => zTx.getD j 0
  | _ => 0, fun _ _ => 0, fun r j => match r, j with
  | 2, 0 => some 3
  | 4, 0 => fo
  | _, _ => none)
theorem zs0_ro (L : Nat) (xs : Nat → Int32) (fo : Option Nat) : zRo L xs fo (zs0 L xs fo) := ⟨⟨[], by simp [zs0]⟩, fun _ _ => rfl, fun _ _ => rfl, rfl, rfl, fun _ _ => rfl, rfl⟩
theorem zarrP {s : State} {args : Array Value} {ty : FieldType} (h : (Cond.arrayClass ty).before args s = true) : ∃ (cA : ClassId) (kA : Class) (comp : ClassId), s.vm.findClass ("[" ++ ty.toString) = some cA ∧ s.vm.classes[cA]? = some kA ∧ kA.kind = .array comp ty := by
  obtain ⟨c, k, comp, h1, h2, h3⟩ := Cond.arrayClass_spec h
  exact ⟨c, k, comp, h1, h2, h3⟩
theorem zarrT {s : State} {cA : ClassId} {kA : Class} {comp : ClassId} {ty : FieldType} (h2 : s.vm.classes[cA]? = some kA) (h3 : kA.kind = .array comp ty) : ArrOfT s cA ty := fun n z => ⟨fun k h => (by cases h), kA, h2, comp, h3⟩
theorem zclass {s : State} {args : Array Value} (hts : ∀ w ∈ lw_tbl, w.before args s = true) : ∃ (dC : Nat → ClassId) (dI : Nat → Nat → Nat), ∀ (k : Nat) (q : vw_C), vwCl[k]? = some q → u_Kn s q.1 q.2.1 q.2.2 (dC k) (dI k) := by
  have key : ∀ k : Nat, ∃ x : ClassId × (Nat → Nat), ∀ q : vw_C, vwCl[k]? = some q → u_Kn s q.1 q.2.1 q.2.2 x.1 x.2 := by
    intro k
    cases hq : vwCl[k]? with
    | none => exact ⟨(0, fun _ => 0), fun q h => by cases h⟩
    | some q =>
      have hlt : k < 13 := (List.getElem?_eq_some_iff.mp hq).1
      obtain ⟨q', hq', -, -, hcln, hgd, -⟩ := zcl_at (t := k + 1) (by omega) (by omega)
      have : q' = q := Option.some.inj (hq'.symm.trans hq)
      subst this
      obtain ⟨w1, -⟩ := zIn_at (a := k + 1) (by omega) (by omega)
      rw [hcln] at w1
      obtain ⟨cC, iS, h⟩ := u_known (C := q'.1) (T := q'.2.1) (N := q'.2.2) hts ((zcls k q' hq).1) (hts _ w1)
      exact ⟨(cC, iS), fun q2 h2 => by cases h2; exact h⟩
  obtain ⟨f, hf⟩ := Classical.axiomOfChoice key
  exact ⟨fun k => (f k).1, fun k => (f k).2, fun k q hq => hf k q hq⟩
set_option maxHeartbeats 4000000 in
theorem zarrays {s : State} {args : Array Value} (hts : ∀ w ∈ lw_tbl, w.before args s = true) : ∃ dA : Nat → ClassId, (∀ (k : Nat) (q : ClassId × FieldType), (ztys dA)[k]? = some q → ArrOfT s q.1 q.2 ∧ va_RA s q.1 q.2) ∧ ∃ kA kc : Class, s.vm.classes[dA 80]? = some kA ∧ kA.kind = .array (dA 32) (.array .int) ∧ s.vm.classes[dA 32]? = some kc := by
  obtain ⟨c32, k32, p32, n32, m32, t32⟩ := zarrP (hts _ zac_32)
  obtain ⟨c33, k33, p33, n33, m33, t33⟩ := zarrP (hts _ zac_33)
  obtain ⟨c34, k34, p34, n34, m34, t34⟩ := zarrP (hts _ zac_34)
  obtain ⟨c35, k35, p35, n35, m35, t35⟩ := zarrP (hts _ zac_35)
  obtain ⟨c36, k36, p36, n36, m36, t36⟩ := zarrP (hts _ zac_36)
  obtain ⟨p68, c68, k68, f68, -, m68, t68, n68⟩ := Cond.arrayOver_spec (hts _ zao_68)
  obtain ⟨p73, c73, k73, f73, -, m73, t73, n73⟩ := Cond.arrayOver_spec (hts _ zao_73)
  obtain ⟨p70, c70, k70, f70, -, m70, t70, n70⟩ := Cond.arrayOver_spec (hts _ zao_70)
  obtain ⟨p69, c69, k69, f69, -, m69, t69, n69⟩ := Cond.arrayOver_spec (hts _ zao_69)
  obtain ⟨p80, c80, k80, f80, -, m80, t80, n80⟩ := arrayOverA_spec (hts _ zao_80)
  have e80 : p80 = c32 := by
    have h1 : s.vm.findClass ("[" ++ FieldType.int.toString) = some c32 := n32
    have h2 : (FieldType.array .int).toString = "[" ++ FieldType.int.toString := by decide
    rw [h2, h1] at f80
    exact (Option.some.inj f80).symm
  subst e80
  refine ⟨fun t => match t with
    | 32 => p80
    | 33 => c33
    | 34 => c34
    | 35 => c35
    | 36 => c36
    | 68 => c68
    | 73 => c73
    | 70 => c70
    | 69 => c69
    | _ => c80, ?_, k80, k32, m80, t80, m32⟩
  intro k q hq
  match k, hq with
  | 0, hq => cases hq; exact ⟨zarrT m32 t32, n32⟩
  | 1, hq => cases hq; exact ⟨zarrT m33 t33, n33⟩
  | 2, hq => cases hq; exact ⟨zarrT m34 t34, n34⟩
  | 3, hq => cases hq; exact ⟨zarrT m35 t35, n35⟩
  | 4, hq => cases hq; exact ⟨zarrT m36 t36, n36⟩
  | 5, hq => cases hq; exact ⟨zarrT m68 t68, ⟨k68, p68, m68, t68, f68, n68⟩⟩
  | 6, hq => cases hq; exact ⟨zarrT m73 t73, ⟨k73, p73, m73, t73, f73, n73⟩⟩
  | 7, hq => cases hq; exact ⟨zarrT m70 t70, ⟨k70, p70, m70, t70, f70, n70⟩⟩
  | 8, hq => cases hq; exact ⟨zarrT m69 t69, ⟨k69, p69, m69, t69, f69, n69⟩⟩
  | 9, hq => cases hq; exact ⟨zarrT m80 t80, n80⟩
  | k + 10, hq => simp [ztys, zwt] at hq

/-! THE CLAIM OUT OF ONE WALK OF THE LAW'S BODY. Your part is whole_start (and what it stands on); all else here is the same for every law, but numbers. -/
def R_law : String := "ThreeSizesLaw"
def lw_P (b : Addr) (xs : List Int32) (args : Array Value) (s : State) : Prop := args = #[.ref b] ∧ s.IntsAt b xs ∧ xs.length ≤ 3072 ∧ (Jvm.Cond.and given_1 narrow_1).before args s = true
def lw_Q (_ : Array Value) (s : State) (o : Outcome) (t : State) : Prop := o = .returned (some (.int 1)) ∧ Framed s o t [] 600000 7302250
def lw_Z (below : List Frame) (a : Array Value) (s : State) : State → Prop := fun t => ∃ o, t.status = .running ∧ Ended t below o ∧ lw_Q a s o t
/-- the law's own end, with 1 on the stack, nothing written that was there before, its room as the claim has it -/
theorem lw_ret {p : Program} {l : Launch} {e : Env} {s : State} {m : MethodId} {below : List Frame} {meth : Method} {c : Code} {b : Nat} (hx : p.tables.exec = Jvm.exec) (hb : c.code = code) (hr : meth.sig.returnType = ret) (hlocks : meth.locks = false) {pc : Nat} {H : Heap} {ls : Array Slot} (hdg : decode code pc = .ok (.ireturn, 1)) : W p l e room_1 s m #[Value.ref b] below meth c H [] 600000 7302250 (lw_Z below #[Value.ref b] s) (F0 m pc ls [.int 1]) := by
  intro T hT X
  obtain ⟨fs, hret, hrun, hended, hW, hframe⟩ := X.leave (v := some (.int 1)) (hlocks := hlocks) (fun h => by rw [hr] at h; cases h)
  have hmeth' : T.vm.method? m = some meth := X.method'
  refine ⟨T.setFrames fs, ?_, .returned (some (.int 1)), hrun, hended, rfl, ⟨_, rfl⟩, hW, hframe⟩
  jvm_step X.here [X.here.top, hx, hb, hdg, hmeth', hr, ret, narrow_b1]
  (try refine ⟨rfl, ?_⟩); (try refine ⟨rfl, ?_⟩)
  first | (intro acts; rw [hret _ acts rfl rfl rfl]) | rw [hret _ _ rfl rfl rfl]
  exact Steps.refl _
/-- what holds at the law's entry: the machine, the code, the tables' words (any of lw_tbl by 'hts w (by decide +kernel)'), the script of L ints xs at the cell b, what the Statement gives of the start (any of its parts by flat_of_before) -/
def lw_At (p : Program) (s : State) (m : MethodId) (meth : Method) (c : Code) (b L : Nat) (xs : Nat → Int32) : Prop :=
  p.tables.exec = Jvm.exec ∧ c.code = code ∧ meth.sig.returnType = ret ∧ c.maxLocals = 4 ∧ s.vm.findClass R_law = some m.cls ∧ (∀ w ∈ lw_tbl, w.before #[Value.ref b] s = true) ∧ va_X b L xs s s.heap ∧ b < s.heap.size ∧ meth.locks = false ∧ (Jvm.Cond.and given_1 narrow_1).before #[Value.ref b] s = true

set_option maxHeartbeats 4000000 in
set_option maxRecDepth 100000 in
/-- the law's walk out of a run of the clean machine -/
theorem z_start {p : Program} {e : Env} {s : State} {m : MethodId} {below : List Frame} {meth : Method} {c : Code} (l : Launch) {b L : Nat} {xs : Nat → Int32} (hrun : ∀ fo : Option Nat, ∃ σ' : zS, zM 338 [.ref 0] (zs0 L xs fo) = some (some (.int 1), σ') ∧ σ'.1.length ≤ 600006 ∧ zsl σ' ≤ zsl (zs0 L xs fo) + 7302250) (C0 : lw_At p s m meth c b L xs) : W p l e room_1 s m #[Value.ref b] below meth c s.heap [] 0 0 (lw_Z below #[Value.ref b] s) (entryFrame m ([Value.ref b] : List Value).toArray 4) := by
  obtain ⟨hx, hb, hr, hml, hown, hts, hX, hbl, hlocks, hgv⟩ := id C0
  have hfl := flat_of_before _ hgv
  have hA : ∀ a : Nat, a < s.heap.size → ¬ zA0 s a := fun a h => Nat.not_le.mpr h
  obtain ⟨dC, dI, hKc⟩ := zclass hts
  obtain ⟨dA, hKa, hk80⟩ := zarrays hts
  -- PLACES
  obtain ⟨tp, ep, hTp⟩ := va_Tof (tm := (Term.static "ThreeSizes$Tokens" "PLACES" "[I")) (ty := .int) (N := 6) (f := fun j => .int (zPl.getD j 0)) (A := zA0 s) (by decide) (hfl _ zn_3) (va_eqt (hfl _ zn_4)) (fun j hj => va_eqt (hfl _ (zn_5 j hj))) hA
  have hZp := va_Zof (A := zA0 s) (hts _ zls_0) (hts _ zli_0) ep hA
  have hZc := va_Zof (A := zA0 s) (hts _ zls_1) (hts _ zli_1) (va_eqi (hfl _ zn_1)) hA
  -- the text
  obtain ⟨adK, adV, hS, hev⟩ := vk_Sof (args := #[Value.ref b]) (s := s) (N := 1) (tm := fun _ => Term.string "ThreeSizes$Tokens" 26) (len := [174]) (byt := [zTx]) (A := zA0 s) (fun i hi => by match i, hi with | 0, _ => decide) (fun i hi => hfl _ zn_6) (fun i hi => hfl _ zn_7) (fun i hi => hfl _ zn_8) (fun i hi => by match i, hi with | 0, _ => exact hfl _ zn_9) (fun i hi j hj => by match i, hi with | 0, _ => exact hfl _ (zn_a j hj)) (fun i j hi hj hne => absurd (by omega) hne) hA
  obtain ⟨sO, sc, sv, sT⟩ := hS.1 0 (by decide)
  have hvk : vk_R "ThreeSizes$Tokens" 26 zTxS (adK 0) s := vk_R.of (hts _ zsr) (hev 0 (by decide))
  -- the formatter
  obtain ⟨vf, evf, hvf⟩ := Cond.isRef_spec (hfl _ zn_2)
  have hZf := va_Zof (A := zA0 s) (hts _ zls_2) (hts _ zli_2) evf hA
  obtain ⟨fo, rho5, hfo⟩ : ∃ (fo : Option Nat) (rho5 : Nat), vf = va_rf (fo.map (fun _ => rho5)) ∧ (fo = none ∨ fo = some 5) := by
    cases vf with
    | null => exact ⟨none, 0, rfl, Or.inl rfl⟩
    | ref a => exact ⟨some 5, a, rfl, Or.inr rfl⟩
    | int _ => cases hvf
    | long _ => cases hvf
    | float _ => cases hvf
    | double _ => cases hvf
    | retAddr _ => cases hvf
  let ρ : Nat → Nat := fun k => match k with
    | 0 => b
    | 1 => tp
    | 2 => adK 0
    | 3 => adV 0
    | 4 => 0
    | 5 => rho5
    | k => s.heap.size + (k - 6)
  have hρ5 : fo.map ρ = fo.map (fun _ => rho5) := by rcases hfo.2 with q | q <;> rw [q] <;> rfl
  have hG : zG s ρ dC dI dA L xs fo := by
    refine ⟨fun k hk => ?_, ⟨hKc, hKa⟩, hX, hTp, sO, sv, sc, sT, hZp, hZc, ?_, hk80, va_AO.of (hts _ zao_68), va_AO.of (hts _ zao_73), va_AO.of (hts _ zao_70), va_AO.of (hts _ zao_69), ?_⟩
    · match k, hk with
      | k + 6, _ => rfl
    · rw [hρ5, ← hfo.1]
      exact hZf
    · exact over_moved (Vm.Alike.refl _) (hts _ zao_80)
  have hU : zU s ρ s := ⟨Vm.Alike.refl _, hvk, fun o i y h hm => va_Nw.of rfl (hts _ hm)⟩
  obtain ⟨σ', hz, hl1, hl2⟩ := hrun fo
  obtain ⟨n, hn⟩ := zM_ex hz
  have hR : zRep s ρ dC dI dA L xs fo (zs0 L xs fo) s.heap := ⟨by show _ = _ + ((zpre L).length - 6); simp [zpre], fun q _ => rfl, fun k t n hk hkd => by
    have : k < 6 := (List.getElem?_eq_some_iff.mp (show (zpre L)[k]? = some (t, n) from hkd)).1
    omega, zs0_ro L xs fo⟩
  have hlen : (zs0 L xs fo).1.length = 6 := rfl
  rw [lg_entry_eq]
  refine z_sound hG n _ 338 0 _ [] (zs0 L xs fo) _ σ' 0 hn (zstart 338 (by decide)) p l e room_1 s m _ below meth c _ s.heap [] 0 0 _ 6 (zsl (zs0 L xs fo)) ⟨hx, hb, hml, hown, fun w hw _ => hts w hw, (fun h => by cases h), hU⟩ (by decide) (by decide) (by decide) (by show _ ≤ 6 + 600000; omega) (by show _ ≤ _ + 7302250; exact hl2) hR (fun q hq => by cases hq) (zlv_entry ρ [.ref 0] (n := 4) (by decide)) rfl (Nat.zero_add _) ?_ rfl
  intro H1 locs1 ls1 cells1 slots1 pc hR1 hlc1 hc1 hs1 hra
  refine va_forget (fun q hq => hlc1 q hq) ?_
  refine W.widen (k := 600000) (n := 7302250) (by omega) (by omega) ?_
  exact lw_ret hx hb hr hlocks hra.1
