/-! a run of the clean machine is a run of the machine; laid by wip/whole/gen/ksnd.py -/
/-- what a frame of method k stands on -/
def zFr (s0 : State) (ρ : Nat → Nat) (p : Program) (s : State) (m : MethodId) (args : Array Value) (meth : Method) (c : Code) (k : Nat) : Prop := p.tables.exec = Jvm.exec ∧ c.code = (zY k).2.1 ∧ c.maxLocals = (zY k).2.2.1 ∧ s.vm.findClass (zcn (zoc k)) = some m.cls ∧ (∀ w ∈ lw_tbl, goodWord w = true → w.before args s = true) ∧ ((zY k).2.2.2.2.2.1 = 2 → meth.name = "<init>") ∧ zU s0 ρ s
/-- at pc stands the return that fits v -/
def zRa (k pc : Nat) (v : Option Value) : Prop := match v with
  | none => decode (zY k).2.1 pc = .ok (.return_, 1) ∧ (zY k).2.2.2.1 = none
  | some (.int x) => decode (zY k).2.1 pc = .ok (.ireturn, 1) ∧ ∃ ty, (zY k).2.2.2.1 = some ty ∧ narrow ty (.int x) = .int x
  | some (.long x) => decode (zY k).2.1 pc = .ok (.lreturn, 1) ∧ (zY k).2.2.2.1 = some .long
  | some (.ref x) => decode (zY k).2.1 pc = .ok (.areturn, 1) ∧ ∃ rt, (zY k).2.2.2.1 = some rt ∧ ((∃ n, rt = .object n) ∨ ∃ t, rt = .array t)
  | _ => False
def zTb : List Cond := lw_tbl.filter goodWord
theorem zMet_ofW {l : Launch} {y : MethodName} {ws ws' : List Cond} {rm : Room} {Pc : Array Value → State → Prop} {Qc : Array Value → State → Outcome → State → Prop} {mc ms : Nat} {free : Addr → Prop} {cc : ByteArray} {maxL : Nat} {ret : Option FieldType}
    (hy : plainFor y = true) (hw : ws = Cond.code y cc maxL ret :: ws')
    (body : ∀ p e s m args below meth c s₁, BodyLoose p l y (headSpec ws rm) cc maxL ret e s m args below meth c s₁ → c.maxLocals = maxL → Pc args s →
      W p l e (headSpec ws rm).room s m args below meth c s.heap [] 0 0 (MQ below Qc args s mc ms free) (entryFrame m args maxL)) : Met l y ws rm Pc Qc mc ms free := by
  refine MetFree.of_bodySF (code := cc) (maxLocals := maxL) (ret := ret) hy ?_ ?_
  · intro args s m h hn
    obtain ⟨meth, c, h1, h2, h3, h4, h5, h6, -, -⟩ := Cond.code_spec hn (atoms_spec (ws := ws) h _ (by rw [hw]; exact List.mem_cons_self))
    exact ⟨meth, c, h1, h2, h3, h4, h5, h6⟩
  · intro p e s m args below meth c s₁ B hml hP _
    have hh0 : s₁.heap = s.heap := by rw [B.state]; rfl
    obtain ⟨t, a1, o, b1, b2, b3⟩ := body p e s m args below meth c s₁ B hml hP s₁ hh0 (Stand.of_body B)
    exact ⟨t, o, a1, b1, b2, ⟨b3.1, b3.2⟩⟩
section
variable (s0 : State) (ρ : Nat → Nat) (dC : Nat → ClassId) (dI : Nat → Nat → Nat) (dA : Nat → ClassId) (L : Nat) (xs : Nat → Int32) (fo : Option Nat)
def zSound (n : Nat) : Prop := ∀ (d k i : Nat) (cl : List (Option Value)) (st : List Value) (σ : zS) (v : Option Value) (σ' : zS) (b : Nat), zf n d k i cl st σ = some (v, σ') → zbp k i = some b →
  ∀ (p : Program) (l : Launch) (e : Env) (R : Room) (s : State) (m : MethodId) (args : Array Value) (below : List Frame) (meth : Method) (c : Code) (Q : State → Prop) (H : Heap) (locs : List Loc) (cells slots : Nat) (ls : Array Slot) (E F : Nat), zFr s0 ρ p s m args meth c k → d ≤ R.frames → d * 64 ≤ R.locals → 1 ≤ d → σ'.1.length ≤ E + R.cells → zsl σ' ≤ F + R.slots → zRep s0 ρ dC dI dA L xs fo σ H → (∀ q ∈ locs, s0.heap.size ≤ q.base) → lv_has ls (zY k).2.2.1 (zlv ρ cl) → cells + E = σ.1.length → slots + F = zsl σ →
  (∀ (H1 : Heap) (locs1 : List Loc) (ls1 : Array Slot) (cells1 slots1 pc : Nat), zRep s0 ρ dC dI dA L xs fo σ' H1 → (∀ q ∈ locs1, s0.heap.size ≤ q.base) → cells1 + E = σ'.1.length → slots1 + F = zsl σ' → zRa k pc v → W p l e R s m args below meth c H1 locs1 cells1 slots1 Q (F0 m pc ls1 (v.toList.map (zmv ρ)))) →
  cl.length = (zY k).2.2.1 → W p l e R s m args below meth c H locs cells slots Q (F0 m b ls (st.map (zmv ρ)))
def zPc (args : List Value) (σ : zS) : Array Value → State → Prop := fun a U => a = (args.map (zmv ρ)).toArray ∧ zU s0 ρ U ∧ zRep s0 ρ dC dI dA L xs fo σ U.heap
def zQc (v : Option Value) (σ : zS) : Array Value → State → Outcome → State → Prop := fun _ _ o t => o = .returned (v.map (zmv ρ)) ∧ zRep s0 ρ dC dI dA L xs fo σ t.heap
end
section
variable {s0 : State} {ρ : Nat → Nat} {dC : Nat → ClassId} {dI : Nat → Nat → Nat} {dA : Nat → ClassId} {L : Nat} {xs : Nat → Int32} {fo : Option Nat}
theorem zCal_lt {a : Nat} (h : a ∈ zCal) : a < 338 := by
  have : zCal.all (fun a => decide (a < 338)) = true := by decide +kernel
  exact of_decide_eq_true (List.all_eq_true.mp this a h)
theorem zmok_of {a : Nat} (h : a < 339) : (zmi a).1 = zrt2 (zY a).2.2.2.1 ∧ (zmi a).2.1 = (zY a).2.2.2.2.2.2 + (bif Nat.beq (zY a).2.2.2.2.2.1 1 then 0 else 1) ∧ (zmi a).2.2.1 = (zY a).2.2.1 ∧ 1 ≤ (zmi a).2.2.2.2.1 ∧ (zY a).2.2.1 ≤ 30 ∧ ((zY a).2.2.2.2.2.1 = 1 ∨ (zmi a).2.2.2.1 = bif Nat.beq (zoc a) 13 then 20 else zoc a + 1) := by
  have h1 := zmok_ok a h
  unfold zmok at h1
  simp only [Bool.and_eq_true, Bool.or_eq_true, decide_eq_true_eq] at h1
  obtain ⟨⟨⟨⟨⟨⟨h1, h2⟩, h3⟩, h4⟩, h5⟩, h6⟩, -⟩ := h1
  exact ⟨h1, h2, h3, h4, h5, h6⟩
theorem zrk_pos {a : Nat} (h : a < 339) (as : List Value) : 1 ≤ zrk a as := by
  obtain ⟨-, -, -, h4, -⟩ := zmok_of h
  unfold zrk zrkI
  cases Nat.beq (zmi a).2.2.2.2.2 1
  · exact h4
  · show 1 ≤ (zmi a).2.2.2.2.1 + _
    omega
theorem zbp0 {n d k : Nat} {cl : List (Option Value)} {st : List Value} {σ : zS} {x : Option Value × zS} {i : Nat} (h : zf n d k i cl st σ = some x) : ∃ b, zbp k i = some b := by
  cases n with
  | zero => simp [zf] at h
  | succ n =>
    rw [zf_succ] at h
    unfold zbp
    split at h
    · simp at h
    · rename_i e he
      exact ⟨e.1, by rw [he]; rfl⟩
theorem zlo_len {k : Nat} {as : List Value} (h : (zargs as).length ≤ (zY k).2.2.1) (hk : k < 339) : (zlo k as).length = (zY k).2.2.1 := by
  obtain ⟨-, -, h3, -⟩ := zmok_of hk
  unfold zlo zpad
  rw [h3, List.length_append, List.length_replicate]
  omega
theorem zstart : ∀ a, a < 339 → zbp a 0 = some 0 := by
  decide +kernel
set_option maxHeartbeats 2000000 in
/-- a method's contract out of its run -/
theorem zMet {n : Nat} (hn : zSound s0 ρ dC dI dA L xs fo n) {a : Nat} {as : List Value} {σ σ' : zS} {v : Option Value} (h : zfM n a as σ = some (v, σ')) (ha : a ∈ zCal) (hlen : (zargs as).length ≤ (zY a).2.2.1) (l : Launch) : Met l (zY a).1 (Cond.code (zY a).1 (zY a).2.1 (zY a).2.2.1 (zY a).2.2.2.1 :: zTb) ({ frames := zrk a as, cells := σ'.1.length - σ.1.length, slots := zsl σ' - zsl σ, locals := zrk a as * 64 }) (zPc s0 ρ dC dI dA L xs fo as σ) (zQc s0 ρ dC dI dA L xs fo v σ') (σ'.1.length - σ.1.length) (zsl σ' - zsl σ) (fun q => s0.heap.size ≤ q) := by
  have hlt : a < 339 := Nat.lt_succ_of_lt (zCal_lt ha)
  obtain ⟨y1, y2, ⟨y3, y4, y5, y6, y7⟩, y8⟩ := zCal_ok a ha
  have hpre : σ.1 <+: σ'.1 := zf_pre _ _ _ _ _ _ _ _ h
  have hl1 : σ.1.length ≤ σ'.1.length := hpre.length_le
  have hl2 := zsl_le hpre
  refine zMet_ofW (cc := (zY a).2.1) (maxL := (zY a).2.2.1) (ret := (zY a).2.2.2.1) y3 rfl ?_
  intro p e s m args below meth c s₁ B hml hv
  obtain ⟨rfl, hU, hR⟩ := hv
  have hts : ∀ w ∈ lw_tbl, goodWord w = true → w.before _ s = true := fun w hw hg => atoms_spec (ws := Cond.code (zY a).1 (zY a).2.1 (zY a).2.2.1 (zY a).2.2.2.1 :: zTb) B.pre w (List.mem_cons_of_mem _ (List.mem_filter.mpr ⟨hw, hg⟩))
  have hown : s.vm.findClass (zY a).1.cls = some m.cls := findClass_of_methodNamed B.named
  have hlocks := B.notSynchronized
  have hr := B.returns
  rw [lg_entry_eq]
  refine hn _ a 0 _ [] σ v σ' 0 h (zstart a hlt) p l e _ s m _ below meth c _ s.heap [] 0 0 _ σ.1.length (zsl σ) ⟨B.exec, B.bytes, hml, by rw [show zcn (zoc a) = (zY a).1.cls from y7]; exact hown, hts, fun h2 => ?_, hU⟩ (Nat.le_refl _) (Nat.le_refl _) (zrk_pos hlt as) (by show _ ≤ _ + (_ - _); omega) (by show _ ≤ _ + (_ - _); omega) hR (fun q hq => by cases hq) ?_ (Nat.zero_add _) (Nat.zero_add _) ?_ (zlo_len hlen hlt)
  · rw [h2] at y8
    exact (name_of_methodNamed B.named B.method).1.trans y8.2
  · have e := zlv_entry ρ as hlen
    unfold zlo
    rw [(zmok_of hlt).2.2.1]
    exact e
  · intro H1 locs1 ls1 cells1 slots1 pc hR1 hl1' hc1 hs1 hra
    obtain rfl : cells1 = σ'.1.length - σ.1.length := by omega
    obtain rfl : slots1 = zsl σ' - zsl σ := by omega
    have hq : ∀ t : State, t.heap = H1 → s.WarmedH t.vm → zQc s0 ρ dC dI dA L xs fo v σ' (as.map (zmv ρ)).toArray s (.returned (v.map (zmv ρ))) t := fun t ht _ => ⟨rfl, by rw [ht]; exact hR1⟩
    match v, hra, hq with
    | none, hra, hq =>
      exact W.vret B.exec B.bytes (hr.trans hra.2) hq hl1' hra.1
    | some (.int x), hra, hq =>
      obtain ⟨h1, ty, h2, h3⟩ := hra
      exact W.zret B.exec B.bytes (hr.trans h2) h3 hq hl1' h1
    | some (.long x), hra, hq =>
      exact W.lret B.exec B.bytes (hr.trans hra.2) hq hl1' hra.1
    | some (.ref x), hra, hq =>
      obtain ⟨h1, rt, h2, h3⟩ := hra
      exact W.aret (v := .ref (ρ x)) B.exec B.bytes (hr.trans h2) h3 (Or.inr ⟨_, rfl⟩) hq hl1' h1
theorem zPc_blind {as : List Value} {σ : zS} : FrameBlind (zPc s0 ρ dC dI dA L xs fo as σ) := fun a U g mk h => ⟨h.1, ⟨h.2.1.1, h.2.1.2.1.same rfl, fun o i y q hm => va_Nw.same rfl rfl (h.2.1.2.2 o i y q hm)⟩, h.2.2⟩
theorem z_call {p : Program} {l : Launch} {e : Env} {R : Room} {s : State} {m : MethodId} {args : Array Value} {below : List Frame} {meth : Method} {c : Code} {H : Heap} {locs : List Loc} {cells slots mc ms pc : Nat} {Q : State → Prop} {ls : Array Slot} {st0 rest : List Value} {A : Array Value} {v : Option Value} {σ : zS} (hr : va_Run p l e R s m args below meth c H locs cells slots mc ms (F0 m pc ls st0) rest (zQc s0 ρ dC dI dA L xs fo v σ A) (fun q => s0.heap.size ≤ q)) (hl : ∀ q ∈ locs, s0.heap.size ≤ q.base)
    (kk : ∀ (H1 : Heap) (locs1 : List Loc), zRep s0 ρ dC dI dA L xs fo σ H1 → (∀ q ∈ locs1, s0.heap.size ≤ q.base) → W p l e R s m args below meth c H1 locs1 (cells + mc) (slots + ms) Q (F0 m (pc + 3) ls ((v.toList.map (zmv ρ)) ++ rest))) : W p l e R s m args below meth c H locs cells slots Q (F0 m pc ls st0) := by
  intro T hT X
  obtain ⟨v', st₀, t, T', L', h0, X', hL, e1, e2, ⟨hv, hR⟩, st⟩ := hr T hT X
  cases hv
  obtain ⟨t2, a1, b1⟩ := kk T'.heap (locs ++ L') (by rw [e1]; exact hR) (fun q hq => (List.mem_append.mp hq).elim (hl q) (hL q)) T' rfl X'
  refine ⟨t2, st t2 ?_, b1⟩
  cases v <;> exact a1
theorem zgoodIn (q : zYI) (h : Cond.code q.1 q.2.1 q.2.2.1 q.2.2.2.1 ∈ lw_tbl) : GoodIn zTb (Cond.code q.1 q.2.1 q.2.2.1 q.2.2.2.1 :: zTb) := by
  intro w hw
  have hm : w ∈ zTb := (List.mem_cons.mp hw).elim (fun e => e ▸ List.mem_filter.mpr ⟨h, rfl⟩) id
  exact ⟨hm, good_of_word (List.mem_filter.mp hm).2⟩
theorem zfit_narrow {x : Int32} {t : Nat} {ty : FieldType} (h : zfit t x = true) (ht : (t = 4 ∧ ty = .boolean) ∨ (t = 5 ∧ ty = .char) ∨ (t = 6 ∧ ty = .byte)) : narrow ty (.int x) = .int x := by
  rcases ht with ⟨rfl, rfl⟩ | ⟨rfl, rfl⟩ | ⟨rfl, rfl⟩
  · simp only [zfit, Bool.or_eq_true, beq_iff_eq] at h
    rcases h with rfl | rfl <;> rfl
  · simp only [zfit, Bool.and_eq_true, decide_eq_true_eq] at h
    obtain ⟨j, hj, rfl⟩ : ∃ j : Nat, j < 65536 ∧ x = nI j := by
      refine ⟨x.toInt.toNat, by omega, ?_⟩
      apply Int32.toInt_inj.mp
      rw [nI_toInt (by omega)]
      omega
    exact (pk_charN hj).1
  · simp only [zfit, beq_iff_eq] at h
    subst h
    rfl
end
