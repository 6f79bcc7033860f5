/-! what a rule's codes reckon; codes are the reference's: 1000 + n a number, 20000 + bits the end of a statement -/
def isF (c : Nat) : Bool := decide ((7 ≤ c ∧ c ≤ 10) ∨ c = 18 ∨ (30 ≤ c ∧ c ≤ 32))
def okN (x : Int) : Prop := -1000000 ≤ x ∧ x ≤ 1000000
def okB (x : Int) : Prop := x = 0 ∨ x = 1
def clp (v : Int) : Int := if 1000000 < v then 1000000 else if v < -1000000 then -1000000 else v
def opN (c : Nat) (a b : Int) : Int := if c = 1 then clp (a + b) else if c = 2 then clp (a - b) else if c = 3 then clp (a * b) else if c = 4 then (if b = 0 then 0 else Int.fdiv a b) else if c = 5 then (if a < b then a else b) else if c = 6 then (if b < a then a else b) else if c = 11 then (if a < b then 1 else 0) else if c = 12 then (if b < a then 1 else 0) else if c = 13 then (if a = b then 1 else 0) else if c = 14 then a * b else (if 0 < a + b then 1 else 0)
/-- a stack of at most lim numbers behind one code; none where a code finds what it can't take -/
def ev1 (F : Nat → Int) (lim c : Nat) (S : List Int) : Option (List Int) :=
  if 1000 ≤ c then (if S.length < lim then some (((c - 1000 : Nat) : Int) :: S) else none)
  else if c = 17 then (if S.length < lim then some (1 :: S) else none)
  else if isF c = true then (if S.length < lim then some (F c :: S) else none)
  else match S with
    | [] => none
    | b :: S1 => if c = 16 then (if b = 0 ∨ b = 1 then some ((1 - b) :: S1) else none)
      else match S1 with
        | [] => none
        | a :: S2 => if 1 ≤ c ∧ c < 14 then (if (-1000000 ≤ a ∧ a ≤ 1000000) ∧ (-1000000 ≤ b ∧ b ≤ 1000000) then some (opN c a b :: S2) else none)
          else (if ((c = 14 ∨ c = 15) ∧ (a = 0 ∨ a = 1)) ∧ (b = 0 ∨ b = 1) then some (opN c a b :: S2) else none)
def evL (F : Nat → Int) (lim : Nat) : List Nat → List Int → Option (List Int)
  | [], S => some S
  | c :: cs, S => match ev1 F lim c S with
    | none => none
    | some S1 => evL F lim cs S1
def okF (F : Nat → Int) : Prop := ∀ c, isF c = true → okN (F c)
def EN (h : Nat) (x : List Nat) : Prop := (∀ c, c ∈ x → c < 11000) ∧ ∀ F lim S rest, okF F → S.length + h ≤ lim → ∃ v, okN v ∧ evL F lim (x ++ rest) S = evL F lim rest (v :: S)
def EB (h : Nat) (x : List Nat) : Prop := (∀ c, c ∈ x → c < 11000) ∧ ∀ F lim S rest, okF F → S.length + h ≤ lim → ∃ v, okB v ∧ evL F lim (x ++ rest) S = evL F lim rest (v :: S)
section
variable {F : Nat → Int} {lim : Nat} {cs : List Nat} {S : List Int} {h h1 h2 c : Nat} {x y : List Nat}
theorem ev_s {S1 : List Int} (h : ev1 F lim c S = some S1) : evL F lim (c :: cs) S = evL F lim cs S1 := by
  show (match ev1 F lim c S with
    | none => none
    | some S1 => evL F lim cs S1) = _
  rw [h]
theorem ev_num (hc : 1000 ≤ c) (hl : S.length < lim) : evL F lim (c :: cs) S = evL F lim cs (((c - 1000 : Nat) : Int) :: S) := by
  refine ev_s ?_
  unfold ev1
  rw [if_pos hc, if_pos hl]
theorem ev_all (hl : S.length < lim) : evL F lim (17 :: cs) S = evL F lim cs (1 :: S) := by
  refine ev_s ?_
  unfold ev1
  rw [if_neg (by decide), if_pos rfl, if_pos hl]
theorem isF_lt (hc : isF c = true) : c < 1000 ∧ c ≠ 17 ∧ c ≠ 16 := by
  have := of_decide_eq_true hc
  omega
theorem ev_fact (hc : isF c = true) (hl : S.length < lim) : evL F lim (c :: cs) S = evL F lim cs (F c :: S) := by
  have := isF_lt hc
  refine ev_s ?_
  unfold ev1
  rw [if_neg (by omega), if_neg (by omega), if_pos hc, if_pos hl]
theorem ev_not {v : Int} (hv : okB v) : evL F lim (16 :: cs) (v :: S) = evL F lim cs ((1 - v) :: S) := by
  refine ev_s ?_
  unfold ev1
  rw [if_neg (by decide), if_neg (by decide), if_neg (by decide)]
  dsimp only
  rw [if_pos rfl, if_pos (show v = 0 ∨ v = 1 from hv)]
theorem ev_op {a b : Int} (hc : (1 ≤ c ∧ c ≤ 6) ∨ (11 ≤ c ∧ c ≤ 13)) (ha : okN a) (hb : okN b) : evL F lim (c :: cs) (b :: a :: S) = evL F lim cs (opN c a b :: S) := by
  have hF : ¬ isF c = true := fun q => by have := of_decide_eq_true q; omega
  refine ev_s ?_
  unfold ev1
  rw [if_neg (by omega), if_neg (by omega), if_neg hF]
  dsimp only
  rw [if_neg (by omega), if_pos (by omega), if_pos (show (-1000000 ≤ a ∧ a ≤ 1000000) ∧ (-1000000 ≤ b ∧ b ≤ 1000000) from ⟨ha, hb⟩)]
theorem ev_bool {a b : Int} (hc : c = 14 ∨ c = 15) (ha : okB a) (hb : okB b) : evL F lim (c :: cs) (b :: a :: S) = evL F lim cs (opN c a b :: S) := by
  have hF : ¬ isF c = true := fun q => by have := of_decide_eq_true q; omega
  refine ev_s ?_
  unfold ev1
  rw [if_neg (by omega), if_neg (by omega), if_neg hF]
  dsimp only
  rw [if_neg (by omega), if_neg (by omega), if_pos (show ((c = 14 ∨ c = 15) ∧ (a = 0 ∨ a = 1)) ∧ (b = 0 ∨ b = 1) from ⟨⟨hc, ha⟩, hb⟩)]
theorem EN_mono (hx : EN h1 x) (hh : h1 ≤ h) : EN h x := ⟨hx.1, fun F lim S rest hF hl => hx.2 F lim S rest hF (by omega)⟩
theorem EB_mono (hx : EB h1 x) (hh : h1 ≤ h) : EB h x := ⟨hx.1, fun F lim S rest hF hl => hx.2 F lim S rest hF (by omega)⟩
theorem EN_num {v : Nat} (hv : v ≤ 9999) (hh : 1 ≤ h) : EN h [1000 + v] := by
  refine ⟨fun c hc => by have : c = 1000 + v := by simpa using hc
                         omega, ?_⟩
  intro F lim S rest hF hl
  refine ⟨(v : Int), ?_, ?_⟩
  · unfold okN; omega
  · rw [List.singleton_append, ev_num (by omega) (by omega), show 1000 + v - 1000 = v by omega]
theorem EN_fact (hc : isF c = true) (hh : 1 ≤ h) : EN h [c] := by
  refine ⟨fun d hd => by have : d = c := by simpa using hd
                         have := isF_lt hc
                         omega, ?_⟩
  intro F lim S rest hF hl
  exact ⟨F c, hF c hc, by rw [List.singleton_append, ev_fact hc (by omega)]⟩
theorem EB_all (hh : 1 ≤ h) : EB h [17] := by
  refine ⟨fun d hd => by have : d = 17 := by simpa using hd
                         omega, ?_⟩
  intro F lim S rest hF hl
  exact ⟨1, .inr rfl, by rw [List.singleton_append, ev_all (by omega)]⟩
theorem clp_ok (v : Int) : okN (clp v) := by
  unfold okN clp
  repeat' split
  all_goals omega
theorem fdiv_pos {a b : Int} (ha : okN a) (q : 0 < b) : okN (Int.fdiv a b) := by
  rw [Int.fdiv_eq_ediv_of_nonneg a (by omega)]
  have h1 := Int.mul_ediv_self_le (x := a) (k := b) (by omega)
  have h2 := Int.lt_mul_ediv_self_add (x := a) (k := b) q
  unfold okN at *
  generalize a / b = d at *
  constructor
  · rcases Int.lt_or_le d (-1000000) with z | z
    · exfalso
      have : b * (d + 1) ≤ 1 * (d + 1) := Int.mul_le_mul_of_nonpos_right (show 1 ≤ b by omega) (show d + 1 ≤ 0 by omega)
      rw [Int.mul_add] at this
      omega
    · exact z
  · rcases Int.lt_or_le 1000000 d with z | z
    · exfalso
      have : 1 * d ≤ b * d := Int.mul_le_mul_of_nonneg_right (show 1 ≤ b by omega) (show 0 ≤ d by omega)
      omega
    · exact z
theorem fdiv_ok {a b : Int} (ha : okN a) (hb : b ≠ 0) : okN (Int.fdiv a b) := by
  rcases Int.lt_or_gt_of_ne hb with q | q
  · rw [← Int.neg_fdiv_neg]
    exact fdiv_pos (by unfold okN at *; omega) (by omega)
  · exact fdiv_pos ha q
theorem opN_1 (a b : Int) : opN 1 a b = clp (a + b) := by unfold opN; rw [if_pos rfl]
theorem opN_2 (a b : Int) : opN 2 a b = clp (a - b) := by unfold opN; rw [if_neg (by decide), if_pos rfl]
theorem opN_3 (a b : Int) : opN 3 a b = clp (a * b) := by unfold opN; rw [if_neg (by decide), if_neg (by decide), if_pos rfl]
theorem opN_4 (a b : Int) : opN 4 a b = if b = 0 then 0 else Int.fdiv a b := by unfold opN; rw [if_neg (by decide), if_neg (by decide), if_neg (by decide), if_pos rfl]
theorem opN_5 (a b : Int) : opN 5 a b = if a < b then a else b := by unfold opN; rw [if_neg (by decide), if_neg (by decide), if_neg (by decide), if_neg (by decide), if_pos rfl]
theorem opN_6 (a b : Int) : opN 6 a b = if b < a then a else b := by unfold opN; rw [if_neg (by decide), if_neg (by decide), if_neg (by decide), if_neg (by decide), if_neg (by decide), if_pos rfl]
theorem opN_11 (a b : Int) : opN 11 a b = if a < b then 1 else 0 := by unfold opN; rw [if_neg (by decide), if_neg (by decide), if_neg (by decide), if_neg (by decide), if_neg (by decide), if_neg (by decide), if_pos rfl]
theorem opN_12 (a b : Int) : opN 12 a b = if b < a then 1 else 0 := by unfold opN; rw [if_neg (by decide), if_neg (by decide), if_neg (by decide), if_neg (by decide), if_neg (by decide), if_neg (by decide), if_neg (by decide), if_pos rfl]
theorem opN_13 (a b : Int) : opN 13 a b = if a = b then 1 else 0 := by unfold opN; rw [if_neg (by decide), if_neg (by decide), if_neg (by decide), if_neg (by decide), if_neg (by decide), if_neg (by decide), if_neg (by decide), if_neg (by decide), if_pos rfl]
theorem opN_14 (a b : Int) : opN 14 a b = a * b := by unfold opN; rw [if_neg (by decide), if_neg (by decide), if_neg (by decide), if_neg (by decide), if_neg (by decide), if_neg (by decide), if_neg (by decide), if_neg (by decide), if_neg (by decide), if_pos rfl]
theorem opN_15 (a b : Int) : opN 15 a b = if 0 < a + b then 1 else 0 := by unfold opN; rw [if_neg (by decide), if_neg (by decide), if_neg (by decide), if_neg (by decide), if_neg (by decide), if_neg (by decide), if_neg (by decide), if_neg (by decide), if_neg (by decide), if_neg (by decide)]
theorem opN_ok {a b : Int} (hc : 1 ≤ c ∧ c ≤ 6) (ha : okN a) (hb : okN b) : okN (opN c a b) := by
  rcases (show c = 1 ∨ c = 2 ∨ c = 3 ∨ c = 4 ∨ c = 5 ∨ c = 6 by omega) with rfl | rfl | rfl | rfl | rfl | rfl
  · rw [opN_1]; exact clp_ok _
  · rw [opN_2]; exact clp_ok _
  · rw [opN_3]; exact clp_ok _
  · rw [opN_4]
    split
    · exact ⟨by omega, by omega⟩
    · exact fdiv_ok ha (by assumption)
  · rw [opN_5]; split <;> assumption
  · rw [opN_6]; split <;> assumption
theorem opN_cmp {a b : Int} (hc : 11 ≤ c ∧ c ≤ 13) : okB (opN c a b) := by
  rcases (show c = 11 ∨ c = 12 ∨ c = 13 by omega) with rfl | rfl | rfl
  · rw [opN_11]; unfold okB; split <;> simp
  · rw [opN_12]; unfold okB; split <;> simp
  · rw [opN_13]; unfold okB; split <;> simp
theorem opN_bool {a b : Int} (hc : c = 14 ∨ c = 15) (ha : okB a) (hb : okB b) : okB (opN c a b) := by
  unfold okB at ha hb
  rcases hc with rfl | rfl
  · rw [opN_14]; unfold okB; rcases ha with rfl | rfl <;> rcases hb with rfl | rfl <;> simp
  · rw [opN_15]; unfold okB; split <;> simp
theorem EN_bin (hx : EN h1 x) (hy : EN h2 y) (hc : 1 ≤ c ∧ c ≤ 6) (hh1 : h1 ≤ h) (hh2 : h2 + 1 ≤ h) : EN h (x ++ (y ++ [c])) := by
  refine ⟨fun d hd => by
    rcases List.mem_append.mp hd with z | z
    · exact hx.1 d z
    · rcases List.mem_append.mp z with z | z
      · exact hy.1 d z
      · have : d = c := by simpa using z
        omega, ?_⟩
  intro F lim S rest hF hl
  obtain ⟨a, ha, e1⟩ := hx.2 F lim S (y ++ ([c] ++ rest)) hF (by omega)
  obtain ⟨b, hb, e2⟩ := hy.2 F lim (a :: S) ([c] ++ rest) hF (by simp only [List.length_cons]; omega)
  refine ⟨opN c a b, opN_ok hc ha hb, ?_⟩
  rw [show x ++ (y ++ [c]) ++ rest = x ++ (y ++ ([c] ++ rest)) by simp, e1, e2, List.singleton_append, ev_op (.inl hc) ha hb]
theorem EB_cmp (hx : EN h1 x) (hy : EN h2 y) (hc : 11 ≤ c ∧ c ≤ 13) (hh1 : h1 ≤ h) (hh2 : h2 + 1 ≤ h) : EB h (x ++ (y ++ [c])) := by
  refine ⟨fun d hd => by
    rcases List.mem_append.mp hd with z | z
    · exact hx.1 d z
    · rcases List.mem_append.mp z with z | z
      · exact hy.1 d z
      · have : d = c := by simpa using z
        omega, ?_⟩
  intro F lim S rest hF hl
  obtain ⟨a, ha, e1⟩ := hx.2 F lim S (y ++ ([c] ++ rest)) hF (by omega)
  obtain ⟨b, hb, e2⟩ := hy.2 F lim (a :: S) ([c] ++ rest) hF (by simp only [List.length_cons]; omega)
  refine ⟨opN c a b, opN_cmp hc, ?_⟩
  rw [show x ++ (y ++ [c]) ++ rest = x ++ (y ++ ([c] ++ rest)) by simp, e1, e2, List.singleton_append, ev_op (.inr hc) ha hb]
theorem EB_bin (hx : EB h1 x) (hy : EB h2 y) (hc : c = 14 ∨ c = 15) (hh1 : h1 ≤ h) (hh2 : h2 + 1 ≤ h) : EB h (x ++ (y ++ [c])) := by
  refine ⟨fun d hd => by
    rcases List.mem_append.mp hd with z | z
    · exact hx.1 d z
    · rcases List.mem_append.mp z with z | z
      · exact hy.1 d z
      · have : d = c := by simpa using z
        omega, ?_⟩
  intro F lim S rest hF hl
  obtain ⟨a, ha, e1⟩ := hx.2 F lim S (y ++ ([c] ++ rest)) hF (by omega)
  obtain ⟨b, hb, e2⟩ := hy.2 F lim (a :: S) ([c] ++ rest) hF (by simp only [List.length_cons]; omega)
  refine ⟨opN c a b, opN_bool hc ha hb, ?_⟩
  rw [show x ++ (y ++ [c]) ++ rest = x ++ (y ++ ([c] ++ rest)) by simp, e1, e2, List.singleton_append, ev_bool hc ha hb]
theorem EB_not (hx : EB h x) : EB h (x ++ [16]) := by
  refine ⟨fun d hd => by
    rcases List.mem_append.mp hd with z | z
    · exact hx.1 d z
    · have : d = 16 := by simpa using z
      omega, ?_⟩
  intro F lim S rest hF hl
  obtain ⟨a, ha, e1⟩ := hx.2 F lim S ([16] ++ rest) hF (by omega)
  refine ⟨1 - a, ?_, ?_⟩
  · unfold okB at *; omega
  · rw [List.append_assoc, e1, List.singleton_append, ev_not ha]
end
