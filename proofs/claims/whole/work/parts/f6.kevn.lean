/-! rules reckoned: the numbers of both -/
def eI (x : Int) : Int32 := Int32.ofInt x
def eL (x : Int) : Int64 := Int64.ofInt x
def wdN (x : Int) : Prop := -1000000000000000 ≤ x ∧ x ≤ 1000000000000000
section
variable {σ : zS} {a b x y : Int}
theorem eI_t (h : okN x) : (eI x).toInt = x := Int32.toInt_ofInt_of_le (by unfold okN at h; omega) (by unfold okN at h; omega)
theorem eL_t (h : wdN x) : (eL x).toInt = x := Int64.toInt_ofInt_of_le (by unfold wdN at h; omega) (by unfold wdN at h; omega)
theorem okN_wd (h : okN x) : wdN x := by unfold okN at h; unfold wdN; omega
theorem e64 (h : okN x) : (eI x).toInt64 = eL x := by
  apply Int64.toInt_inj.mp
  rw [Int32.toInt_toInt64, eI_t h, eL_t (okN_wd h)]
theorem eI_lt (ha : okN a) (hb : okN b) : (eI a < eI b) = (a < b) := by rw [Int32.lt_iff_toInt_lt, eI_t ha, eI_t hb]
theorem eI_le (ha : okN a) (hb : okN b) : (eI a ≤ eI b) = (a ≤ b) := by rw [Int32.le_iff_toInt_le, eI_t ha, eI_t hb]
theorem eI_eq (ha : okN a) (hb : okN b) : (eI a = eI b) = (a = b) := by rw [← Int32.toInt_inj, eI_t ha, eI_t hb]
theorem eL_lt (ha : wdN a) (hb : wdN b) : (eL a < eL b) = (a < b) := by rw [Int64.lt_iff_toInt_lt, eL_t ha, eL_t hb]
theorem eL_le (ha : wdN a) (hb : wdN b) : (eL a ≤ eL b) = (a ≤ b) := by rw [Int64.le_iff_toInt_le, eL_t ha, eL_t hb]
theorem eL_eq (ha : wdN a) (hb : wdN b) : (eL a = eL b) = (a = b) := by rw [← Int64.toInt_inj, eL_t ha, eL_t hb]
theorem lit6 : (1000000 : Int64) = eL 1000000 := by decide +kernel
theorem litm6 : (-1000000 : Int64) = eL (-1000000) := by decide +kernel
theorem litz : (0 : Int64) = eL 0 := by decide +kernel
theorem wd_6 : wdN 1000000 := by unfold wdN; omega
theorem wd_m6 : wdN (-1000000) := by unfold wdN; omega
theorem wd_0 : wdN 0 := by unfold wdN; omega
theorem c_bound (h : wdN x) : zM 51 [.long (eL x)] σ = some (some (.int (eI (clp x))), σ) := by
  rw [q_X6_bound, q_J9_min_f86c9]
  by_cases q : x < 1000000
  · rw [if_pos (show 0 < lg_cmp 1000000 (eL x) by rw [cmp_gt, lit6, eL_lt h wd_6]; exact q), zbL_e, q_J9_max_f86c9]
    by_cases q2 : -1000000 < x
    · rw [if_pos (show lg_cmp (-1000000) (eL x) < 0 by rw [cmp_lt, litm6, eL_lt wd_m6 h]; exact q2), zbL_e]
      have e : clp x = x := by unfold clp; rw [if_neg (by omega), if_neg (by omega)]
      rw [e, show (eL x).toInt32 = eI x from Int64.toInt32_ofInt]
    · rw [if_neg (show ¬ lg_cmp (-1000000) (eL x) < 0 by rw [cmp_lt, litm6, eL_lt wd_m6 h]; exact q2), zbL_e]
      have e : clp x = -1000000 := by
        unfold clp
        rw [if_neg (by omega)]
        by_cases q3 : x < -1000000
        · rw [if_pos q3]
        · rw [if_neg q3]; omega
      rw [e, litm6, show (eL (-1000000)).toInt32 = eI (-1000000) from Int64.toInt32_ofInt]
  · rw [if_neg (show ¬ 0 < lg_cmp 1000000 (eL x) by rw [cmp_gt, lit6, eL_lt h wd_6]; exact q), zbL_e, q_J9_max_f86c9, if_pos (show lg_cmp (-1000000) 1000000 < 0 by rw [cmp_lt]; decide +kernel), zbL_e]
    have e : clp x = 1000000 := by
      unfold clp
      by_cases q3 : 1000000 < x
      · rw [if_pos q3]
      · rw [if_neg q3, if_neg (by omega)]; omega
    rw [e, lit6, show (eL 1000000).toInt32 = eI 1000000 from Int64.toInt32_ofInt]
theorem r_clip (h : wdN x) : zM 264 [.long (eL x)] σ = some (some (.long (eL (clp x))), σ) := by
  rw [q_X12_clip]
  unfold clp
  by_cases q : 1000000 < x
  · rw [if_neg (show ¬ lg_cmp (eL x) 1000000 ≤ 0 by rw [cmp_le, lit6, eL_le h wd_6]; omega), if_pos q, lit6]
  · rw [if_pos (show lg_cmp (eL x) 1000000 ≤ 0 by rw [cmp_le, lit6, eL_le h wd_6]; omega), if_neg q]
    by_cases q2 : x < -1000000
    · rw [if_neg (show ¬ 0 ≤ lg_cmp (eL x) (-1000000) by rw [cmp_ge, litm6, eL_le wd_m6 h]; omega), if_pos q2, litm6]
    · rw [if_pos (show 0 ≤ lg_cmp (eL x) (-1000000) by rw [cmp_ge, litm6, eL_le wd_m6 h]; omega), if_neg q2]
theorem mul_wd (ha : okN a) (hb : okN b) : wdN (a * b) := by
  have h1 : a.natAbs ≤ 1000000 := by unfold okN at ha; omega
  have h2 : b.natAbs ≤ 1000000 := by unfold okN at hb; omega
  have h3 := Nat.mul_le_mul h1 h2
  rw [← Int.natAbs_mul] at h3
  unfold wdN
  generalize a * b = z at *
  omega
theorem td_ok (ha : okN a) : okN (a.tdiv b) := by
  have h1 := Int.natAbs_tdiv_le_natAbs a b
  unfold okN at *
  generalize a.tdiv b = z at *
  omega
theorem tm_ok (ha : okN a) : okN (a.tdiv b * b) := by
  have h1 : (a.tdiv b * b).natAbs ≤ a.natAbs := by
    rw [Int.natAbs_mul, Int.natAbs_tdiv]
    exact Nat.div_mul_le_self _ _
  unfold okN at *
  generalize a.tdiv b * b = z at *
  omega
theorem fd_ex (hb : b ≠ 0) : a.fdiv b = if a.tdiv b * b = a then a.tdiv b else if (0 ≤ a ↔ 0 ≤ b) then a.tdiv b else a.tdiv b - 1 := by
  rw [Int.fdiv_eq_tdiv]
  by_cases q : b ∣ a
  · rw [if_pos q, if_pos (Int.tdiv_mul_cancel q), Int.sub_zero]
  · rw [if_neg q, if_neg (show ¬ a.tdiv b * b = a from fun z => q ⟨a.tdiv b, by rw [Int.mul_comm]; exact z.symm⟩)]
    by_cases qa : 0 ≤ a
    · by_cases qb : 0 ≤ b
      · rw [if_pos qa, if_pos qb, if_pos ⟨fun _ => qb, fun _ => qa⟩, Int.sub_zero]
      · rw [if_pos qa, if_neg qb, if_neg (fun z => qb (z.mp qa))]
    · by_cases qb : 0 ≤ b
      · rw [if_neg qa, if_pos qb, Int.sign_eq_one_of_pos (by omega), if_neg (fun z => qa (z.mpr qb))]
      · rw [if_neg qa, if_neg qb, Int.sign_eq_neg_one_of_neg (by omega), if_pos ⟨fun z => absurd z qa, fun z => absurd z qb⟩]
        omega
theorem xor_s {x y : Int32} : (0 ≤ x ^^^ y) = ((0 ≤ x.toInt) ↔ (0 ≤ y.toInt)) := by
  have e0 : (0 : Int32).toInt = 0 := rfl
  have m1 : x.toBitVec.msb = decide (x.toInt < 0) := BitVec.msb_eq_toInt
  have m2 : y.toBitVec.msb = decide (y.toInt < 0) := BitVec.msb_eq_toInt
  have m3 : (x ^^^ y).toBitVec.msb = decide ((x ^^^ y).toInt < 0) := BitVec.msb_eq_toInt
  have m4 : (x ^^^ y).toBitVec.msb = (x.toBitVec.msb ^^ y.toBitVec.msb) := BitVec.msb_xor
  rw [m4, m1, m2] at m3
  apply propext
  rw [Int32.le_iff_toInt_le, e0]
  by_cases p : x.toInt < 0
  · by_cases q : y.toInt < 0
    · rw [decide_eq_true p, decide_eq_true q] at m3
      have m5 := of_decide_eq_false (show decide ((x ^^^ y).toInt < 0) = false from m3.symm)
      omega
    · rw [decide_eq_true p, decide_eq_false q] at m3
      have m5 := of_decide_eq_true (show decide ((x ^^^ y).toInt < 0) = true from m3.symm)
      omega
  · by_cases q : y.toInt < 0
    · rw [decide_eq_false p, decide_eq_true q] at m3
      have m5 := of_decide_eq_true (show decide ((x ^^^ y).toInt < 0) = true from m3.symm)
      omega
    · rw [decide_eq_false p, decide_eq_false q] at m3
      have m5 := of_decide_eq_false (show decide ((x ^^^ y).toInt < 0) = false from m3.symm)
      omega
theorem c_fd (ha : okN a) (hb : okN b) (h0 : b ≠ 0) : zM 321 [.int (eI a), .int (eI b)] σ = some (some (.int (eI (a.fdiv b))), σ) := by
  have n0 : ¬ eI b = 0 := fun z => by
    have e0 : (0 : Int32).toInt = 0 := rfl
    have := congrArg Int32.toInt z
    rw [eI_t hb, e0] at this
    exact h0 this
  have b1 : Int32.minValue.toInt = -2147483648 := by decide +kernel
  have b2 : Int32.maxValue.toInt = 2147483647 := by decide +kernel
  have dq : eI a / eI b = eI (a.tdiv b) := (Int32.ofInt_tdiv (by rw [b1]; unfold okN at ha; omega) (by rw [b2]; unfold okN at ha; omega) (by rw [b1]; unfold okN at hb; omega) (by rw [b2]; unfold okN at hb; omega)).symm
  have xq := xor_s (x := eI a) (y := eI b)
  rw [eI_t ha, eI_t hb] at xq
  have mq : (eI (a.tdiv b) * eI b = eI a) = (a.tdiv b * b = a) := by
    rw [show eI (a.tdiv b) * eI b = eI (a.tdiv b * b) from (Int32.ofInt_mul _ _).symm, eI_eq (tm_ok ha) ha]
  have sq : eI (a.tdiv b) - 1 = eI (a.tdiv b - 1) := by
    rw [show (1 : Int32) = Int32.ofInt 1 by decide +kernel]
    exact (Int32.ofInt_sub _ _).symm
  rw [q_J9_floorDiv_7cf53, if_neg n0, dq, fd_ex h0]
  by_cases q1 : (0 ≤ a ↔ 0 ≤ b)
  · rw [if_pos (show 0 ≤ eI a ^^^ eI b by rw [xq]; exact q1)]
    by_cases q2 : a.tdiv b * b = a
    · rw [if_pos q2]
    · rw [if_neg q2, if_pos q1]
  · rw [if_neg (show ¬ 0 ≤ eI a ^^^ eI b by rw [xq]; exact q1)]
    by_cases q2 : a.tdiv b * b = a
    · rw [if_pos (show eI (a.tdiv b) * eI b = eI a by rw [mq]; exact q2), if_pos q2]
    · rw [if_neg (show ¬ eI (a.tdiv b) * eI b = eI a by rw [mq]; exact q2), if_neg q2, if_neg q1, sq]
theorem r_floor (ha : okN a) (hb : okN b) : zM 265 [.long (eL a), .long (eL b)] σ = some (some (.long (eL (if b = 0 then 0 else a.fdiv b))), σ) := by
  rw [q_X12_floor]
  by_cases h0 : b = 0
  · rw [if_pos (show lg_cmp (eL b) 0 = 0 by rw [cmp_eq, litz, eL_eq (okN_wd hb) wd_0]; exact h0), if_pos h0, litz]
  have n0 : ¬ eL b = 0 := by rw [litz, eL_eq (okN_wd hb) wd_0]; exact h0
  have b1 : Int64.minValue.toInt = -9223372036854775808 := by decide +kernel
  have b2 : Int64.maxValue.toInt = 9223372036854775807 := by decide +kernel
  have dq : eL a / eL b = eL (a.tdiv b) := (Int64.ofInt_tdiv (by rw [b1]; unfold okN at ha; omega) (by rw [b2]; unfold okN at ha; omega) (by rw [b1]; unfold okN at hb; omega) (by rw [b2]; unfold okN at hb; omega)).symm
  have mq : (eL (a.tdiv b) * eL b = eL a) = (a.tdiv b * b = a) := by
    rw [show eL (a.tdiv b) * eL b = eL (a.tdiv b * b) from (Int64.ofInt_mul _ _).symm, eL_eq (okN_wd (tm_ok ha)) (okN_wd ha)]
  have sq : eL (a.tdiv b) - 1 = eL (a.tdiv b - 1) := by
    rw [show (1 : Int64) = Int64.ofInt 1 by decide +kernel]
    exact (Int64.ofInt_sub _ _).symm
  have g0 : ∀ z, wdN z → (0 ≤ lg_cmp (eL z) 0) = (0 ≤ z) := fun z hz => by rw [cmp_ge, litz, eL_le wd_0 hz]
  rw [if_neg (show ¬ lg_cmp (eL b) 0 = 0 by rw [cmp_eq]; exact n0), if_neg n0, if_neg n0, dq, if_neg h0, fd_ex h0]
  by_cases q2 : a.tdiv b * b = a
  · rw [if_pos (show lg_cmp (eL a - eL (a.tdiv b) * eL b) 0 = 0 by rw [cmp_eq]; exact sub0.mpr (by rw [mq]; exact q2)), if_pos q2]
  · rw [if_neg (show ¬ lg_cmp (eL a - eL (a.tdiv b) * eL b) 0 = 0 by rw [cmp_eq]; exact fun z => q2 (by rw [← mq]; exact sub0.mp z)), if_neg q2]
    by_cases qa : 0 ≤ a
    · rw [if_pos (show 0 ≤ lg_cmp (eL a) 0 by rw [g0 a (okN_wd ha)]; exact qa)]
      by_cases qb : 0 ≤ b
      · rw [if_pos (show 0 ≤ lg_cmp (eL b) 0 by rw [g0 b (okN_wd hb)]; exact qb), if_pos rfl, if_pos ⟨fun _ => qb, fun _ => qa⟩]
      · rw [if_neg (show ¬ 0 ≤ lg_cmp (eL b) 0 by rw [g0 b (okN_wd hb)]; exact qb), if_neg (by decide), if_neg (fun z => qb (z.mp qa)), sq]
    · rw [if_neg (show ¬ 0 ≤ lg_cmp (eL a) 0 by rw [g0 a (okN_wd ha)]; exact qa)]
      by_cases qb : 0 ≤ b
      · rw [if_pos (show 0 ≤ lg_cmp (eL b) 0 by rw [g0 b (okN_wd hb)]; exact qb), if_neg (by decide), if_neg (fun z => qa (z.mpr qb)), sq]
      · rw [if_neg (show ¬ 0 ≤ lg_cmp (eL b) 0 by rw [g0 b (okN_wd hb)]; exact qb), if_pos rfl, if_pos ⟨fun z => absurd z qa, fun z => absurd z qb⟩]
theorem c_rk1 (ha : okN a) (hb : okN b) : zM 50 [.int (cOf 1), .int (eI a), .int (eI b)] σ = some (some (.int (eI (opN 1 a b))), σ) := by
  rw [show cOf 1 = (-1) by decide +kernel, q_X6_reckon, if_neg (show ¬ (-1 : Int32) = (-11) by decide), if_neg (show ¬ (-1 : Int32) = (-10) by decide), if_neg (show ¬ (-1 : Int32) = (-9) by decide), if_neg (show ¬ (-1 : Int32) = (-8) by decide), if_neg (show ¬ (-1 : Int32) = (-7) by decide), if_neg (show ¬ (-1 : Int32) = (-6) by decide), if_neg (show ¬ (-1 : Int32) = (-5) by decide), if_neg (show ¬ (-1 : Int32) = (-4) by decide), if_neg (show ¬ (-1 : Int32) = (-3) by decide), if_neg (show ¬ (-1 : Int32) = (-2) by decide), if_pos rfl, e64 ha, e64 hb, show eL a + eL b = eL (a + b) from (Int64.ofInt_add a b).symm, c_bound (show wdN (a + b) by unfold wdN; unfold okN at ha hb; omega), zbI_e, opN_1]
theorem c_rk2 (ha : okN a) (hb : okN b) : zM 50 [.int (cOf 2), .int (eI a), .int (eI b)] σ = some (some (.int (eI (opN 2 a b))), σ) := by
  rw [show cOf 2 = (-2) by decide +kernel, q_X6_reckon, if_neg (show ¬ (-2 : Int32) = (-11) by decide), if_neg (show ¬ (-2 : Int32) = (-10) by decide), if_neg (show ¬ (-2 : Int32) = (-9) by decide), if_neg (show ¬ (-2 : Int32) = (-8) by decide), if_neg (show ¬ (-2 : Int32) = (-7) by decide), if_neg (show ¬ (-2 : Int32) = (-6) by decide), if_neg (show ¬ (-2 : Int32) = (-5) by decide), if_neg (show ¬ (-2 : Int32) = (-4) by decide), if_neg (show ¬ (-2 : Int32) = (-3) by decide), if_pos rfl, e64 ha, e64 hb, show eL a - eL b = eL (a - b) from (Int64.ofInt_sub a b).symm, c_bound (show wdN (a - b) by unfold wdN; unfold okN at ha hb; omega), zbI_e, opN_2]
theorem c_rk3 (ha : okN a) (hb : okN b) : zM 50 [.int (cOf 3), .int (eI a), .int (eI b)] σ = some (some (.int (eI (opN 3 a b))), σ) := by
  rw [show cOf 3 = (-3) by decide +kernel, q_X6_reckon, if_neg (show ¬ (-3 : Int32) = (-11) by decide), if_neg (show ¬ (-3 : Int32) = (-10) by decide), if_neg (show ¬ (-3 : Int32) = (-9) by decide), if_neg (show ¬ (-3 : Int32) = (-8) by decide), if_neg (show ¬ (-3 : Int32) = (-7) by decide), if_neg (show ¬ (-3 : Int32) = (-6) by decide), if_neg (show ¬ (-3 : Int32) = (-5) by decide), if_neg (show ¬ (-3 : Int32) = (-4) by decide), if_pos rfl, e64 ha, e64 hb, show eL a * eL b = eL (a * b) from (Int64.ofInt_mul a b).symm, c_bound (mul_wd ha hb), zbI_e, opN_3]
theorem c_rk4 (ha : okN a) (hb : okN b) : zM 50 [.int (cOf 4), .int (eI a), .int (eI b)] σ = some (some (.int (eI (opN 4 a b))), σ) := by
  rw [show cOf 4 = (-4) by decide +kernel, q_X6_reckon, if_neg (show ¬ (-4 : Int32) = (-11) by decide), if_neg (show ¬ (-4 : Int32) = (-10) by decide), if_neg (show ¬ (-4 : Int32) = (-9) by decide), if_neg (show ¬ (-4 : Int32) = (-8) by decide), if_neg (show ¬ (-4 : Int32) = (-7) by decide), if_neg (show ¬ (-4 : Int32) = (-6) by decide), if_neg (show ¬ (-4 : Int32) = (-5) by decide), if_pos rfl, opN_4]
  by_cases q : b = 0
  · rw [if_pos (show eI b = 0 by rw [q]; decide +kernel), if_pos q, show eI 0 = 0 by decide +kernel]
  · have n0 : ¬ eI b = 0 := fun z => by
      have e0 : (0 : Int32).toInt = 0 := rfl
      have := congrArg Int32.toInt z
      rw [eI_t hb, e0] at this
      exact q this
    rw [if_neg n0, if_neg q, c_fd ha hb q, zbI_e]
theorem c_rk5 (ha : okN a) (hb : okN b) : zM 50 [.int (cOf 5), .int (eI a), .int (eI b)] σ = some (some (.int (eI (opN 5 a b))), σ) := by
  rw [show cOf 5 = (-5) by decide +kernel, q_X6_reckon, if_neg (show ¬ (-5 : Int32) = (-11) by decide), if_neg (show ¬ (-5 : Int32) = (-10) by decide), if_neg (show ¬ (-5 : Int32) = (-9) by decide), if_neg (show ¬ (-5 : Int32) = (-8) by decide), if_neg (show ¬ (-5 : Int32) = (-7) by decide), if_neg (show ¬ (-5 : Int32) = (-6) by decide), if_pos rfl, opN_5, q_J9_min_7cf53]
  by_cases q : b < a
  · rw [if_pos (show eI b < eI a by rw [eI_lt hb ha]; exact q), if_neg (by omega), zbI_e]
  · rw [if_neg (show ¬ eI b < eI a by rw [eI_lt hb ha]; exact q), zbI_e]
    by_cases q2 : a < b
    · rw [if_pos q2]
    · rw [if_neg q2, show a = b by omega]
theorem c_rk6 (ha : okN a) (hb : okN b) : zM 50 [.int (cOf 6), .int (eI a), .int (eI b)] σ = some (some (.int (eI (opN 6 a b))), σ) := by
  rw [show cOf 6 = (-6) by decide +kernel, q_X6_reckon, if_neg (show ¬ (-6 : Int32) = (-11) by decide), if_neg (show ¬ (-6 : Int32) = (-10) by decide), if_neg (show ¬ (-6 : Int32) = (-9) by decide), if_neg (show ¬ (-6 : Int32) = (-8) by decide), if_neg (show ¬ (-6 : Int32) = (-7) by decide), if_pos rfl, opN_6, q_J9_max_7cf53]
  by_cases q : a < b
  · rw [if_pos (show eI a < eI b by rw [eI_lt ha hb]; exact q), if_neg (by omega), zbI_e]
  · rw [if_neg (show ¬ eI a < eI b by rw [eI_lt ha hb]; exact q), zbI_e]
    by_cases q2 : b < a
    · rw [if_pos q2]
    · rw [if_neg q2, show a = b by omega]
theorem c_rk11 (ha : okN a) (hb : okN b) : zM 50 [.int (cOf 11), .int (eI a), .int (eI b)] σ = some (some (.int (eI (opN 11 a b))), σ) := by
  rw [show cOf 11 = (-7) by decide +kernel, q_X6_reckon, if_neg (show ¬ (-7 : Int32) = (-11) by decide), if_neg (show ¬ (-7 : Int32) = (-10) by decide), if_neg (show ¬ (-7 : Int32) = (-9) by decide), if_neg (show ¬ (-7 : Int32) = (-8) by decide), if_pos rfl, opN_11]
  by_cases q : b ≤ a
  · rw [if_pos (show eI b ≤ eI a by rw [eI_le hb ha]; exact q), if_neg (by omega), show eI 0 = 0 by decide +kernel]
  · rw [if_neg (show ¬ eI b ≤ eI a by rw [eI_le hb ha]; exact q), if_pos (by omega), show eI 1 = 1 by decide +kernel]
theorem c_rk12 (ha : okN a) (hb : okN b) : zM 50 [.int (cOf 12), .int (eI a), .int (eI b)] σ = some (some (.int (eI (opN 12 a b))), σ) := by
  rw [show cOf 12 = (-8) by decide +kernel, q_X6_reckon, if_neg (show ¬ (-8 : Int32) = (-11) by decide), if_neg (show ¬ (-8 : Int32) = (-10) by decide), if_neg (show ¬ (-8 : Int32) = (-9) by decide), if_pos rfl, opN_12]
  by_cases q : a ≤ b
  · rw [if_pos (show eI a ≤ eI b by rw [eI_le ha hb]; exact q), if_neg (by omega), show eI 0 = 0 by decide +kernel]
  · rw [if_neg (show ¬ eI a ≤ eI b by rw [eI_le ha hb]; exact q), if_pos (by omega), show eI 1 = 1 by decide +kernel]
theorem c_rk13 (ha : okN a) (hb : okN b) : zM 50 [.int (cOf 13), .int (eI a), .int (eI b)] σ = some (some (.int (eI (opN 13 a b))), σ) := by
  rw [show cOf 13 = (-9) by decide +kernel, q_X6_reckon, if_neg (show ¬ (-9 : Int32) = (-11) by decide), if_neg (show ¬ (-9 : Int32) = (-10) by decide), if_pos rfl, opN_13]
  by_cases q : a = b
  · rw [if_pos (show eI a = eI b by rw [eI_eq ha hb]; exact q), if_pos q, show eI 1 = 1 by decide +kernel]
  · rw [if_neg (show ¬ eI a = eI b by rw [eI_eq ha hb]; exact q), if_neg q, show eI 0 = 0 by decide +kernel]
theorem c_rk14 (ha : okB a) (hb : okB b) : zM 50 [.int (cOf 14), .int (eI a), .int (eI b)] σ = some (some (.int (eI (opN 14 a b))), σ) := by
  rw [show cOf 14 = (-11) by decide +kernel, q_X6_reckon, if_pos rfl]
  have e : eI a &&& eI b = eI (opN 14 a b) := by
    rcases ha with rfl | rfl
    · rcases hb with rfl | rfl
      · decide +kernel
      · decide +kernel
    · rcases hb with rfl | rfl
      · decide +kernel
      · decide +kernel
  rw [e]
theorem c_rk15 (ha : okB a) (hb : okB b) : zM 50 [.int (cOf 15), .int (eI a), .int (eI b)] σ = some (some (.int (eI (opN 15 a b))), σ) := by
  rw [show cOf 15 = (-10) by decide +kernel, q_X6_reckon, if_neg (show ¬ (-10 : Int32) = (-11) by decide), if_pos rfl]
  have e : eI a ||| eI b = eI (opN 15 a b) := by
    rcases ha with rfl | rfl
    · rcases hb with rfl | rfl
      · decide +kernel
      · decide +kernel
    · rcases hb with rfl | rfl
      · decide +kernel
      · decide +kernel
  rw [e]
end
