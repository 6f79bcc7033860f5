/-! means: floors, money -/
def fdv (x y : Int64) : Int64 := if 0 ≤ x then x / y else if x / y * y = x then x / y else x / y - 1
def mK (pr fa wi n : Nat) : Int32 := if n ≤ 1 then nI pr - nI fa - 0 else nI pr - nI fa - (nI fa + (nI n - 1) * nI wi)
def mN (ch fa wi n : Nat) : Int32 := nI ch - 2 * nI fa - nI n * nI wi
def mvl (kp : Nat) (a b : Int32) : Int32 := (fdv (lN kp * a.toInt64 + (1000000000000 - lN kp) * b.toInt64) 10000000000).toInt32
def odv (lv ch m : Int32) : Int32 := if 0 < 100 - lv * ch then (fdv (m.toInt64 * (100 - lv * ch).toInt64) 100).toInt32 else 0
section
variable {σ : zS} {x y : Int64} {a b : Int32} {pr fa wi ch n kp : Nat}
theorem xor_nn (hy : 0 < y) : (0 ≤ x ^^^ y) = (0 ≤ x) := by
  have e0 : (0 : Int64).toInt = 0 := rfl
  have hy' := Int64.lt_iff_toInt_lt.mp hy
  have m1 : x.toBitVec.msb = decide (x.toInt < 0) := BitVec.msb_eq_toInt
  have m2 : y.toBitVec.msb = decide (y.toInt < 0) := BitVec.msb_eq_toInt
  have m3 : (x ^^^ y).toBitVec.msb = decide ((x ^^^ y).toInt < 0) := BitVec.msb_eq_toInt
  have m4 : (x ^^^ y).toBitVec.msb = (x.toBitVec.msb ^^ y.toBitVec.msb) := BitVec.msb_xor
  rw [m4, m1, m2, decide_eq_false (show ¬ y.toInt < 0 by omega), Bool.xor_false] at m3
  have m5 := decide_eq_decide.mp m3
  apply propext
  rw [Int64.le_iff_toInt_le, Int64.le_iff_toInt_le]
  omega
theorem j_fd (hy : 0 < y) : zM 322 [.long x, .long y] σ = some (some (.long (fdv x y)), σ) := by
  have y0 : ¬ y = 0 := fun z => by
    have := Int64.lt_iff_toInt_lt.mp hy
    rw [z] at this
    omega
  rw [q_J9_floorDiv_f86c9, if_neg y0]
  unfold fdv
  by_cases q : 0 ≤ x
  · rw [if_pos (by rw [cmp_ge, xor_nn hy]; exact q), if_pos q]
  · rw [if_neg (by rw [cmp_ge, xor_nn hy]; exact q), if_neg q]
    by_cases q2 : x / y * y = x
    · rw [if_pos (by rw [cmp_eq]; exact q2), if_pos q2]
    · rw [if_neg (by rw [cmp_eq]; exact q2), if_neg q2]
theorem sub0 {x y : Int64} : x - y = 0 ↔ y = x := by
  constructor
  · intro h
    have := Int64.sub_add_cancel x y
    rw [h, Int64.zero_add] at this
    exact this
  · intro h
    rw [h, Int64.sub_self]
theorem r_fo (hy : ¬ y = 0) : zM 256 [.long x, .long y] σ = some (some (.long (fdv x y)), σ) := by
  rw [q_X12_floorOf, if_neg hy, if_neg hy]
  unfold fdv
  by_cases q2 : x / y * y = x
  · rw [if_pos (by rw [cmp_eq]; exact sub0.mpr q2), if_pos q2]
    split <;> rfl
  · rw [if_neg (by rw [cmp_eq]; exact fun z => q2 (sub0.mp z)), if_neg q2]
    by_cases q : 0 ≤ x
    · rw [if_pos (by rw [cmp_ge]; exact q), if_pos q]
    · rw [if_neg (by rw [cmp_ge]; exact q), if_neg q]
theorem fdv_ti (hy : 0 < y.toInt) : (fdv x y).toInt = x.toInt / y.toInt := by
  have e0 : (0 : Int64).toInt = 0 := rfl
  have e1 : (1 : Int64).toInt = 1 := by decide
  have x1 := Int64.toInt_lt x
  have x2 := Int64.le_toInt x
  have na := Int.natAbs_tdiv_le_natAbs x.toInt y.toInt
  have tq := Int.tdiv_eq_ediv (a := x.toInt) (b := y.toInt)
  have em := Int.emod_nonneg x.toInt (show y.toInt ≠ 0 by omega)
  have el := Int.emod_lt_of_pos x.toInt hy
  have ed := Int.mul_ediv_add_emod x.toInt y.toInt
  unfold fdv
  by_cases q : 0 ≤ x
  · have q' : 0 ≤ x.toInt := Int64.le_iff_toInt_le.mp q
    rw [if_pos (.inl q')] at tq
    rw [if_pos q, Int64.toInt_div, Int.bmod_eq_of_le (by omega) (by omega)]
    omega
  · have q' : x.toInt < 0 := by
      have := Int64.not_le.mp q
      exact Int64.lt_iff_toInt_lt.mp this
    have xn := Int.ediv_neg_of_neg_of_pos q' hy
    have t0 : x.toInt.tdiv y.toInt ≤ 0 := by
      rw [tq]
      split
      · omega
      · rw [Int.sign_eq_one_of_pos hy]; omega
    have t1 : x.toInt.tdiv y.toInt * y.toInt ≤ 0 := Int.mul_nonpos_of_nonpos_of_nonneg t0 (by omega)
    have t2 : x.toInt.tdiv y.toInt * y.toInt ≤ x.toInt.tdiv y.toInt * 1 := Int.mul_le_mul_of_nonpos_left t0 (by omega)
    have dv : (x / y).toInt = x.toInt.tdiv y.toInt := by
      rw [Int64.toInt_div, Int.bmod_eq_of_le (by omega) (by omega)]
    rw [if_neg q]
    by_cases qd : y.toInt ∣ x.toInt
    · rw [if_pos (.inr qd)] at tq
      have tm := Int.tdiv_mul_cancel qd
      have : x / y * y = x := by
        apply Int64.toInt_inj.mp
        rw [Int64.toInt_mul, dv, tm, Int.bmod_eq_of_le (by omega) (by omega)]
      rw [if_pos this, dv, tq, Int.add_zero]
    · rw [if_neg (fun z => z.elim (fun z => by omega) qd), Int.sign_eq_one_of_pos hy] at tq
      have tt : x.toInt.tdiv y.toInt * y.toInt = x.toInt - x.toInt % y.toInt + y.toInt := by
        rw [tq, Int.add_mul, Int.one_mul, Int.mul_comm]
        omega
      have : ¬ x / y * y = x := by
        intro z
        apply qd
        have em0 : x.toInt % y.toInt = 0 ∨ x.toInt % y.toInt ≠ 0 := by omega
        rcases em0 with z0 | z0
        · exact Int.dvd_of_emod_eq_zero z0
        · exfalso
          have z2 := congrArg Int64.toInt z
          rw [Int64.toInt_mul, dv, Int.bmod_eq_of_le (by omega) (by omega)] at z2
          omega
      rw [if_neg this, Int64.toInt_sub, dv, e1, tq, Int.bmod_eq_of_le (by omega) (by omega)]
      omega
theorem mK_ti (h1 : pr ≤ 9999) (h2 : fa ≤ 9999) (h3 : wi ≤ 9999) (hn : n ≤ 3) : -50000 ≤ (mK pr fa wi n).toInt ∧ (mK pr fa wi n).toInt ≤ 50000 := by
  have e0 : (0 : Int32).toInt = 0 := rfl
  have n3 : (n - 1) * wi ≤ 2 * 9999 := Nat.mul_le_mul (by omega) h3
  unfold mK
  split
  · rw [Int32.toInt_sub, Int32.toInt_sub, nI_toInt (by omega), nI_toInt (by omega), e0, Int.bmod_eq_of_le (n := ((pr : Int) - fa)) (by omega) (by omega), Int.bmod_eq_of_le (by omega) (by omega)]
    omega
  · rw [nI_subR (n := 1) (by omega), pk_mul, nI_add, Int32.toInt_sub, Int32.toInt_sub, nI_toInt (by omega), nI_toInt (by omega), nI_toInt (by omega), Int.bmod_eq_of_le (n := ((pr : Int) - fa)) (by omega) (by omega), Int.bmod_eq_of_le (by omega) (by omega)]
    omega
theorem mN_ti (h1 : ch ≤ 99) (h2 : fa ≤ 9999) (h3 : wi ≤ 9999) (hn : n ≤ 3) : -50000 ≤ (mN ch fa wi n).toInt ∧ (mN ch fa wi n).toInt ≤ 50000 := by
  have n3 : n * wi ≤ 3 * 9999 := Nat.mul_le_mul hn h3
  unfold mN
  rw [nI_mulL 2 fa, pk_mul, Int32.toInt_sub, Int32.toInt_sub, nI_toInt (by omega), nI_toInt (by omega), nI_toInt (by omega), Int.bmod_eq_of_le (n := ((ch : Int) - ((2 * fa : Nat) : Int))) (by omega) (by omega), Int.bmod_eq_of_le (by omega) (by omega)]
  omega
/-- the class's floor and the reference's -/
theorem mvl_ref (hk : kp ≤ 1000000000000) (ha : -50000 ≤ a.toInt ∧ a.toInt ≤ 50000) (hb : -50000 ≤ b.toInt ∧ b.toInt ≤ 50000) : (fdv (100 * (lN kp * a.toInt64 + lN (1000000000000 - kp) * b.toInt64)) 1000000000000).toInt32 = mvl kp a b := by
  have e12 : (1000000000000 : Int64).toInt = 1000000000000 := by decide +kernel
  have e10 : (10000000000 : Int64).toInt = 10000000000 := by decide +kernel
  have e100 : (100 : Int64).toInt = 100 := by decide
  have es : (1000000000000 : Int64) - lN kp = lN (1000000000000 - kp) := by
    rw [show (1000000000000 : Int64) = lN 1000000000000 from rfl, lN_sub hk]
  unfold mvl
  rw [es]
  refine congrArg Int64.toInt32 ?_
  have p1 : (kp : Int) * a.toInt ≤ (kp : Int) * 50000 := Int.mul_le_mul_of_nonneg_left ha.2 (by omega)
  have p2 : (kp : Int) * (-50000) ≤ (kp : Int) * a.toInt := Int.mul_le_mul_of_nonneg_left ha.1 (by omega)
  have p3 : ((1000000000000 - kp : Nat) : Int) * b.toInt ≤ ((1000000000000 - kp : Nat) : Int) * 50000 := Int.mul_le_mul_of_nonneg_left hb.2 (by omega)
  have p4 : ((1000000000000 - kp : Nat) : Int) * (-50000) ≤ ((1000000000000 - kp : Nat) : Int) * b.toInt := Int.mul_le_mul_of_nonneg_left hb.1 (by omega)
  have eX : (lN kp * a.toInt64 + lN (1000000000000 - kp) * b.toInt64).toInt = (kp : Int) * a.toInt + ((1000000000000 - kp : Nat) : Int) * b.toInt := by
    rw [Int64.toInt_add, Int64.toInt_mul, Int64.toInt_mul, pk_lT (by omega), pk_lT (by omega), Int32.toInt_toInt64, Int32.toInt_toInt64, Int.bmod_eq_of_le (n := ((kp : Int) * a.toInt)) (by omega) (by omega), Int.bmod_eq_of_le (n := (((1000000000000 - kp : Nat) : Int) * b.toInt)) (by omega) (by omega), Int.bmod_eq_of_le (by omega) (by omega)]
  generalize (lN kp * a.toInt64 + lN (1000000000000 - kp) * b.toInt64) = X at eX
  generalize (kp : Int) * a.toInt = u at *
  generalize ((1000000000000 - kp : Nat) : Int) * b.toInt = v at *
  have eY : (100 * X).toInt = 100 * X.toInt := by
    rw [Int64.toInt_mul, e100, Int.bmod_eq_of_le (by omega) (by omega)]
  apply Int64.toInt_inj.mp
  rw [fdv_ti (by rw [e12]; omega), fdv_ti (by rw [e10]; omega), e12, e10, eY]
  omega
theorem fdv_0 (hy : 0 < y.toInt) : fdv 0 y = 0 := by
  apply Int64.toInt_inj.mp
  rw [fdv_ti hy]
  have e0 : (0 : Int64).toInt = 0 := rfl
  rw [e0, Int.zero_ediv]
end
