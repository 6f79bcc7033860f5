/-! letter: longs divided -/
section
variable {v L : Nat}
theorem lN_div {v d : Nat} (h : v < 2 ^ 31) (hd : 0 < d) (hd2 : d < 2 ^ 31) : lN v / lN d = lN (v / d) := by
  apply Int64.toInt_inj.mp
  have e : ((v : Int)).tdiv (d : Int) = ((v / d : Nat) : Int) := rfl
  have hq : v / d ≤ v := Nat.div_le_self _ _
  rw [Int64.toInt_div, lN_toInt h, lN_toInt hd2, e]
  generalize v / d = w at hq
  rw [lN_toInt (by omega), Int.bmod_eq_of_le (by omega) (by omega)]
end
