/-! a house P (16 or 60) and what hangs on it; laid by wip/whole/gen/kfam.py -/
abbrev HP (P : Nat) : Prop := P = 16 ∨ P = 60
section
variable {σ : zS} {P : Nat}
theorem tg_P (h : Sh σ) (hP : HP P) : tg σ P = 1 := by
  rcases hP with rfl | rfl
  · exact tg_16 h
  · exact tg_60 h
theorem tg_P1 (h : Sh σ) (hP : HP P) : tg σ (P + 1) = 68 := by
  rcases hP with rfl | rfl
  · exact tg_17 h
  · exact tg_61 h
theorem ln_P1 (h : Sh σ) (hP : HP P) : ln σ (P + 1) = 8 := by
  rcases hP with rfl | rfl
  · exact ln_17 h
  · exact ln_61 h
theorem tg_P2 (h : Sh σ) (hP : HP P) : tg σ (P + 2) = 73 := by
  rcases hP with rfl | rfl
  · exact tg_18 h
  · exact tg_62 h
theorem ln_P2 (h : Sh σ) (hP : HP P) : ln σ (P + 2) = 4 := by
  rcases hP with rfl | rfl
  · exact ln_18 h
  · exact ln_62 h
theorem tg_P3 (h : Sh σ) (hP : HP P) : tg σ (P + 3) = 70 := by
  rcases hP with rfl | rfl
  · exact tg_19 h
  · exact tg_63 h
theorem ln_P3 (h : Sh σ) (hP : HP P) : ln σ (P + 3) = 6 := by
  rcases hP with rfl | rfl
  · exact ln_19 h
  · exact ln_63 h
theorem tg_P4 (h : Sh σ) (hP : HP P) : tg σ (P + 4) = 32 := by
  rcases hP with rfl | rfl
  · exact tg_20 h
  · exact tg_64 h
theorem ln_P4 (h : Sh σ) (hP : HP P) : ln σ (P + 4) = 5 := by
  rcases hP with rfl | rfl
  · exact ln_20 h
  · exact ln_64 h
theorem tg_P5 (h : Sh σ) (hP : HP P) : tg σ (P + 5) = 10 := by
  rcases hP with rfl | rfl
  · exact tg_21 h
  · exact tg_65 h
theorem tg_P6 (h : Sh σ) (hP : HP P) : tg σ (P + 6) = 32 := by
  rcases hP with rfl | rfl
  · exact tg_22 h
  · exact tg_66 h
theorem ln_P6 (h : Sh σ) (hP : HP P) : ln σ (P + 6) = 160 := by
  rcases hP with rfl | rfl
  · exact ln_22 h
  · exact ln_66 h
theorem tg_P7 (h : Sh σ) (hP : HP P) : tg σ (P + 7) = 32 := by
  rcases hP with rfl | rfl
  · exact tg_23 h
  · exact tg_67 h
theorem ln_P7 (h : Sh σ) (hP : HP P) : ln σ (P + 7) = 1120 := by
  rcases hP with rfl | rfl
  · exact ln_23 h
  · exact ln_67 h
theorem gR_P_0 (h : Sh σ) (hP : HP P) : gR σ P 0 = some (P + 1) := by
  rcases hP with rfl | rfl
  · exact gR_16_0 h
  · exact gR_60_0 h
theorem gR_P_1 (h : Sh σ) (hP : HP P) : gR σ P 1 = some (P + 2) := by
  rcases hP with rfl | rfl
  · exact gR_16_1 h
  · exact gR_60_1 h
theorem gR_P_2 (h : Sh σ) (hP : HP P) : gR σ P 2 = some (P + 3) := by
  rcases hP with rfl | rfl
  · exact gR_16_2 h
  · exact gR_60_2 h
theorem gR_P_3 (h : Sh σ) (hP : HP P) : gR σ P 3 = some (P + 4) := by
  rcases hP with rfl | rfl
  · exact gR_16_3 h
  · exact gR_60_3 h
theorem gR_P_4 (h : Sh σ) (hP : HP P) : gR σ P 4 = some (P + 5) := by
  rcases hP with rfl | rfl
  · exact gR_16_4 h
  · exact gR_60_4 h
theorem gR_P5_0 (h : Sh σ) (hP : HP P) : gR σ (P + 5) 0 = some (P + 6) := by
  rcases hP with rfl | rfl
  · exact gR_21_0 h
  · exact gR_65_0 h
theorem gR_P5_1 (h : Sh σ) (hP : HP P) : gR σ (P + 5) 1 = some (P + 7) := by
  rcases hP with rfl | rfl
  · exact gR_21_1 h
  · exact gR_65_1 h
theorem gR_Plast (h : Sh σ) (hP : HP P) {i : Nat} (hi : i < 8) : gR σ (P + 1) i = some (P + 8 + 2 * i) := by
  rcases hP with rfl | rfl
  · exact gR_Alast h hi
  · exact gR_Blast h hi
theorem tg_Plast (h : Sh σ) (hP : HP P) {i : Nat} (hi : i < 8) : tg σ (P + 8 + 2 * i) = 4 := by
  rcases hP with rfl | rfl
  · exact tg_Alast h hi
  · exact tg_Blast h hi
theorem gR_Pruns (h : Sh σ) (hP : HP P) {i : Nat} (hi : i < 8) : gR σ (P + 8 + 2 * i) 2 = some (P + 9 + 2 * i) := by
  rcases hP with rfl | rfl
  · exact gR_Aruns h hi
  · exact gR_Bruns h hi
theorem tg_Pruns (h : Sh σ) (hP : HP P) {i : Nat} (hi : i < 8) : tg σ (P + 9 + 2 * i) = 32 := by
  rcases hP with rfl | rfl
  · exact tg_Aruns h hi
  · exact tg_Bruns h hi
theorem ln_Pruns (h : Sh σ) (hP : HP P) {i : Nat} (hi : i < 8) : ln σ (P + 9 + 2 * i) = 3 := by
  rcases hP with rfl | rfl
  · exact ln_Aruns h hi
  · exact ln_Bruns h hi
theorem gR_Psort (h : Sh σ) (hP : HP P) {i : Nat} (hi : i < 4) : gR σ (P + 2) i = some (P + 24 + 2 * i) := by
  rcases hP with rfl | rfl
  · exact gR_Asort h hi
  · exact gR_Bsort h hi
theorem tg_Psort (h : Sh σ) (hP : HP P) {i : Nat} (hi : i < 4) : tg σ (P + 24 + 2 * i) = 9 := by
  rcases hP with rfl | rfl
  · exact tg_Asort h hi
  · exact tg_Bsort h hi
theorem gR_Pfeet (h : Sh σ) (hP : HP P) {i : Nat} (hi : i < 4) : gR σ (P + 24 + 2 * i) 1 = some (P + 25 + 2 * i) := by
  rcases hP with rfl | rfl
  · exact gR_Afeet h hi
  · exact gR_Bfeet h hi
theorem tg_Pfeet (h : Sh σ) (hP : HP P) {i : Nat} (hi : i < 4) : tg σ (P + 25 + 2 * i) = 32 := by
  rcases hP with rfl | rfl
  · exact tg_Afeet h hi
  · exact tg_Bfeet h hi
theorem ln_Pfeet (h : Sh σ) (hP : HP P) {i : Nat} (hi : i < 4) : ln σ (P + 25 + 2 * i) = 5 := by
  rcases hP with rfl | rfl
  · exact ln_Afeet h hi
  · exact ln_Bfeet h hi
theorem gR_Pquest (h : Sh σ) (hP : HP P) {i : Nat} (hi : i < 6) : gR σ (P + 3) i = some (P + 32 + 2 * i) := by
  rcases hP with rfl | rfl
  · exact gR_Aquest h hi
  · exact gR_Bquest h hi
theorem tg_Pquest (h : Sh σ) (hP : HP P) {i : Nat} (hi : i < 6) : tg σ (P + 32 + 2 * i) = 6 := by
  rcases hP with rfl | rfl
  · exact tg_Aquest h hi
  · exact tg_Bquest h hi
theorem gR_Pyes (h : Sh σ) (hP : HP P) {i : Nat} (hi : i < 6) : gR σ (P + 32 + 2 * i) 1 = some (P + 33 + 2 * i) := by
  rcases hP with rfl | rfl
  · exact gR_Ayes h hi
  · exact gR_Byes h hi
theorem tg_Pyes (h : Sh σ) (hP : HP P) {i : Nat} (hi : i < 6) : tg σ (P + 33 + 2 * i) = 32 := by
  rcases hP with rfl | rfl
  · exact tg_Ayes h hi
  · exact tg_Byes h hi
theorem ln_Pyes (h : Sh σ) (hP : HP P) {i : Nat} (hi : i < 6) : ln σ (P + 33 + 2 * i) = 5 := by
  rcases hP with rfl | rfl
  · exact ln_Ayes h hi
  · exact ln_Byes h hi
end
