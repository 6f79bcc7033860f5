/-! the standing shape; laid by wip/whole/gen/ksh.py -/
def zK0 : List (Nat × Nat) := [(12, 19), (33, 1600), (11, 10), (32, 35), (33, 0), (2, 1), (7, 6), (80, 3), (32, 1600), (32, 64), (1, 11), (68, 8), (73, 4), (70, 6), (32, 5), (10, 4), (32, 160), (32, 1120), (4, 4), (32, 3), (4, 4), (32, 3), (4, 4), (32, 3), (4, 4), (32, 3), (4, 4), (32, 3), (4, 4), (32, 3), (4, 4), (32, 3), (4, 4), (32, 3), (9, 5), (32, 5), (9, 5), (32, 5), (9, 5), (32, 5), (9, 5), (32, 5), (6, 2), (32, 5), (6, 2), (32, 5), (6, 2), (32, 5), (6, 2), (32, 5), (6, 2), (32, 5), (6, 2), (32, 5), (1, 11), (68, 8), (73, 4), (70, 6), (32, 5), (10, 4), (32, 160), (32, 1120), (4, 4), (32, 3), (4, 4), (32, 3), (4, 4), (32, 3), (4, 4), (32, 3), (4, 4), (32, 3), (4, 4), (32, 3), (4, 4), (32, 3), (4, 4), (32, 3), (9, 5), (32, 5), (9, 5), (32, 5), (9, 5), (32, 5), (9, 5), (32, 5), (6, 2), (32, 5), (6, 2), (32, 5), (6, 2), (32, 5), (6, 2), (32, 5), (6, 2), (32, 5), (6, 2), (32, 5), (69, 20), (8, 5), (36, 5), (36, 3), (36, 7), (32, 5), (3, 2), (33, 290), (32, 5), (32, 3), (32, 8), (32, 20), (5, 9), (32, 5), (32, 40), (5, 9), (32, 5), (32, 40), (5, 9), (32, 5), (32, 40), (5, 9), (32, 5), (32, 40), (5, 9), (32, 5), (32, 40), (5, 9), (32, 5), (32, 40), (5, 9), (32, 5), (32, 40), (5, 9), (32, 5), (32, 40), (5, 9), (32, 5), (32, 40), (5, 9), (32, 5), (32, 40), (5, 9), (32, 5), (32, 40), (5, 9), (32, 5), (32, 40), (5, 9), (32, 5), (32, 40), (5, 9), (32, 5), (32, 40), (5, 9), (32, 5), (32, 40), (5, 9), (32, 5), (32, 40), (5, 9), (32, 5), (32, 40), (5, 9), (32, 5), (32, 40), (5, 9), (32, 5), (32, 40), (5, 9), (32, 5), (32, 40), (13, 98), (32, 1600), (34, 4), (34, 5), (34, 4), (34, 4), (34, 3), (34, 4), (34, 4), (34, 5), (34, 5), (34, 4), (34, 4), (34, 3), (34, 5), (34, 3), (34, 4), (34, 4), (34, 5), (34, 4), (34, 5), (34, 2), (34, 4), (34, 2), (34, 3), (34, 3), (34, 3), (34, 4), (34, 5), (34, 4), (34, 4), (34, 5), (34, 5), (34, 4), (34, 6), (34, 3), (34, 3), (36, 48), (32, 6), (32, 16), (32, 48), (32, 40), (32, 8), (32, 8), (32, 8), (32, 60), (32, 10), (32, 6), (32, 320), (32, 6400), (32, 1700), (35, 3), (32, 4), (32, 160), (32, 160), (32, 160), (32, 20), (32, 20), (32, 100), (32, 24), (32, 20), (32, 20), (32, 20), (32, 20), (32, 20), (32, 8), (32, 3200), (32, 2000), (32, 2000), (36, 1700), (32, 5), (36, 5), (36, 3), (32, 5), (32, 3), (32, 5), (32, 310)]
def zF0 : List (Nat × Nat × Nat) := [(6, 0, 7), (6, 2, 8), (6, 3, 11), (6, 4, 12), (6, 9, 104), (6, 13, 105), (6, 14, 110), (6, 15, 112), (6, 16, 113), (6, 17, 114), (6, 18, 115), (8, 0, 9), (11, 0, 8), (12, 0, 8), (12, 1, 13), (12, 2, 14), (12, 4, 15), (16, 0, 17), (16, 1, 18), (16, 2, 19), (16, 3, 20), (16, 4, 21), (21, 0, 22), (21, 1, 23), (24, 2, 25), (26, 2, 27), (28, 2, 29), (30, 2, 31), (32, 2, 33), (34, 2, 35), (36, 2, 37), (38, 2, 39), (40, 1, 41), (42, 1, 43), (44, 1, 45), (46, 1, 47), (48, 1, 49), (50, 1, 51), (52, 1, 53), (54, 1, 55), (56, 1, 57), (58, 1, 59), (60, 0, 61), (60, 1, 62), (60, 2, 63), (60, 3, 64), (60, 4, 65), (65, 0, 66), (65, 1, 67), (68, 2, 69), (70, 2, 71), (72, 2, 73), (74, 2, 75), (76, 2, 77), (78, 2, 79), (80, 2, 81), (82, 2, 83), (84, 1, 85), (86, 1, 87), (88, 1, 89), (90, 1, 91), (92, 1, 93), (94, 1, 95), (96, 1, 97), (98, 1, 99), (100, 1, 101), (102, 1, 103), (105, 0, 106), (105, 1, 107), (105, 2, 108), (110, 0, 111), (116, 2, 117), (116, 8, 118), (119, 2, 120), (119, 8, 121), (122, 2, 123), (122, 8, 124), (125, 2, 126), (125, 8, 127), (128, 2, 129), (128, 8, 130), (131, 2, 132), (131, 8, 133), (134, 2, 135), (134, 8, 136), (137, 2, 138), (137, 8, 139), (140, 2, 141), (140, 8, 142), (143, 2, 144), (143, 8, 145), (146, 2, 147), (146, 8, 148), (149, 2, 150), (149, 8, 151), (152, 2, 153), (152, 8, 154), (155, 2, 156), (155, 8, 157), (158, 2, 159), (158, 8, 160), (161, 2, 162), (161, 8, 163), (164, 2, 165), (164, 8, 166), (167, 2, 168), (167, 8, 169), (170, 2, 171), (170, 8, 172), (173, 2, 174), (173, 8, 175), (176, 0, 177), (176, 10, 178), (176, 11, 179), (176, 12, 180), (176, 13, 181), (176, 14, 182), (176, 15, 183), (176, 16, 184), (176, 17, 185), (176, 18, 186), (176, 19, 187), (176, 20, 188), (176, 21, 189), (176, 22, 190), (176, 23, 191), (176, 24, 192), (176, 25, 193), (176, 26, 194), (176, 27, 195), (176, 28, 196), (176, 29, 197), (176, 30, 198), (176, 31, 199), (176, 32, 200), (176, 33, 201), (176, 34, 202), (176, 35, 203), (176, 36, 204), (176, 37, 205), (176, 38, 206), (176, 39, 207), (176, 40, 208), (176, 41, 209), (176, 42, 210), (176, 43, 211), (176, 44, 212), (176, 46, 213), (176, 47, 214), (176, 48, 215), (176, 49, 216), (176, 50, 217), (176, 51, 218), (176, 52, 219), (176, 53, 220), (176, 54, 221), (176, 55, 222), (176, 56, 223), (176, 57, 224), (176, 59, 225), (176, 61, 226), (176, 64, 227), (176, 65, 228), (176, 66, 229), (176, 67, 230), (176, 68, 231), (176, 71, 232), (176, 72, 233), (176, 73, 234), (176, 74, 235), (176, 75, 236), (176, 76, 237), (176, 77, 238), (176, 78, 239), (176, 79, 240), (176, 80, 241), (176, 81, 242), (176, 85, 243), (176, 86, 244), (176, 87, 245), (176, 89, 246), (176, 90, 247), (176, 91, 248), (176, 92, 249), (176, 93, 250), (176, 94, 251), (176, 96, 252)]
def zE0 : List (Nat × Nat × Nat) := [(17, 0, 24), (17, 1, 26), (17, 2, 28), (17, 3, 30), (17, 4, 32), (17, 5, 34), (17, 6, 36), (17, 7, 38), (18, 0, 40), (18, 1, 42), (18, 2, 44), (18, 3, 46), (19, 0, 48), (19, 1, 50), (19, 2, 52), (19, 3, 54), (19, 4, 56), (19, 5, 58), (61, 0, 68), (61, 1, 70), (61, 2, 72), (61, 3, 74), (61, 4, 76), (61, 5, 78), (61, 6, 80), (61, 7, 82), (62, 0, 84), (62, 1, 86), (62, 2, 88), (62, 3, 90), (63, 0, 92), (63, 1, 94), (63, 2, 96), (63, 3, 98), (63, 4, 100), (63, 5, 102), (104, 0, 116), (104, 1, 119), (104, 2, 122), (104, 3, 125), (104, 4, 128), (104, 5, 131), (104, 6, 134), (104, 7, 137), (104, 8, 140), (104, 9, 143), (104, 10, 146), (104, 11, 149), (104, 12, 152), (104, 13, 155), (104, 14, 158), (104, 15, 161), (104, 16, 164), (104, 17, 167), (104, 18, 170), (104, 19, 173)]
/-- the kinds of the cells, the references that stand for good -/
def Sh (σ : zS) : Prop := (∃ (L : Nat) (K : List (Nat × Nat)), σ.1 = zpre L ++ (zK0 ++ K)) ∧ (∀ e ∈ zF0, gR σ e.1 e.2.1 = some e.2.2) ∧ (∀ e ∈ zE0, gR σ e.1 e.2.1 = some e.2.2) ∧ (∀ j, j < 6 → gI σ 1 j = zPl.getD j 0)
theorem Sh.kd {σ : zS} (h : Sh σ) {r : Nat} (h6 : 6 ≤ r) (hr : r < 253) : kd σ r = zK0[r - 6]? := by
  obtain ⟨⟨L, K, hK⟩, -⟩ := h
  unfold Jvm.Pilot.@@N@@.kd
  rw [hK, List.getElem?_append_right (by simpa [zpre] using h6)]
  have e : r - (zpre L).length = r - 6 := rfl
  rw [e, List.getElem?_append_left]
  have hl : zK0.length = 247 := by decide +kernel
  omega
theorem Sh.tg {σ : zS} (h : Sh σ) {r t n : Nat} (h6 : 6 ≤ r) (hr : r < 253) (he : zK0[r - 6]? = some (t, n)) : tg σ r = t := by
  unfold Jvm.Pilot.@@N@@.tg
  rw [h.kd h6 hr, he]
theorem Sh.ln {σ : zS} (h : Sh σ) {r t n : Nat} (h6 : 6 ≤ r) (hr : r < 253) (he : zK0[r - 6]? = some (t, n)) : ln σ r = n := by
  unfold Jvm.Pilot.@@N@@.ln
  rw [h.kd h6 hr, he]
theorem tg_6 {σ : zS} (h : Sh σ) : tg σ 6 = 12 := h.tg (by decide) (by decide) rfl
theorem tg_7 {σ : zS} (h : Sh σ) : tg σ 7 = 33 := h.tg (by decide) (by decide) rfl
theorem ln_7 {σ : zS} (h : Sh σ) : ln σ 7 = 1600 := h.ln (by decide) (by decide) rfl
theorem tg_8 {σ : zS} (h : Sh σ) : tg σ 8 = 11 := h.tg (by decide) (by decide) rfl
theorem tg_9 {σ : zS} (h : Sh σ) : tg σ 9 = 32 := h.tg (by decide) (by decide) rfl
theorem ln_9 {σ : zS} (h : Sh σ) : ln σ 9 = 35 := h.ln (by decide) (by decide) rfl
theorem tg_10 {σ : zS} (h : Sh σ) : tg σ 10 = 33 := h.tg (by decide) (by decide) rfl
theorem ln_10 {σ : zS} (h : Sh σ) : ln σ 10 = 0 := h.ln (by decide) (by decide) rfl
theorem tg_11 {σ : zS} (h : Sh σ) : tg σ 11 = 2 := h.tg (by decide) (by decide) rfl
theorem tg_12 {σ : zS} (h : Sh σ) : tg σ 12 = 7 := h.tg (by decide) (by decide) rfl
theorem tg_13 {σ : zS} (h : Sh σ) : tg σ 13 = 80 := h.tg (by decide) (by decide) rfl
theorem ln_13 {σ : zS} (h : Sh σ) : ln σ 13 = 3 := h.ln (by decide) (by decide) rfl
theorem tg_14 {σ : zS} (h : Sh σ) : tg σ 14 = 32 := h.tg (by decide) (by decide) rfl
theorem ln_14 {σ : zS} (h : Sh σ) : ln σ 14 = 1600 := h.ln (by decide) (by decide) rfl
theorem tg_15 {σ : zS} (h : Sh σ) : tg σ 15 = 32 := h.tg (by decide) (by decide) rfl
theorem ln_15 {σ : zS} (h : Sh σ) : ln σ 15 = 64 := h.ln (by decide) (by decide) rfl
theorem tg_16 {σ : zS} (h : Sh σ) : tg σ 16 = 1 := h.tg (by decide) (by decide) rfl
theorem tg_17 {σ : zS} (h : Sh σ) : tg σ 17 = 68 := h.tg (by decide) (by decide) rfl
theorem ln_17 {σ : zS} (h : Sh σ) : ln σ 17 = 8 := h.ln (by decide) (by decide) rfl
theorem tg_18 {σ : zS} (h : Sh σ) : tg σ 18 = 73 := h.tg (by decide) (by decide) rfl
theorem ln_18 {σ : zS} (h : Sh σ) : ln σ 18 = 4 := h.ln (by decide) (by decide) rfl
theorem tg_19 {σ : zS} (h : Sh σ) : tg σ 19 = 70 := h.tg (by decide) (by decide) rfl
theorem ln_19 {σ : zS} (h : Sh σ) : ln σ 19 = 6 := h.ln (by decide) (by decide) rfl
theorem tg_20 {σ : zS} (h : Sh σ) : tg σ 20 = 32 := h.tg (by decide) (by decide) rfl
theorem ln_20 {σ : zS} (h : Sh σ) : ln σ 20 = 5 := h.ln (by decide) (by decide) rfl
theorem tg_21 {σ : zS} (h : Sh σ) : tg σ 21 = 10 := h.tg (by decide) (by decide) rfl
theorem tg_22 {σ : zS} (h : Sh σ) : tg σ 22 = 32 := h.tg (by decide) (by decide) rfl
theorem ln_22 {σ : zS} (h : Sh σ) : ln σ 22 = 160 := h.ln (by decide) (by decide) rfl
theorem tg_23 {σ : zS} (h : Sh σ) : tg σ 23 = 32 := h.tg (by decide) (by decide) rfl
theorem ln_23 {σ : zS} (h : Sh σ) : ln σ 23 = 1120 := h.ln (by decide) (by decide) rfl
theorem tg_60 {σ : zS} (h : Sh σ) : tg σ 60 = 1 := h.tg (by decide) (by decide) rfl
theorem tg_61 {σ : zS} (h : Sh σ) : tg σ 61 = 68 := h.tg (by decide) (by decide) rfl
theorem ln_61 {σ : zS} (h : Sh σ) : ln σ 61 = 8 := h.ln (by decide) (by decide) rfl
theorem tg_62 {σ : zS} (h : Sh σ) : tg σ 62 = 73 := h.tg (by decide) (by decide) rfl
theorem ln_62 {σ : zS} (h : Sh σ) : ln σ 62 = 4 := h.ln (by decide) (by decide) rfl
theorem tg_63 {σ : zS} (h : Sh σ) : tg σ 63 = 70 := h.tg (by decide) (by decide) rfl
theorem ln_63 {σ : zS} (h : Sh σ) : ln σ 63 = 6 := h.ln (by decide) (by decide) rfl
theorem tg_64 {σ : zS} (h : Sh σ) : tg σ 64 = 32 := h.tg (by decide) (by decide) rfl
theorem ln_64 {σ : zS} (h : Sh σ) : ln σ 64 = 5 := h.ln (by decide) (by decide) rfl
theorem tg_65 {σ : zS} (h : Sh σ) : tg σ 65 = 10 := h.tg (by decide) (by decide) rfl
theorem tg_66 {σ : zS} (h : Sh σ) : tg σ 66 = 32 := h.tg (by decide) (by decide) rfl
theorem ln_66 {σ : zS} (h : Sh σ) : ln σ 66 = 160 := h.ln (by decide) (by decide) rfl
theorem tg_67 {σ : zS} (h : Sh σ) : tg σ 67 = 32 := h.tg (by decide) (by decide) rfl
theorem ln_67 {σ : zS} (h : Sh σ) : ln σ 67 = 1120 := h.ln (by decide) (by decide) rfl
theorem tg_104 {σ : zS} (h : Sh σ) : tg σ 104 = 69 := h.tg (by decide) (by decide) rfl
theorem ln_104 {σ : zS} (h : Sh σ) : ln σ 104 = 20 := h.ln (by decide) (by decide) rfl
theorem tg_105 {σ : zS} (h : Sh σ) : tg σ 105 = 8 := h.tg (by decide) (by decide) rfl
theorem tg_106 {σ : zS} (h : Sh σ) : tg σ 106 = 36 := h.tg (by decide) (by decide) rfl
theorem ln_106 {σ : zS} (h : Sh σ) : ln σ 106 = 5 := h.ln (by decide) (by decide) rfl
theorem tg_107 {σ : zS} (h : Sh σ) : tg σ 107 = 36 := h.tg (by decide) (by decide) rfl
theorem ln_107 {σ : zS} (h : Sh σ) : ln σ 107 = 3 := h.ln (by decide) (by decide) rfl
theorem tg_108 {σ : zS} (h : Sh σ) : tg σ 108 = 36 := h.tg (by decide) (by decide) rfl
theorem ln_108 {σ : zS} (h : Sh σ) : ln σ 108 = 7 := h.ln (by decide) (by decide) rfl
theorem tg_109 {σ : zS} (h : Sh σ) : tg σ 109 = 32 := h.tg (by decide) (by decide) rfl
theorem ln_109 {σ : zS} (h : Sh σ) : ln σ 109 = 5 := h.ln (by decide) (by decide) rfl
theorem tg_110 {σ : zS} (h : Sh σ) : tg σ 110 = 3 := h.tg (by decide) (by decide) rfl
theorem tg_111 {σ : zS} (h : Sh σ) : tg σ 111 = 33 := h.tg (by decide) (by decide) rfl
theorem ln_111 {σ : zS} (h : Sh σ) : ln σ 111 = 290 := h.ln (by decide) (by decide) rfl
theorem tg_112 {σ : zS} (h : Sh σ) : tg σ 112 = 32 := h.tg (by decide) (by decide) rfl
theorem ln_112 {σ : zS} (h : Sh σ) : ln σ 112 = 5 := h.ln (by decide) (by decide) rfl
theorem tg_113 {σ : zS} (h : Sh σ) : tg σ 113 = 32 := h.tg (by decide) (by decide) rfl
theorem ln_113 {σ : zS} (h : Sh σ) : ln σ 113 = 3 := h.ln (by decide) (by decide) rfl
theorem tg_114 {σ : zS} (h : Sh σ) : tg σ 114 = 32 := h.tg (by decide) (by decide) rfl
theorem ln_114 {σ : zS} (h : Sh σ) : ln σ 114 = 8 := h.ln (by decide) (by decide) rfl
theorem tg_115 {σ : zS} (h : Sh σ) : tg σ 115 = 32 := h.tg (by decide) (by decide) rfl
theorem ln_115 {σ : zS} (h : Sh σ) : ln σ 115 = 20 := h.ln (by decide) (by decide) rfl
theorem tg_176 {σ : zS} (h : Sh σ) : tg σ 176 = 13 := h.tg (by decide) (by decide) rfl
theorem tg_177 {σ : zS} (h : Sh σ) : tg σ 177 = 32 := h.tg (by decide) (by decide) rfl
theorem ln_177 {σ : zS} (h : Sh σ) : ln σ 177 = 1600 := h.ln (by decide) (by decide) rfl
theorem tg_178 {σ : zS} (h : Sh σ) : tg σ 178 = 34 := h.tg (by decide) (by decide) rfl
theorem ln_178 {σ : zS} (h : Sh σ) : ln σ 178 = 4 := h.ln (by decide) (by decide) rfl
theorem tg_179 {σ : zS} (h : Sh σ) : tg σ 179 = 34 := h.tg (by decide) (by decide) rfl
theorem ln_179 {σ : zS} (h : Sh σ) : ln σ 179 = 5 := h.ln (by decide) (by decide) rfl
theorem tg_180 {σ : zS} (h : Sh σ) : tg σ 180 = 34 := h.tg (by decide) (by decide) rfl
theorem ln_180 {σ : zS} (h : Sh σ) : ln σ 180 = 4 := h.ln (by decide) (by decide) rfl
theorem tg_181 {σ : zS} (h : Sh σ) : tg σ 181 = 34 := h.tg (by decide) (by decide) rfl
theorem ln_181 {σ : zS} (h : Sh σ) : ln σ 181 = 4 := h.ln (by decide) (by decide) rfl
theorem tg_182 {σ : zS} (h : Sh σ) : tg σ 182 = 34 := h.tg (by decide) (by decide) rfl
theorem ln_182 {σ : zS} (h : Sh σ) : ln σ 182 = 3 := h.ln (by decide) (by decide) rfl
theorem tg_183 {σ : zS} (h : Sh σ) : tg σ 183 = 34 := h.tg (by decide) (by decide) rfl
theorem ln_183 {σ : zS} (h : Sh σ) : ln σ 183 = 4 := h.ln (by decide) (by decide) rfl
theorem tg_184 {σ : zS} (h : Sh σ) : tg σ 184 = 34 := h.tg (by decide) (by decide) rfl
theorem ln_184 {σ : zS} (h : Sh σ) : ln σ 184 = 4 := h.ln (by decide) (by decide) rfl
theorem tg_185 {σ : zS} (h : Sh σ) : tg σ 185 = 34 := h.tg (by decide) (by decide) rfl
theorem ln_185 {σ : zS} (h : Sh σ) : ln σ 185 = 5 := h.ln (by decide) (by decide) rfl
theorem tg_186 {σ : zS} (h : Sh σ) : tg σ 186 = 34 := h.tg (by decide) (by decide) rfl
theorem ln_186 {σ : zS} (h : Sh σ) : ln σ 186 = 5 := h.ln (by decide) (by decide) rfl
theorem tg_187 {σ : zS} (h : Sh σ) : tg σ 187 = 34 := h.tg (by decide) (by decide) rfl
theorem ln_187 {σ : zS} (h : Sh σ) : ln σ 187 = 4 := h.ln (by decide) (by decide) rfl
theorem tg_188 {σ : zS} (h : Sh σ) : tg σ 188 = 34 := h.tg (by decide) (by decide) rfl
theorem ln_188 {σ : zS} (h : Sh σ) : ln σ 188 = 4 := h.ln (by decide) (by decide) rfl
theorem tg_189 {σ : zS} (h : Sh σ) : tg σ 189 = 34 := h.tg (by decide) (by decide) rfl
theorem ln_189 {σ : zS} (h : Sh σ) : ln σ 189 = 3 := h.ln (by decide) (by decide) rfl
theorem tg_190 {σ : zS} (h : Sh σ) : tg σ 190 = 34 := h.tg (by decide) (by decide) rfl
theorem ln_190 {σ : zS} (h : Sh σ) : ln σ 190 = 5 := h.ln (by decide) (by decide) rfl
theorem tg_191 {σ : zS} (h : Sh σ) : tg σ 191 = 34 := h.tg (by decide) (by decide) rfl
theorem ln_191 {σ : zS} (h : Sh σ) : ln σ 191 = 3 := h.ln (by decide) (by decide) rfl
theorem tg_192 {σ : zS} (h : Sh σ) : tg σ 192 = 34 := h.tg (by decide) (by decide) rfl
theorem ln_192 {σ : zS} (h : Sh σ) : ln σ 192 = 4 := h.ln (by decide) (by decide) rfl
theorem tg_193 {σ : zS} (h : Sh σ) : tg σ 193 = 34 := h.tg (by decide) (by decide) rfl
theorem ln_193 {σ : zS} (h : Sh σ) : ln σ 193 = 4 := h.ln (by decide) (by decide) rfl
theorem tg_194 {σ : zS} (h : Sh σ) : tg σ 194 = 34 := h.tg (by decide) (by decide) rfl
theorem ln_194 {σ : zS} (h : Sh σ) : ln σ 194 = 5 := h.ln (by decide) (by decide) rfl
theorem tg_195 {σ : zS} (h : Sh σ) : tg σ 195 = 34 := h.tg (by decide) (by decide) rfl
theorem ln_195 {σ : zS} (h : Sh σ) : ln σ 195 = 4 := h.ln (by decide) (by decide) rfl
theorem tg_196 {σ : zS} (h : Sh σ) : tg σ 196 = 34 := h.tg (by decide) (by decide) rfl
theorem ln_196 {σ : zS} (h : Sh σ) : ln σ 196 = 5 := h.ln (by decide) (by decide) rfl
theorem tg_197 {σ : zS} (h : Sh σ) : tg σ 197 = 34 := h.tg (by decide) (by decide) rfl
theorem ln_197 {σ : zS} (h : Sh σ) : ln σ 197 = 2 := h.ln (by decide) (by decide) rfl
theorem tg_198 {σ : zS} (h : Sh σ) : tg σ 198 = 34 := h.tg (by decide) (by decide) rfl
theorem ln_198 {σ : zS} (h : Sh σ) : ln σ 198 = 4 := h.ln (by decide) (by decide) rfl
theorem tg_199 {σ : zS} (h : Sh σ) : tg σ 199 = 34 := h.tg (by decide) (by decide) rfl
theorem ln_199 {σ : zS} (h : Sh σ) : ln σ 199 = 2 := h.ln (by decide) (by decide) rfl
theorem tg_200 {σ : zS} (h : Sh σ) : tg σ 200 = 34 := h.tg (by decide) (by decide) rfl
theorem ln_200 {σ : zS} (h : Sh σ) : ln σ 200 = 3 := h.ln (by decide) (by decide) rfl
theorem tg_201 {σ : zS} (h : Sh σ) : tg σ 201 = 34 := h.tg (by decide) (by decide) rfl
theorem ln_201 {σ : zS} (h : Sh σ) : ln σ 201 = 3 := h.ln (by decide) (by decide) rfl
theorem tg_202 {σ : zS} (h : Sh σ) : tg σ 202 = 34 := h.tg (by decide) (by decide) rfl
theorem ln_202 {σ : zS} (h : Sh σ) : ln σ 202 = 3 := h.ln (by decide) (by decide) rfl
theorem tg_203 {σ : zS} (h : Sh σ) : tg σ 203 = 34 := h.tg (by decide) (by decide) rfl
theorem ln_203 {σ : zS} (h : Sh σ) : ln σ 203 = 4 := h.ln (by decide) (by decide) rfl
theorem tg_204 {σ : zS} (h : Sh σ) : tg σ 204 = 34 := h.tg (by decide) (by decide) rfl
theorem ln_204 {σ : zS} (h : Sh σ) : ln σ 204 = 5 := h.ln (by decide) (by decide) rfl
theorem tg_205 {σ : zS} (h : Sh σ) : tg σ 205 = 34 := h.tg (by decide) (by decide) rfl
theorem ln_205 {σ : zS} (h : Sh σ) : ln σ 205 = 4 := h.ln (by decide) (by decide) rfl
theorem tg_206 {σ : zS} (h : Sh σ) : tg σ 206 = 34 := h.tg (by decide) (by decide) rfl
theorem ln_206 {σ : zS} (h : Sh σ) : ln σ 206 = 4 := h.ln (by decide) (by decide) rfl
theorem tg_207 {σ : zS} (h : Sh σ) : tg σ 207 = 34 := h.tg (by decide) (by decide) rfl
theorem ln_207 {σ : zS} (h : Sh σ) : ln σ 207 = 5 := h.ln (by decide) (by decide) rfl
theorem tg_208 {σ : zS} (h : Sh σ) : tg σ 208 = 34 := h.tg (by decide) (by decide) rfl
theorem ln_208 {σ : zS} (h : Sh σ) : ln σ 208 = 5 := h.ln (by decide) (by decide) rfl
theorem tg_209 {σ : zS} (h : Sh σ) : tg σ 209 = 34 := h.tg (by decide) (by decide) rfl
theorem ln_209 {σ : zS} (h : Sh σ) : ln σ 209 = 4 := h.ln (by decide) (by decide) rfl
theorem tg_210 {σ : zS} (h : Sh σ) : tg σ 210 = 34 := h.tg (by decide) (by decide) rfl
theorem ln_210 {σ : zS} (h : Sh σ) : ln σ 210 = 6 := h.ln (by decide) (by decide) rfl
theorem tg_211 {σ : zS} (h : Sh σ) : tg σ 211 = 34 := h.tg (by decide) (by decide) rfl
theorem ln_211 {σ : zS} (h : Sh σ) : ln σ 211 = 3 := h.ln (by decide) (by decide) rfl
theorem tg_212 {σ : zS} (h : Sh σ) : tg σ 212 = 34 := h.tg (by decide) (by decide) rfl
theorem ln_212 {σ : zS} (h : Sh σ) : ln σ 212 = 3 := h.ln (by decide) (by decide) rfl
theorem tg_213 {σ : zS} (h : Sh σ) : tg σ 213 = 36 := h.tg (by decide) (by decide) rfl
theorem ln_213 {σ : zS} (h : Sh σ) : ln σ 213 = 48 := h.ln (by decide) (by decide) rfl
theorem tg_214 {σ : zS} (h : Sh σ) : tg σ 214 = 32 := h.tg (by decide) (by decide) rfl
theorem ln_214 {σ : zS} (h : Sh σ) : ln σ 214 = 6 := h.ln (by decide) (by decide) rfl
theorem tg_215 {σ : zS} (h : Sh σ) : tg σ 215 = 32 := h.tg (by decide) (by decide) rfl
theorem ln_215 {σ : zS} (h : Sh σ) : ln σ 215 = 16 := h.ln (by decide) (by decide) rfl
theorem tg_216 {σ : zS} (h : Sh σ) : tg σ 216 = 32 := h.tg (by decide) (by decide) rfl
theorem ln_216 {σ : zS} (h : Sh σ) : ln σ 216 = 48 := h.ln (by decide) (by decide) rfl
theorem tg_217 {σ : zS} (h : Sh σ) : tg σ 217 = 32 := h.tg (by decide) (by decide) rfl
theorem ln_217 {σ : zS} (h : Sh σ) : ln σ 217 = 40 := h.ln (by decide) (by decide) rfl
theorem tg_218 {σ : zS} (h : Sh σ) : tg σ 218 = 32 := h.tg (by decide) (by decide) rfl
theorem ln_218 {σ : zS} (h : Sh σ) : ln σ 218 = 8 := h.ln (by decide) (by decide) rfl
theorem tg_219 {σ : zS} (h : Sh σ) : tg σ 219 = 32 := h.tg (by decide) (by decide) rfl
theorem ln_219 {σ : zS} (h : Sh σ) : ln σ 219 = 8 := h.ln (by decide) (by decide) rfl
theorem tg_220 {σ : zS} (h : Sh σ) : tg σ 220 = 32 := h.tg (by decide) (by decide) rfl
theorem ln_220 {σ : zS} (h : Sh σ) : ln σ 220 = 8 := h.ln (by decide) (by decide) rfl
theorem tg_221 {σ : zS} (h : Sh σ) : tg σ 221 = 32 := h.tg (by decide) (by decide) rfl
theorem ln_221 {σ : zS} (h : Sh σ) : ln σ 221 = 60 := h.ln (by decide) (by decide) rfl
theorem tg_222 {σ : zS} (h : Sh σ) : tg σ 222 = 32 := h.tg (by decide) (by decide) rfl
theorem ln_222 {σ : zS} (h : Sh σ) : ln σ 222 = 10 := h.ln (by decide) (by decide) rfl
theorem tg_223 {σ : zS} (h : Sh σ) : tg σ 223 = 32 := h.tg (by decide) (by decide) rfl
theorem ln_223 {σ : zS} (h : Sh σ) : ln σ 223 = 6 := h.ln (by decide) (by decide) rfl
theorem tg_224 {σ : zS} (h : Sh σ) : tg σ 224 = 32 := h.tg (by decide) (by decide) rfl
theorem ln_224 {σ : zS} (h : Sh σ) : ln σ 224 = 320 := h.ln (by decide) (by decide) rfl
theorem tg_225 {σ : zS} (h : Sh σ) : tg σ 225 = 32 := h.tg (by decide) (by decide) rfl
theorem ln_225 {σ : zS} (h : Sh σ) : ln σ 225 = 6400 := h.ln (by decide) (by decide) rfl
theorem tg_226 {σ : zS} (h : Sh σ) : tg σ 226 = 32 := h.tg (by decide) (by decide) rfl
theorem ln_226 {σ : zS} (h : Sh σ) : ln σ 226 = 1700 := h.ln (by decide) (by decide) rfl
theorem tg_227 {σ : zS} (h : Sh σ) : tg σ 227 = 35 := h.tg (by decide) (by decide) rfl
theorem ln_227 {σ : zS} (h : Sh σ) : ln σ 227 = 3 := h.ln (by decide) (by decide) rfl
theorem tg_228 {σ : zS} (h : Sh σ) : tg σ 228 = 32 := h.tg (by decide) (by decide) rfl
theorem ln_228 {σ : zS} (h : Sh σ) : ln σ 228 = 4 := h.ln (by decide) (by decide) rfl
theorem tg_229 {σ : zS} (h : Sh σ) : tg σ 229 = 32 := h.tg (by decide) (by decide) rfl
theorem ln_229 {σ : zS} (h : Sh σ) : ln σ 229 = 160 := h.ln (by decide) (by decide) rfl
theorem tg_230 {σ : zS} (h : Sh σ) : tg σ 230 = 32 := h.tg (by decide) (by decide) rfl
theorem ln_230 {σ : zS} (h : Sh σ) : ln σ 230 = 160 := h.ln (by decide) (by decide) rfl
theorem tg_231 {σ : zS} (h : Sh σ) : tg σ 231 = 32 := h.tg (by decide) (by decide) rfl
theorem ln_231 {σ : zS} (h : Sh σ) : ln σ 231 = 160 := h.ln (by decide) (by decide) rfl
theorem tg_232 {σ : zS} (h : Sh σ) : tg σ 232 = 32 := h.tg (by decide) (by decide) rfl
theorem ln_232 {σ : zS} (h : Sh σ) : ln σ 232 = 20 := h.ln (by decide) (by decide) rfl
theorem tg_233 {σ : zS} (h : Sh σ) : tg σ 233 = 32 := h.tg (by decide) (by decide) rfl
theorem ln_233 {σ : zS} (h : Sh σ) : ln σ 233 = 20 := h.ln (by decide) (by decide) rfl
theorem tg_234 {σ : zS} (h : Sh σ) : tg σ 234 = 32 := h.tg (by decide) (by decide) rfl
theorem ln_234 {σ : zS} (h : Sh σ) : ln σ 234 = 100 := h.ln (by decide) (by decide) rfl
theorem tg_235 {σ : zS} (h : Sh σ) : tg σ 235 = 32 := h.tg (by decide) (by decide) rfl
theorem ln_235 {σ : zS} (h : Sh σ) : ln σ 235 = 24 := h.ln (by decide) (by decide) rfl
theorem tg_236 {σ : zS} (h : Sh σ) : tg σ 236 = 32 := h.tg (by decide) (by decide) rfl
theorem ln_236 {σ : zS} (h : Sh σ) : ln σ 236 = 20 := h.ln (by decide) (by decide) rfl
theorem tg_237 {σ : zS} (h : Sh σ) : tg σ 237 = 32 := h.tg (by decide) (by decide) rfl
theorem ln_237 {σ : zS} (h : Sh σ) : ln σ 237 = 20 := h.ln (by decide) (by decide) rfl
theorem tg_238 {σ : zS} (h : Sh σ) : tg σ 238 = 32 := h.tg (by decide) (by decide) rfl
theorem ln_238 {σ : zS} (h : Sh σ) : ln σ 238 = 20 := h.ln (by decide) (by decide) rfl
theorem tg_239 {σ : zS} (h : Sh σ) : tg σ 239 = 32 := h.tg (by decide) (by decide) rfl
theorem ln_239 {σ : zS} (h : Sh σ) : ln σ 239 = 20 := h.ln (by decide) (by decide) rfl
theorem tg_240 {σ : zS} (h : Sh σ) : tg σ 240 = 32 := h.tg (by decide) (by decide) rfl
theorem ln_240 {σ : zS} (h : Sh σ) : ln σ 240 = 20 := h.ln (by decide) (by decide) rfl
theorem tg_241 {σ : zS} (h : Sh σ) : tg σ 241 = 32 := h.tg (by decide) (by decide) rfl
theorem ln_241 {σ : zS} (h : Sh σ) : ln σ 241 = 8 := h.ln (by decide) (by decide) rfl
theorem tg_242 {σ : zS} (h : Sh σ) : tg σ 242 = 32 := h.tg (by decide) (by decide) rfl
theorem ln_242 {σ : zS} (h : Sh σ) : ln σ 242 = 3200 := h.ln (by decide) (by decide) rfl
theorem tg_243 {σ : zS} (h : Sh σ) : tg σ 243 = 32 := h.tg (by decide) (by decide) rfl
theorem ln_243 {σ : zS} (h : Sh σ) : ln σ 243 = 2000 := h.ln (by decide) (by decide) rfl
theorem tg_244 {σ : zS} (h : Sh σ) : tg σ 244 = 32 := h.tg (by decide) (by decide) rfl
theorem ln_244 {σ : zS} (h : Sh σ) : ln σ 244 = 2000 := h.ln (by decide) (by decide) rfl
theorem tg_245 {σ : zS} (h : Sh σ) : tg σ 245 = 36 := h.tg (by decide) (by decide) rfl
theorem ln_245 {σ : zS} (h : Sh σ) : ln σ 245 = 1700 := h.ln (by decide) (by decide) rfl
theorem tg_246 {σ : zS} (h : Sh σ) : tg σ 246 = 32 := h.tg (by decide) (by decide) rfl
theorem ln_246 {σ : zS} (h : Sh σ) : ln σ 246 = 5 := h.ln (by decide) (by decide) rfl
theorem tg_247 {σ : zS} (h : Sh σ) : tg σ 247 = 36 := h.tg (by decide) (by decide) rfl
theorem ln_247 {σ : zS} (h : Sh σ) : ln σ 247 = 5 := h.ln (by decide) (by decide) rfl
theorem tg_248 {σ : zS} (h : Sh σ) : tg σ 248 = 36 := h.tg (by decide) (by decide) rfl
theorem ln_248 {σ : zS} (h : Sh σ) : ln σ 248 = 3 := h.ln (by decide) (by decide) rfl
theorem tg_249 {σ : zS} (h : Sh σ) : tg σ 249 = 32 := h.tg (by decide) (by decide) rfl
theorem ln_249 {σ : zS} (h : Sh σ) : ln σ 249 = 5 := h.ln (by decide) (by decide) rfl
theorem tg_250 {σ : zS} (h : Sh σ) : tg σ 250 = 32 := h.tg (by decide) (by decide) rfl
theorem ln_250 {σ : zS} (h : Sh σ) : ln σ 250 = 3 := h.ln (by decide) (by decide) rfl
theorem tg_251 {σ : zS} (h : Sh σ) : tg σ 251 = 32 := h.tg (by decide) (by decide) rfl
theorem ln_251 {σ : zS} (h : Sh σ) : ln σ 251 = 5 := h.ln (by decide) (by decide) rfl
theorem tg_252 {σ : zS} (h : Sh σ) : tg σ 252 = 32 := h.tg (by decide) (by decide) rfl
theorem ln_252 {σ : zS} (h : Sh σ) : ln σ 252 = 310 := h.ln (by decide) (by decide) rfl
theorem gR_6_0 {σ : zS} (h : Sh σ) : gR σ 6 0 = some 7 := h.2.1 _ (List.mem_of_getElem? (i := 0) (a := (6, 0, 7)) rfl)
theorem gR_6_2 {σ : zS} (h : Sh σ) : gR σ 6 2 = some 8 := h.2.1 _ (List.mem_of_getElem? (i := 1) (a := (6, 2, 8)) rfl)
theorem gR_6_3 {σ : zS} (h : Sh σ) : gR σ 6 3 = some 11 := h.2.1 _ (List.mem_of_getElem? (i := 2) (a := (6, 3, 11)) rfl)
theorem gR_6_4 {σ : zS} (h : Sh σ) : gR σ 6 4 = some 12 := h.2.1 _ (List.mem_of_getElem? (i := 3) (a := (6, 4, 12)) rfl)
theorem gR_6_9 {σ : zS} (h : Sh σ) : gR σ 6 9 = some 104 := h.2.1 _ (List.mem_of_getElem? (i := 4) (a := (6, 9, 104)) rfl)
theorem gR_6_13 {σ : zS} (h : Sh σ) : gR σ 6 13 = some 105 := h.2.1 _ (List.mem_of_getElem? (i := 5) (a := (6, 13, 105)) rfl)
theorem gR_6_14 {σ : zS} (h : Sh σ) : gR σ 6 14 = some 110 := h.2.1 _ (List.mem_of_getElem? (i := 6) (a := (6, 14, 110)) rfl)
theorem gR_6_15 {σ : zS} (h : Sh σ) : gR σ 6 15 = some 112 := h.2.1 _ (List.mem_of_getElem? (i := 7) (a := (6, 15, 112)) rfl)
theorem gR_6_16 {σ : zS} (h : Sh σ) : gR σ 6 16 = some 113 := h.2.1 _ (List.mem_of_getElem? (i := 8) (a := (6, 16, 113)) rfl)
theorem gR_6_17 {σ : zS} (h : Sh σ) : gR σ 6 17 = some 114 := h.2.1 _ (List.mem_of_getElem? (i := 9) (a := (6, 17, 114)) rfl)
theorem gR_6_18 {σ : zS} (h : Sh σ) : gR σ 6 18 = some 115 := h.2.1 _ (List.mem_of_getElem? (i := 10) (a := (6, 18, 115)) rfl)
theorem gR_8_0 {σ : zS} (h : Sh σ) : gR σ 8 0 = some 9 := h.2.1 _ (List.mem_of_getElem? (i := 11) (a := (8, 0, 9)) rfl)
theorem gR_11_0 {σ : zS} (h : Sh σ) : gR σ 11 0 = some 8 := h.2.1 _ (List.mem_of_getElem? (i := 12) (a := (11, 0, 8)) rfl)
theorem gR_12_0 {σ : zS} (h : Sh σ) : gR σ 12 0 = some 8 := h.2.1 _ (List.mem_of_getElem? (i := 13) (a := (12, 0, 8)) rfl)
theorem gR_12_1 {σ : zS} (h : Sh σ) : gR σ 12 1 = some 13 := h.2.1 _ (List.mem_of_getElem? (i := 14) (a := (12, 1, 13)) rfl)
theorem gR_12_2 {σ : zS} (h : Sh σ) : gR σ 12 2 = some 14 := h.2.1 _ (List.mem_of_getElem? (i := 15) (a := (12, 2, 14)) rfl)
theorem gR_12_4 {σ : zS} (h : Sh σ) : gR σ 12 4 = some 15 := h.2.1 _ (List.mem_of_getElem? (i := 16) (a := (12, 4, 15)) rfl)
theorem gR_16_0 {σ : zS} (h : Sh σ) : gR σ 16 0 = some 17 := h.2.1 _ (List.mem_of_getElem? (i := 17) (a := (16, 0, 17)) rfl)
theorem gR_16_1 {σ : zS} (h : Sh σ) : gR σ 16 1 = some 18 := h.2.1 _ (List.mem_of_getElem? (i := 18) (a := (16, 1, 18)) rfl)
theorem gR_16_2 {σ : zS} (h : Sh σ) : gR σ 16 2 = some 19 := h.2.1 _ (List.mem_of_getElem? (i := 19) (a := (16, 2, 19)) rfl)
theorem gR_16_3 {σ : zS} (h : Sh σ) : gR σ 16 3 = some 20 := h.2.1 _ (List.mem_of_getElem? (i := 20) (a := (16, 3, 20)) rfl)
theorem gR_16_4 {σ : zS} (h : Sh σ) : gR σ 16 4 = some 21 := h.2.1 _ (List.mem_of_getElem? (i := 21) (a := (16, 4, 21)) rfl)
theorem gR_21_0 {σ : zS} (h : Sh σ) : gR σ 21 0 = some 22 := h.2.1 _ (List.mem_of_getElem? (i := 22) (a := (21, 0, 22)) rfl)
theorem gR_21_1 {σ : zS} (h : Sh σ) : gR σ 21 1 = some 23 := h.2.1 _ (List.mem_of_getElem? (i := 23) (a := (21, 1, 23)) rfl)
theorem gR_60_0 {σ : zS} (h : Sh σ) : gR σ 60 0 = some 61 := h.2.1 _ (List.mem_of_getElem? (i := 42) (a := (60, 0, 61)) rfl)
theorem gR_60_1 {σ : zS} (h : Sh σ) : gR σ 60 1 = some 62 := h.2.1 _ (List.mem_of_getElem? (i := 43) (a := (60, 1, 62)) rfl)
theorem gR_60_2 {σ : zS} (h : Sh σ) : gR σ 60 2 = some 63 := h.2.1 _ (List.mem_of_getElem? (i := 44) (a := (60, 2, 63)) rfl)
theorem gR_60_3 {σ : zS} (h : Sh σ) : gR σ 60 3 = some 64 := h.2.1 _ (List.mem_of_getElem? (i := 45) (a := (60, 3, 64)) rfl)
theorem gR_60_4 {σ : zS} (h : Sh σ) : gR σ 60 4 = some 65 := h.2.1 _ (List.mem_of_getElem? (i := 46) (a := (60, 4, 65)) rfl)
theorem gR_65_0 {σ : zS} (h : Sh σ) : gR σ 65 0 = some 66 := h.2.1 _ (List.mem_of_getElem? (i := 47) (a := (65, 0, 66)) rfl)
theorem gR_65_1 {σ : zS} (h : Sh σ) : gR σ 65 1 = some 67 := h.2.1 _ (List.mem_of_getElem? (i := 48) (a := (65, 1, 67)) rfl)
theorem gR_105_0 {σ : zS} (h : Sh σ) : gR σ 105 0 = some 106 := h.2.1 _ (List.mem_of_getElem? (i := 67) (a := (105, 0, 106)) rfl)
theorem gR_105_1 {σ : zS} (h : Sh σ) : gR σ 105 1 = some 107 := h.2.1 _ (List.mem_of_getElem? (i := 68) (a := (105, 1, 107)) rfl)
theorem gR_105_2 {σ : zS} (h : Sh σ) : gR σ 105 2 = some 108 := h.2.1 _ (List.mem_of_getElem? (i := 69) (a := (105, 2, 108)) rfl)
theorem gR_110_0 {σ : zS} (h : Sh σ) : gR σ 110 0 = some 111 := h.2.1 _ (List.mem_of_getElem? (i := 70) (a := (110, 0, 111)) rfl)
theorem gR_176_0 {σ : zS} (h : Sh σ) : gR σ 176 0 = some 177 := h.2.1 _ (List.mem_of_getElem? (i := 111) (a := (176, 0, 177)) rfl)
theorem gR_176_10 {σ : zS} (h : Sh σ) : gR σ 176 10 = some 178 := h.2.1 _ (List.mem_of_getElem? (i := 112) (a := (176, 10, 178)) rfl)
theorem gR_176_11 {σ : zS} (h : Sh σ) : gR σ 176 11 = some 179 := h.2.1 _ (List.mem_of_getElem? (i := 113) (a := (176, 11, 179)) rfl)
theorem gR_176_12 {σ : zS} (h : Sh σ) : gR σ 176 12 = some 180 := h.2.1 _ (List.mem_of_getElem? (i := 114) (a := (176, 12, 180)) rfl)
theorem gR_176_13 {σ : zS} (h : Sh σ) : gR σ 176 13 = some 181 := h.2.1 _ (List.mem_of_getElem? (i := 115) (a := (176, 13, 181)) rfl)
theorem gR_176_14 {σ : zS} (h : Sh σ) : gR σ 176 14 = some 182 := h.2.1 _ (List.mem_of_getElem? (i := 116) (a := (176, 14, 182)) rfl)
theorem gR_176_15 {σ : zS} (h : Sh σ) : gR σ 176 15 = some 183 := h.2.1 _ (List.mem_of_getElem? (i := 117) (a := (176, 15, 183)) rfl)
theorem gR_176_16 {σ : zS} (h : Sh σ) : gR σ 176 16 = some 184 := h.2.1 _ (List.mem_of_getElem? (i := 118) (a := (176, 16, 184)) rfl)
theorem gR_176_17 {σ : zS} (h : Sh σ) : gR σ 176 17 = some 185 := h.2.1 _ (List.mem_of_getElem? (i := 119) (a := (176, 17, 185)) rfl)
theorem gR_176_18 {σ : zS} (h : Sh σ) : gR σ 176 18 = some 186 := h.2.1 _ (List.mem_of_getElem? (i := 120) (a := (176, 18, 186)) rfl)
theorem gR_176_19 {σ : zS} (h : Sh σ) : gR σ 176 19 = some 187 := h.2.1 _ (List.mem_of_getElem? (i := 121) (a := (176, 19, 187)) rfl)
theorem gR_176_20 {σ : zS} (h : Sh σ) : gR σ 176 20 = some 188 := h.2.1 _ (List.mem_of_getElem? (i := 122) (a := (176, 20, 188)) rfl)
theorem gR_176_21 {σ : zS} (h : Sh σ) : gR σ 176 21 = some 189 := h.2.1 _ (List.mem_of_getElem? (i := 123) (a := (176, 21, 189)) rfl)
theorem gR_176_22 {σ : zS} (h : Sh σ) : gR σ 176 22 = some 190 := h.2.1 _ (List.mem_of_getElem? (i := 124) (a := (176, 22, 190)) rfl)
theorem gR_176_23 {σ : zS} (h : Sh σ) : gR σ 176 23 = some 191 := h.2.1 _ (List.mem_of_getElem? (i := 125) (a := (176, 23, 191)) rfl)
theorem gR_176_24 {σ : zS} (h : Sh σ) : gR σ 176 24 = some 192 := h.2.1 _ (List.mem_of_getElem? (i := 126) (a := (176, 24, 192)) rfl)
theorem gR_176_25 {σ : zS} (h : Sh σ) : gR σ 176 25 = some 193 := h.2.1 _ (List.mem_of_getElem? (i := 127) (a := (176, 25, 193)) rfl)
theorem gR_176_26 {σ : zS} (h : Sh σ) : gR σ 176 26 = some 194 := h.2.1 _ (List.mem_of_getElem? (i := 128) (a := (176, 26, 194)) rfl)
theorem gR_176_27 {σ : zS} (h : Sh σ) : gR σ 176 27 = some 195 := h.2.1 _ (List.mem_of_getElem? (i := 129) (a := (176, 27, 195)) rfl)
theorem gR_176_28 {σ : zS} (h : Sh σ) : gR σ 176 28 = some 196 := h.2.1 _ (List.mem_of_getElem? (i := 130) (a := (176, 28, 196)) rfl)
theorem gR_176_29 {σ : zS} (h : Sh σ) : gR σ 176 29 = some 197 := h.2.1 _ (List.mem_of_getElem? (i := 131) (a := (176, 29, 197)) rfl)
theorem gR_176_30 {σ : zS} (h : Sh σ) : gR σ 176 30 = some 198 := h.2.1 _ (List.mem_of_getElem? (i := 132) (a := (176, 30, 198)) rfl)
theorem gR_176_31 {σ : zS} (h : Sh σ) : gR σ 176 31 = some 199 := h.2.1 _ (List.mem_of_getElem? (i := 133) (a := (176, 31, 199)) rfl)
theorem gR_176_32 {σ : zS} (h : Sh σ) : gR σ 176 32 = some 200 := h.2.1 _ (List.mem_of_getElem? (i := 134) (a := (176, 32, 200)) rfl)
theorem gR_176_33 {σ : zS} (h : Sh σ) : gR σ 176 33 = some 201 := h.2.1 _ (List.mem_of_getElem? (i := 135) (a := (176, 33, 201)) rfl)
theorem gR_176_34 {σ : zS} (h : Sh σ) : gR σ 176 34 = some 202 := h.2.1 _ (List.mem_of_getElem? (i := 136) (a := (176, 34, 202)) rfl)
theorem gR_176_35 {σ : zS} (h : Sh σ) : gR σ 176 35 = some 203 := h.2.1 _ (List.mem_of_getElem? (i := 137) (a := (176, 35, 203)) rfl)
theorem gR_176_36 {σ : zS} (h : Sh σ) : gR σ 176 36 = some 204 := h.2.1 _ (List.mem_of_getElem? (i := 138) (a := (176, 36, 204)) rfl)
theorem gR_176_37 {σ : zS} (h : Sh σ) : gR σ 176 37 = some 205 := h.2.1 _ (List.mem_of_getElem? (i := 139) (a := (176, 37, 205)) rfl)
theorem gR_176_38 {σ : zS} (h : Sh σ) : gR σ 176 38 = some 206 := h.2.1 _ (List.mem_of_getElem? (i := 140) (a := (176, 38, 206)) rfl)
theorem gR_176_39 {σ : zS} (h : Sh σ) : gR σ 176 39 = some 207 := h.2.1 _ (List.mem_of_getElem? (i := 141) (a := (176, 39, 207)) rfl)
theorem gR_176_40 {σ : zS} (h : Sh σ) : gR σ 176 40 = some 208 := h.2.1 _ (List.mem_of_getElem? (i := 142) (a := (176, 40, 208)) rfl)
theorem gR_176_41 {σ : zS} (h : Sh σ) : gR σ 176 41 = some 209 := h.2.1 _ (List.mem_of_getElem? (i := 143) (a := (176, 41, 209)) rfl)
theorem gR_176_42 {σ : zS} (h : Sh σ) : gR σ 176 42 = some 210 := h.2.1 _ (List.mem_of_getElem? (i := 144) (a := (176, 42, 210)) rfl)
theorem gR_176_43 {σ : zS} (h : Sh σ) : gR σ 176 43 = some 211 := h.2.1 _ (List.mem_of_getElem? (i := 145) (a := (176, 43, 211)) rfl)
theorem gR_176_44 {σ : zS} (h : Sh σ) : gR σ 176 44 = some 212 := h.2.1 _ (List.mem_of_getElem? (i := 146) (a := (176, 44, 212)) rfl)
theorem gR_176_46 {σ : zS} (h : Sh σ) : gR σ 176 46 = some 213 := h.2.1 _ (List.mem_of_getElem? (i := 147) (a := (176, 46, 213)) rfl)
theorem gR_176_47 {σ : zS} (h : Sh σ) : gR σ 176 47 = some 214 := h.2.1 _ (List.mem_of_getElem? (i := 148) (a := (176, 47, 214)) rfl)
theorem gR_176_48 {σ : zS} (h : Sh σ) : gR σ 176 48 = some 215 := h.2.1 _ (List.mem_of_getElem? (i := 149) (a := (176, 48, 215)) rfl)
theorem gR_176_49 {σ : zS} (h : Sh σ) : gR σ 176 49 = some 216 := h.2.1 _ (List.mem_of_getElem? (i := 150) (a := (176, 49, 216)) rfl)
theorem gR_176_50 {σ : zS} (h : Sh σ) : gR σ 176 50 = some 217 := h.2.1 _ (List.mem_of_getElem? (i := 151) (a := (176, 50, 217)) rfl)
theorem gR_176_51 {σ : zS} (h : Sh σ) : gR σ 176 51 = some 218 := h.2.1 _ (List.mem_of_getElem? (i := 152) (a := (176, 51, 218)) rfl)
theorem gR_176_52 {σ : zS} (h : Sh σ) : gR σ 176 52 = some 219 := h.2.1 _ (List.mem_of_getElem? (i := 153) (a := (176, 52, 219)) rfl)
theorem gR_176_53 {σ : zS} (h : Sh σ) : gR σ 176 53 = some 220 := h.2.1 _ (List.mem_of_getElem? (i := 154) (a := (176, 53, 220)) rfl)
theorem gR_176_54 {σ : zS} (h : Sh σ) : gR σ 176 54 = some 221 := h.2.1 _ (List.mem_of_getElem? (i := 155) (a := (176, 54, 221)) rfl)
theorem gR_176_55 {σ : zS} (h : Sh σ) : gR σ 176 55 = some 222 := h.2.1 _ (List.mem_of_getElem? (i := 156) (a := (176, 55, 222)) rfl)
theorem gR_176_56 {σ : zS} (h : Sh σ) : gR σ 176 56 = some 223 := h.2.1 _ (List.mem_of_getElem? (i := 157) (a := (176, 56, 223)) rfl)
theorem gR_176_57 {σ : zS} (h : Sh σ) : gR σ 176 57 = some 224 := h.2.1 _ (List.mem_of_getElem? (i := 158) (a := (176, 57, 224)) rfl)
theorem gR_176_59 {σ : zS} (h : Sh σ) : gR σ 176 59 = some 225 := h.2.1 _ (List.mem_of_getElem? (i := 159) (a := (176, 59, 225)) rfl)
theorem gR_176_61 {σ : zS} (h : Sh σ) : gR σ 176 61 = some 226 := h.2.1 _ (List.mem_of_getElem? (i := 160) (a := (176, 61, 226)) rfl)
theorem gR_176_64 {σ : zS} (h : Sh σ) : gR σ 176 64 = some 227 := h.2.1 _ (List.mem_of_getElem? (i := 161) (a := (176, 64, 227)) rfl)
theorem gR_176_65 {σ : zS} (h : Sh σ) : gR σ 176 65 = some 228 := h.2.1 _ (List.mem_of_getElem? (i := 162) (a := (176, 65, 228)) rfl)
theorem gR_176_66 {σ : zS} (h : Sh σ) : gR σ 176 66 = some 229 := h.2.1 _ (List.mem_of_getElem? (i := 163) (a := (176, 66, 229)) rfl)
theorem gR_176_67 {σ : zS} (h : Sh σ) : gR σ 176 67 = some 230 := h.2.1 _ (List.mem_of_getElem? (i := 164) (a := (176, 67, 230)) rfl)
theorem gR_176_68 {σ : zS} (h : Sh σ) : gR σ 176 68 = some 231 := h.2.1 _ (List.mem_of_getElem? (i := 165) (a := (176, 68, 231)) rfl)
theorem gR_176_71 {σ : zS} (h : Sh σ) : gR σ 176 71 = some 232 := h.2.1 _ (List.mem_of_getElem? (i := 166) (a := (176, 71, 232)) rfl)
theorem gR_176_72 {σ : zS} (h : Sh σ) : gR σ 176 72 = some 233 := h.2.1 _ (List.mem_of_getElem? (i := 167) (a := (176, 72, 233)) rfl)
theorem gR_176_73 {σ : zS} (h : Sh σ) : gR σ 176 73 = some 234 := h.2.1 _ (List.mem_of_getElem? (i := 168) (a := (176, 73, 234)) rfl)
theorem gR_176_74 {σ : zS} (h : Sh σ) : gR σ 176 74 = some 235 := h.2.1 _ (List.mem_of_getElem? (i := 169) (a := (176, 74, 235)) rfl)
theorem gR_176_75 {σ : zS} (h : Sh σ) : gR σ 176 75 = some 236 := h.2.1 _ (List.mem_of_getElem? (i := 170) (a := (176, 75, 236)) rfl)
theorem gR_176_76 {σ : zS} (h : Sh σ) : gR σ 176 76 = some 237 := h.2.1 _ (List.mem_of_getElem? (i := 171) (a := (176, 76, 237)) rfl)
theorem gR_176_77 {σ : zS} (h : Sh σ) : gR σ 176 77 = some 238 := h.2.1 _ (List.mem_of_getElem? (i := 172) (a := (176, 77, 238)) rfl)
theorem gR_176_78 {σ : zS} (h : Sh σ) : gR σ 176 78 = some 239 := h.2.1 _ (List.mem_of_getElem? (i := 173) (a := (176, 78, 239)) rfl)
theorem gR_176_79 {σ : zS} (h : Sh σ) : gR σ 176 79 = some 240 := h.2.1 _ (List.mem_of_getElem? (i := 174) (a := (176, 79, 240)) rfl)
theorem gR_176_80 {σ : zS} (h : Sh σ) : gR σ 176 80 = some 241 := h.2.1 _ (List.mem_of_getElem? (i := 175) (a := (176, 80, 241)) rfl)
theorem gR_176_81 {σ : zS} (h : Sh σ) : gR σ 176 81 = some 242 := h.2.1 _ (List.mem_of_getElem? (i := 176) (a := (176, 81, 242)) rfl)
theorem gR_176_85 {σ : zS} (h : Sh σ) : gR σ 176 85 = some 243 := h.2.1 _ (List.mem_of_getElem? (i := 177) (a := (176, 85, 243)) rfl)
theorem gR_176_86 {σ : zS} (h : Sh σ) : gR σ 176 86 = some 244 := h.2.1 _ (List.mem_of_getElem? (i := 178) (a := (176, 86, 244)) rfl)
theorem gR_176_87 {σ : zS} (h : Sh σ) : gR σ 176 87 = some 245 := h.2.1 _ (List.mem_of_getElem? (i := 179) (a := (176, 87, 245)) rfl)
theorem gR_176_89 {σ : zS} (h : Sh σ) : gR σ 176 89 = some 246 := h.2.1 _ (List.mem_of_getElem? (i := 180) (a := (176, 89, 246)) rfl)
theorem gR_176_90 {σ : zS} (h : Sh σ) : gR σ 176 90 = some 247 := h.2.1 _ (List.mem_of_getElem? (i := 181) (a := (176, 90, 247)) rfl)
theorem gR_176_91 {σ : zS} (h : Sh σ) : gR σ 176 91 = some 248 := h.2.1 _ (List.mem_of_getElem? (i := 182) (a := (176, 91, 248)) rfl)
theorem gR_176_92 {σ : zS} (h : Sh σ) : gR σ 176 92 = some 249 := h.2.1 _ (List.mem_of_getElem? (i := 183) (a := (176, 92, 249)) rfl)
theorem gR_176_93 {σ : zS} (h : Sh σ) : gR σ 176 93 = some 250 := h.2.1 _ (List.mem_of_getElem? (i := 184) (a := (176, 93, 250)) rfl)
theorem gR_176_94 {σ : zS} (h : Sh σ) : gR σ 176 94 = some 251 := h.2.1 _ (List.mem_of_getElem? (i := 185) (a := (176, 94, 251)) rfl)
theorem gR_176_96 {σ : zS} (h : Sh σ) : gR σ 176 96 = some 252 := h.2.1 _ (List.mem_of_getElem? (i := 186) (a := (176, 96, 252)) rfl)
theorem tg_person {σ : zS} (h : Sh σ) {i : Nat} (hi : i < 20) : tg σ (116 + 3 * i) = 5 := by
  refine h.tg (n := 9) (by omega) (by omega) ?_
  have : ∀ i, i < 20 → zK0[116 + 3 * i - 6]? = some (5, 9) := by decide
  exact this i hi
theorem tg_pfeet {σ : zS} (h : Sh σ) {i : Nat} (hi : i < 20) : tg σ (117 + 3 * i) = 32 := by
  refine h.tg (n := 5) (by omega) (by omega) ?_
  have : ∀ i, i < 20 → zK0[117 + 3 * i - 6]? = some (32, 5) := by decide
  exact this i hi
theorem ln_pfeet {σ : zS} (h : Sh σ) {i : Nat} (hi : i < 20) : ln σ (117 + 3 * i) = 5 := by
  refine h.ln (t := 32) (by omega) (by omega) ?_
  have : ∀ i, i < 20 → zK0[117 + 3 * i - 6]? = some (32, 5) := by decide
  exact this i hi
theorem tg_pkept {σ : zS} (h : Sh σ) {i : Nat} (hi : i < 20) : tg σ (118 + 3 * i) = 32 := by
  refine h.tg (n := 40) (by omega) (by omega) ?_
  have : ∀ i, i < 20 → zK0[118 + 3 * i - 6]? = some (32, 40) := by decide
  exact this i hi
theorem ln_pkept {σ : zS} (h : Sh σ) {i : Nat} (hi : i < 20) : ln σ (118 + 3 * i) = 40 := by
  refine h.ln (t := 32) (by omega) (by omega) ?_
  have : ∀ i, i < 20 → zK0[118 + 3 * i - 6]? = some (32, 40) := by decide
  exact this i hi
theorem gR_pfeet {σ : zS} (h : Sh σ) {i : Nat} (hi : i < 20) : gR σ (116 + 3 * i) 2 = some (117 + 3 * i) := by
  have : ∀ i, i < 20 → (116 + 3 * i, 2, 117 + 3 * i) ∈ zF0 := by decide
  exact h.2.1 _ (this i hi)
theorem gR_pkept {σ : zS} (h : Sh σ) {i : Nat} (hi : i < 20) : gR σ (116 + 3 * i) 8 = some (118 + 3 * i) := by
  have : ∀ i, i < 20 → (116 + 3 * i, 8, 118 + 3 * i) ∈ zF0 := by decide
  exact h.2.1 _ (this i hi)
theorem gR_people {σ : zS} (h : Sh σ) {i : Nat} (hi : i < 20) : gR σ 104 i = some (116 + 3 * i) := by
  have : ∀ i, i < 20 → (104, i, 116 + 3 * i) ∈ zE0 := by decide
  exact h.2.2.1 _ (this i hi)
theorem tg_Alast {σ : zS} (h : Sh σ) {i : Nat} (hi : i < 8) : tg σ (24 + 2 * i) = 4 := by
  refine h.tg (n := 4) (by omega) (by omega) ?_
  have : ∀ i, i < 8 → zK0[24 + 2 * i - 6]? = some (4, 4) := by decide
  exact this i hi
theorem tg_Aruns {σ : zS} (h : Sh σ) {i : Nat} (hi : i < 8) : tg σ (25 + 2 * i) = 32 := by
  refine h.tg (n := 3) (by omega) (by omega) ?_
  have : ∀ i, i < 8 → zK0[25 + 2 * i - 6]? = some (32, 3) := by decide
  exact this i hi
theorem ln_Aruns {σ : zS} (h : Sh σ) {i : Nat} (hi : i < 8) : ln σ (25 + 2 * i) = 3 := by
  refine h.ln (t := 32) (by omega) (by omega) ?_
  have : ∀ i, i < 8 → zK0[25 + 2 * i - 6]? = some (32, 3) := by decide
  exact this i hi
theorem gR_Aruns {σ : zS} (h : Sh σ) {i : Nat} (hi : i < 8) : gR σ (24 + 2 * i) 2 = some (25 + 2 * i) := by
  have : ∀ i, i < 8 → (24 + 2 * i, 2, 25 + 2 * i) ∈ zF0 := by decide
  exact h.2.1 _ (this i hi)
theorem gR_Alast {σ : zS} (h : Sh σ) {i : Nat} (hi : i < 8) : gR σ 17 i = some (24 + 2 * i) := by
  have : ∀ i, i < 8 → (17, i, 24 + 2 * i) ∈ zE0 := by decide
  exact h.2.2.1 _ (this i hi)
theorem tg_Asort {σ : zS} (h : Sh σ) {i : Nat} (hi : i < 4) : tg σ (40 + 2 * i) = 9 := by
  refine h.tg (n := 5) (by omega) (by omega) ?_
  have : ∀ i, i < 4 → zK0[40 + 2 * i - 6]? = some (9, 5) := by decide
  exact this i hi
theorem tg_Afeet {σ : zS} (h : Sh σ) {i : Nat} (hi : i < 4) : tg σ (41 + 2 * i) = 32 := by
  refine h.tg (n := 5) (by omega) (by omega) ?_
  have : ∀ i, i < 4 → zK0[41 + 2 * i - 6]? = some (32, 5) := by decide
  exact this i hi
theorem ln_Afeet {σ : zS} (h : Sh σ) {i : Nat} (hi : i < 4) : ln σ (41 + 2 * i) = 5 := by
  refine h.ln (t := 32) (by omega) (by omega) ?_
  have : ∀ i, i < 4 → zK0[41 + 2 * i - 6]? = some (32, 5) := by decide
  exact this i hi
theorem gR_Afeet {σ : zS} (h : Sh σ) {i : Nat} (hi : i < 4) : gR σ (40 + 2 * i) 1 = some (41 + 2 * i) := by
  have : ∀ i, i < 4 → (40 + 2 * i, 1, 41 + 2 * i) ∈ zF0 := by decide
  exact h.2.1 _ (this i hi)
theorem gR_Asort {σ : zS} (h : Sh σ) {i : Nat} (hi : i < 4) : gR σ 18 i = some (40 + 2 * i) := by
  have : ∀ i, i < 4 → (18, i, 40 + 2 * i) ∈ zE0 := by decide
  exact h.2.2.1 _ (this i hi)
theorem tg_Aquest {σ : zS} (h : Sh σ) {i : Nat} (hi : i < 6) : tg σ (48 + 2 * i) = 6 := by
  refine h.tg (n := 2) (by omega) (by omega) ?_
  have : ∀ i, i < 6 → zK0[48 + 2 * i - 6]? = some (6, 2) := by decide
  exact this i hi
theorem tg_Ayes {σ : zS} (h : Sh σ) {i : Nat} (hi : i < 6) : tg σ (49 + 2 * i) = 32 := by
  refine h.tg (n := 5) (by omega) (by omega) ?_
  have : ∀ i, i < 6 → zK0[49 + 2 * i - 6]? = some (32, 5) := by decide
  exact this i hi
theorem ln_Ayes {σ : zS} (h : Sh σ) {i : Nat} (hi : i < 6) : ln σ (49 + 2 * i) = 5 := by
  refine h.ln (t := 32) (by omega) (by omega) ?_
  have : ∀ i, i < 6 → zK0[49 + 2 * i - 6]? = some (32, 5) := by decide
  exact this i hi
theorem gR_Ayes {σ : zS} (h : Sh σ) {i : Nat} (hi : i < 6) : gR σ (48 + 2 * i) 1 = some (49 + 2 * i) := by
  have : ∀ i, i < 6 → (48 + 2 * i, 1, 49 + 2 * i) ∈ zF0 := by decide
  exact h.2.1 _ (this i hi)
theorem gR_Aquest {σ : zS} (h : Sh σ) {i : Nat} (hi : i < 6) : gR σ 19 i = some (48 + 2 * i) := by
  have : ∀ i, i < 6 → (19, i, 48 + 2 * i) ∈ zE0 := by decide
  exact h.2.2.1 _ (this i hi)
theorem tg_Blast {σ : zS} (h : Sh σ) {i : Nat} (hi : i < 8) : tg σ (68 + 2 * i) = 4 := by
  refine h.tg (n := 4) (by omega) (by omega) ?_
  have : ∀ i, i < 8 → zK0[68 + 2 * i - 6]? = some (4, 4) := by decide
  exact this i hi
theorem tg_Bruns {σ : zS} (h : Sh σ) {i : Nat} (hi : i < 8) : tg σ (69 + 2 * i) = 32 := by
  refine h.tg (n := 3) (by omega) (by omega) ?_
  have : ∀ i, i < 8 → zK0[69 + 2 * i - 6]? = some (32, 3) := by decide
  exact this i hi
theorem ln_Bruns {σ : zS} (h : Sh σ) {i : Nat} (hi : i < 8) : ln σ (69 + 2 * i) = 3 := by
  refine h.ln (t := 32) (by omega) (by omega) ?_
  have : ∀ i, i < 8 → zK0[69 + 2 * i - 6]? = some (32, 3) := by decide
  exact this i hi
theorem gR_Bruns {σ : zS} (h : Sh σ) {i : Nat} (hi : i < 8) : gR σ (68 + 2 * i) 2 = some (69 + 2 * i) := by
  have : ∀ i, i < 8 → (68 + 2 * i, 2, 69 + 2 * i) ∈ zF0 := by decide
  exact h.2.1 _ (this i hi)
theorem gR_Blast {σ : zS} (h : Sh σ) {i : Nat} (hi : i < 8) : gR σ 61 i = some (68 + 2 * i) := by
  have : ∀ i, i < 8 → (61, i, 68 + 2 * i) ∈ zE0 := by decide
  exact h.2.2.1 _ (this i hi)
theorem tg_Bsort {σ : zS} (h : Sh σ) {i : Nat} (hi : i < 4) : tg σ (84 + 2 * i) = 9 := by
  refine h.tg (n := 5) (by omega) (by omega) ?_
  have : ∀ i, i < 4 → zK0[84 + 2 * i - 6]? = some (9, 5) := by decide
  exact this i hi
theorem tg_Bfeet {σ : zS} (h : Sh σ) {i : Nat} (hi : i < 4) : tg σ (85 + 2 * i) = 32 := by
  refine h.tg (n := 5) (by omega) (by omega) ?_
  have : ∀ i, i < 4 → zK0[85 + 2 * i - 6]? = some (32, 5) := by decide
  exact this i hi
theorem ln_Bfeet {σ : zS} (h : Sh σ) {i : Nat} (hi : i < 4) : ln σ (85 + 2 * i) = 5 := by
  refine h.ln (t := 32) (by omega) (by omega) ?_
  have : ∀ i, i < 4 → zK0[85 + 2 * i - 6]? = some (32, 5) := by decide
  exact this i hi
theorem gR_Bfeet {σ : zS} (h : Sh σ) {i : Nat} (hi : i < 4) : gR σ (84 + 2 * i) 1 = some (85 + 2 * i) := by
  have : ∀ i, i < 4 → (84 + 2 * i, 1, 85 + 2 * i) ∈ zF0 := by decide
  exact h.2.1 _ (this i hi)
theorem gR_Bsort {σ : zS} (h : Sh σ) {i : Nat} (hi : i < 4) : gR σ 62 i = some (84 + 2 * i) := by
  have : ∀ i, i < 4 → (62, i, 84 + 2 * i) ∈ zE0 := by decide
  exact h.2.2.1 _ (this i hi)
theorem tg_Bquest {σ : zS} (h : Sh σ) {i : Nat} (hi : i < 6) : tg σ (92 + 2 * i) = 6 := by
  refine h.tg (n := 2) (by omega) (by omega) ?_
  have : ∀ i, i < 6 → zK0[92 + 2 * i - 6]? = some (6, 2) := by decide
  exact this i hi
theorem tg_Byes {σ : zS} (h : Sh σ) {i : Nat} (hi : i < 6) : tg σ (93 + 2 * i) = 32 := by
  refine h.tg (n := 5) (by omega) (by omega) ?_
  have : ∀ i, i < 6 → zK0[93 + 2 * i - 6]? = some (32, 5) := by decide
  exact this i hi
theorem ln_Byes {σ : zS} (h : Sh σ) {i : Nat} (hi : i < 6) : ln σ (93 + 2 * i) = 5 := by
  refine h.ln (t := 32) (by omega) (by omega) ?_
  have : ∀ i, i < 6 → zK0[93 + 2 * i - 6]? = some (32, 5) := by decide
  exact this i hi
theorem gR_Byes {σ : zS} (h : Sh σ) {i : Nat} (hi : i < 6) : gR σ (92 + 2 * i) 1 = some (93 + 2 * i) := by
  have : ∀ i, i < 6 → (92 + 2 * i, 1, 93 + 2 * i) ∈ zF0 := by decide
  exact h.2.1 _ (this i hi)
theorem gR_Bquest {σ : zS} (h : Sh σ) {i : Nat} (hi : i < 6) : gR σ 63 i = some (92 + 2 * i) := by
  have : ∀ i, i < 6 → (63, i, 92 + 2 * i) ∈ zE0 := by decide
  exact h.2.2.1 _ (this i hi)
/-! the memories' own rules -/
theorem kd_sI (σ : zS) (r j : Nat) (v : Int32) (r' : Nat) : kd (sI σ r j v) r' = kd σ r' := rfl
theorem tg_sI (σ : zS) (r j : Nat) (v : Int32) (r' : Nat) : tg (sI σ r j v) r' = tg σ r' := rfl
theorem ln_sI (σ : zS) (r j : Nat) (v : Int32) (r' : Nat) : ln (sI σ r j v) r' = ln σ r' := rfl
theorem tg_sL (σ : zS) (r j : Nat) (v : Int64) (r' : Nat) : tg (sL σ r j v) r' = tg σ r' := rfl
theorem ln_sL (σ : zS) (r j : Nat) (v : Int64) (r' : Nat) : ln (sL σ r j v) r' = ln σ r' := rfl
theorem tg_sR (σ : zS) (r j : Nat) (v : Option Nat) (r' : Nat) : tg (sR σ r j v) r' = tg σ r' := rfl
theorem ln_sR (σ : zS) (r j : Nat) (v : Option Nat) (r' : Nat) : ln (sR σ r j v) r' = ln σ r' := rfl
theorem tg_sC (σ : zS) (a p b q n r' : Nat) : tg (sC σ a p b q n) r' = tg σ r' := rfl
theorem ln_sC (σ : zS) (a p b q n r' : Nat) : ln (sC σ a p b q n) r' = ln σ r' := rfl
theorem ai_sI (σ : zS) (r j : Nat) (v : Int32) (t u r' : Nat) (i : Int32) : ai (sI σ r j v) t u r' i = ai σ t u r' i := rfl
theorem ai_sL (σ : zS) (r j : Nat) (v : Int64) (t u r' : Nat) (i : Int32) : ai (sL σ r j v) t u r' i = ai σ t u r' i := rfl
theorem gL_sI (σ : zS) (r j : Nat) (v : Int32) (r' j' : Nat) : gL (sI σ r j v) r' j' = gL σ r' j' := rfl
theorem gR_sI (σ : zS) (r j : Nat) (v : Int32) (r' j' : Nat) : gR (sI σ r j v) r' j' = gR σ r' j' := rfl
theorem gI_sL (σ : zS) (r j : Nat) (v : Int64) (r' j' : Nat) : gI (sL σ r j v) r' j' = gI σ r' j' := rfl
theorem gR_sL (σ : zS) (r j : Nat) (v : Int64) (r' j' : Nat) : gR (sL σ r j v) r' j' = gR σ r' j' := rfl
theorem gI_sR (σ : zS) (r j : Nat) (v : Option Nat) (r' j' : Nat) : gI (sR σ r j v) r' j' = gI σ r' j' := rfl
theorem gL_sR (σ : zS) (r j : Nat) (v : Option Nat) (r' j' : Nat) : gL (sR σ r j v) r' j' = gL σ r' j' := rfl
theorem zlt_e (σ : zS) (f : zS → zO) : zlt σ f = f σ := rfl
theorem zln_e (n : Nat) (f : Nat → zO) : zln n f = f n := rfl
theorem zli_e (x : Int32) (f : Int32 → zO) : zli x f = f x := rfl
theorem zll_e (x : Int64) (f : Int64 → zO) : zll x f = f x := rfl
theorem zbI_e (x : Int32) (σ : zS) (f : Int32 → zS → zO) : zbI (some (some (.int x), σ)) f = f x σ := rfl
theorem zbL_e (x : Int64) (σ : zS) (f : Int64 → zS → zO) : zbL (some (some (.long x), σ)) f = f x σ := rfl
theorem zbR_e (x : Nat) (σ : zS) (f : Nat → zS → zO) : zbR (some (some (.ref x), σ)) f = f x σ := rfl
theorem zbV_e (σ : zS) (f : zS → zO) : zbV (some (none, σ)) f = f σ := rfl
theorem zeR_e {α : Type} (a : α) (q : Nat) (f : Nat → α) : zeR a (some q) f = f q := rfl
theorem zeN_s {α : Type} (a : α) (q : Nat) (f : Nat → α) : zeN (some q) a f = f q := rfl
theorem zeN_n {α : Type} (a : α) (f : Nat → α) : zeN none a f = a := rfl
theorem Sh.sI {σ : zS} (h : Sh σ) {r j : Nat} {v : Int32} (hr : r ≠ 1) : Sh (sI σ r j v) := by
  obtain ⟨h1, h2, h3, h4⟩ := h
  refine ⟨h1, h2, h3, fun j' hj => ?_⟩
  rw [gI_sI, if_neg (fun q => hr q.1.symm)]
  exact h4 j' hj
theorem Sh.sL {σ : zS} (h : Sh σ) {r j : Nat} {v : Int64} : Sh (sL σ r j v) := h
