/-! what each method may write; laid by wip/whole/gen/keff.py -/
def zEf : List (List Nat) := [[100, 101, 102, 103, 104, 402, 403, 601, 901, 1000, 1001, 10068, 10070, 10073], [105, 106, 107, 108, 109, 110, 403, 1002, 1003, 10032], [], [], [], [], [200], [105, 106, 107, 108, 109, 110, 400, 401, 403, 600, 900, 902, 903, 904, 1002, 1003, 1103, 1104, 1105, 1106, 1107, 1108, 1109, 10032], [105, 106, 107, 108, 109, 110, 400, 401, 600, 900, 902, 903, 904, 1103, 1104, 1105, 1106, 1107, 1108, 1109, 10032], [105, 400, 401, 1103, 1104, 1105, 1106, 1107, 1108, 1109, 10032], [106, 900, 902, 903, 904, 1103, 1104, 1105, 1106, 1107, 1108, 1109, 10032], [1103, 1104, 1105, 1106, 1107, 1108, 1109, 10032], [107, 600, 1103, 1104, 1105, 1106, 1107, 1108, 1109, 10032], [1103, 1104, 1105, 1108, 1109], [1103, 1104, 1105, 1106, 1107, 1108, 1109, 10032], [1103, 1104, 1105, 1106, 1107, 1108, 1109, 10032], [300], [], [301, 10033], [301, 10033], [301, 10033], [], [], [], [], [], [], [10032], [500, 501, 503, 504, 505, 506, 507, 10032], [10032], [402, 403], [], [502, 505, 507, 508], [500, 501, 503, 504, 505, 506, 507, 10032], [], [], [], [503, 504, 505, 506, 10032], [], [], [], [10032], [10032], [601], [700, 701, 702, 704], [], [], [705, 10032], [705, 10032], [705], [], [], [703, 1103, 1104, 1105, 1106, 1107, 1108, 1109, 10032, 10080], [703, 10032], [1103, 1104, 1105, 1106, 1107, 1108, 1109], [], [703, 1103, 1104, 1105, 1106, 1107, 1108, 1109, 10032], [703, 1103, 1104, 1105, 1106, 1107, 1108, 1109, 10032], [703, 1103, 1104, 1105, 1106, 1107, 1108, 1109, 10032], [1103, 1104, 1105, 1106, 1107, 1108, 1109], [703, 1103, 1104, 1105, 1106, 1107, 1108, 1109, 10032], [703, 1103, 1104, 1105, 1106, 1107, 1108, 1109, 10032], [703, 1103, 1104, 1105, 1106, 1107, 1108, 1109, 10032], [703, 1103, 1104, 1105, 1106, 1107, 1108, 1109, 10032], [703, 1103, 1104, 1105, 1106, 1107, 1108, 1109, 10032], [800, 801, 802, 803], [803, 804], [], [], [], [], [10036], [], [10036], [10036], [], [10032], [10032], [901], [1000, 1001], [1002, 1003, 10032], [], [], [], [10032], [], [], [10032], [1002, 10032], [1002, 1003, 10032], [1002, 10032], [1100, 1101, 1107, 1109, 10032], [], [], [], [], [1101, 1102, 1103, 1104, 1105, 1106, 1107, 1108, 1109], [1103, 1104, 1105, 1106, 1107], [], [1106, 1107], [1106], [], [], [], [], [], [1103, 1104, 1105, 1108, 1109], [1103, 1104, 1105, 1108, 1109], [1103, 1104, 1105, 1106, 1107, 1108, 1109], [1103, 1104, 1105, 1106, 1107, 1108, 1109], [1103, 1104, 1105, 1106, 1107, 1108, 1109], [1103, 1104, 1105, 1106, 1107, 1108, 1109], [100, 101, 102, 103, 104, 200, 300, 402, 403, 502, 505, 507, 508, 601, 700, 701, 702, 704, 800, 801, 802, 803, 901, 1000, 1001, 1100, 1101, 1107, 1109, 1200, 1202, 1203, 1204, 1205, 1206, 1208, 1209, 1213, 1214, 1215, 1216, 1217, 1218, 10032, 10068, 10069, 10070, 10073], [1201, 10033], [1201, 10033], [1201], [1201], [105, 106, 107, 108, 109, 110, 400, 401, 403, 600, 900, 902, 903, 904, 1002, 1003, 1101, 1102, 1103, 1104, 1105, 1106, 1107, 1108, 1109, 1201, 1205, 1206, 1207, 1208, 1210, 1211, 10032], [703, 1101, 1102, 1103, 1104, 1105, 1106, 1107, 1108, 1109, 1201, 1207, 1208, 10032, 10080], [1207, 1208], [], [], [], [], [], [], [], [], [], [], [], [], [], [], [], [], [500, 501, 503, 504, 505, 506, 507, 1210, 10032], [], [], [], [803, 804, 10036], [803, 804, 10036], [803, 804, 10032, 10036], [803, 804, 10032, 10036], [803, 804, 10036], [803, 804, 10036], [803, 804, 10036], [], [], [803, 804, 10036], [803, 804, 10036], [803, 804, 10036], [705, 10032], [10032], [705, 803, 804, 10032, 10036], [705, 803, 804, 10032, 10036], [505, 506, 10032], [], [505, 506, 10032], [503, 504, 505, 506, 803, 804, 1002, 1211, 10032, 10036], [803, 804, 10032, 10036], [503, 504, 505, 506, 1002, 1211, 10032], [1002, 1003, 10032], [], [], [10032, 10036], [803, 804, 10032, 10036], [803, 804, 10032, 10036], [803, 804, 10032, 10036], [110], [803, 804, 10036], [], [], [10032], [803, 804, 10036], [10032], [403, 507, 1212], [1212], [1212], [], [503, 504, 505, 506, 705, 803, 804, 1002, 1211, 1212, 10032, 10036], [], [803, 804, 1212], [301, 10033], [], [500, 501, 503, 504, 505, 506, 507, 1201, 1210, 10032], [10032], [1300, 1308, 1310, 1311, 1312, 1313, 1314, 1315, 1316, 1317, 1318, 1319, 1320, 1321, 1322, 1323, 1324, 1325, 1326, 1327, 1328, 1329, 1330, 1331, 1332, 1333, 1334, 1335, 1336, 1337, 1338, 1339, 1340, 1341, 1342, 1343, 1344, 1346, 1347, 1348, 1349, 1350, 1351, 1352, 1353, 1354, 1355, 1356, 1357, 1359, 1361, 1364, 1365, 1366, 1367, 1368, 1371, 1372, 1373, 1374, 1375, 1376, 1377, 1378, 1379, 1380, 1381, 1385, 1386, 1387, 1389, 1390, 1391, 1392, 1393, 1394, 1396, 10034], [], [1301, 10032], [1301], [1305, 1306], [], [], [1302], [1302], [1302, 1304], [1302, 1304, 1305, 1306], [1302], [1302, 1305, 1306], [1302, 1304, 1305, 1306, 1309], [1302], [1302, 1304, 1305, 1306, 1345], [1301, 1302, 1303, 1304, 1305, 1306, 1358, 1360], [], [1302, 1304, 1305, 1306, 1345, 10032, 10036], [1305, 1306], [1302, 1304, 1305, 1306, 1309, 10032], [1302, 1304, 1305, 1306, 1309, 1345, 10032, 10036], [1302, 1304, 1305, 1306, 1309, 1345, 10032, 10036], [1302, 1304, 1305, 1306, 1309, 1345, 10032, 10036], [1302, 1304, 1305, 1306, 1309, 10032], [1302, 1304, 1305, 1306, 1309, 1345, 10032], [1302, 1304, 1305, 1306, 1309, 1345, 1358, 10032, 10036], [1301, 1302, 1303, 1304, 1305, 1306, 1307, 1308, 1309, 1345, 1358, 1360, 1370, 1382, 1383, 1384, 10032, 10036], [1370, 1382, 1383, 1384, 10032, 10036], [1360, 10032], [1305, 1306, 1362, 1363, 10032], [], [1360, 1362, 10032], [], [], [1360, 1362, 10032], [1302, 1304, 1305, 1306, 1309, 1360, 1362, 1363, 10032], [1302, 1305, 1306, 1360, 1362, 1363, 10032], [1302, 1304, 1305, 1306, 1309, 1360, 1362, 1363, 1369, 10032], [1302, 1304, 1305, 1306, 1309, 1360, 1362, 1363, 1369, 10032], [], [1360, 1362, 1363, 10032], [1302, 1304, 1305, 1306, 1309, 1360, 1362, 1363, 1369, 10032], [1302, 1304, 1305, 1306, 1360, 1362, 1363, 10032], [1302, 1304], [1302, 1304, 1305, 1306], [1302, 1304, 1305, 1306, 1309, 1358, 1360, 1362, 1363, 1369, 10032], [1301, 1302, 1303, 1304, 1305, 1306, 1307, 1308, 1309, 1358, 1360, 1362, 1363, 1369, 10032, 10035], [], [], [], [], [], [], [10032], [], [1370, 10032], [], [], [], [], [], [], [], [], [], [], [], [], [], [], [], [], [], [], [], [], [], [], [1388, 10036], [1388, 10036], [1388, 10036], [], [], [1388, 10036], [], [1388, 10036], [1388, 10036], [], [1388, 10036], [10032], [10032], [10032], [10032, 10036], [10032, 10036], [], [10032, 10036], [10032, 10036], [1383, 1384, 10032, 10036], [1383, 1384, 10032, 10036], [1382, 1384, 10032], [], [], [], [], [], [10032], [10032], [10032], [10032], [10032], [10032], [10032], [], [], [], [], [], [10032], [1395], [1395], [1395, 10032], [], [1383, 1384, 1388, 1395, 10032, 10036], [1397, 10032], [1397, 10032], [], [1397, 10032], [], [], [], [], [1301, 1370, 10032], [], [], [], [], [], [], [], [], [], [], [], [], [], [], [10036], [10032], [10032], [], [100, 101, 102, 103, 104, 105, 106, 107, 108, 109, 110, 200, 300, 301, 400, 401, 402, 403, 500, 501, 502, 503, 504, 505, 506, 507, 508, 600, 601, 700, 701, 702, 703, 704, 705, 800, 801, 802, 803, 804, 900, 901, 902, 903, 904, 1000, 1001, 1002, 1003, 1100, 1101, 1102, 1103, 1104, 1105, 1106, 1107, 1108, 1109, 1200, 1201, 1202, 1203, 1204, 1205, 1206, 1207, 1208, 1209, 1210, 1211, 1212, 1213, 1214, 1215, 1216, 1217, 1218, 1300, 1301, 1302, 1303, 1304, 1305, 1306, 1307, 1308, 1309, 1310, 1311, 1312, 1313, 1314, 1315, 1316, 1317, 1318, 1319, 1320, 1321, 1322, 1323, 1324, 1325, 1326, 1327, 1328, 1329, 1330, 1331, 1332, 1333, 1334, 1335, 1336, 1337, 1338, 1339, 1340, 1341, 1342, 1343, 1344, 1345, 1346, 1347, 1348, 1349, 1350, 1351, 1352, 1353, 1354, 1355, 1356, 1357, 1358, 1359, 1360, 1361, 1362, 1363, 1364, 1365, 1366, 1367, 1368, 1369, 1370, 1371, 1372, 1373, 1374, 1375, 1376, 1377, 1378, 1379, 1380, 1381, 1382, 1383, 1384, 1385, 1386, 1387, 1388, 1389, 1390, 1391, 1392, 1393, 1394, 1395, 1396, 1397, 10032, 10033, 10034, 10035, 10036, 10068, 10069, 10070, 10073, 10080]]
def eff (m : Nat) : List Nat := zEf.getD m []
/-- the name of a place: of an object's field, or of all places of arrays of a kind -/
def wc (t j : Nat) : Nat := bif Nat.ble 32 t then 10000 + t else 100 * t + j
def okE (E : List Nat) (e : zI) : Bool := match e with
  | (_, ins, _, a, b, _, _, _) => match ins with
    | .putfield _ => Nat.blt (a / 1000) 32 && E.elem (100 * (a / 1000) + b)
    | .iastore => E.elem 10032
    | .bastore => E.elem (bif Nat.beq a 0 then 10033 else 10035)
    | .castore => E.elem 10034
    | .lastore => E.elem 10036
    | .aastore => Nat.ble 32 a && E.elem (10000 + a)
    | .invokevirtual _ => b != 0 || (eff a).all (fun q => E.elem q)
    | .invokespecial _ => b != 2 || (eff a).all (fun q => E.elem q)
    | .invokestatic _ => (b != 4 || E.elem 10032) && (b != 1 || (eff a).all (fun q => E.elem q))
    | _ => true
set_option maxRecDepth 100000 in
theorem okE_all : ∀ m, m < 339 → (zL m).all (okE (eff m)) = true := by decide +kernel
theorem okE_of {m i : Nat} {e : zI} (h : (zL m)[i]? = some e) : okE (eff m) e = true := by
  have hm : m < 339 := by
    rcases Nat.lt_or_ge m 339 with h1 | h1
    · exact h1
    · have : zL m = [] := by
        unfold zL
        rw [List.getD_eq_getElem?_getD, List.getElem?_eq_none]
        · rfl
        · have hl : zLL.length = 339 := by decide +kernel
          omega
      rw [this] at h
      simp at h
  exact List.all_eq_true.mp (okE_all m hm) e (List.mem_of_getElem? h)
/-- all places but those named in E are as they were -/
def Ke (E : List Nat) (σ σ' : zS) : Prop := σ.1 <+: σ'.1 ∧ ∀ r j, r < σ.1.length → E.elem (wc (tg σ r) j) = false → gI σ' r j = gI σ r j ∧ gL σ' r j = gL σ r j ∧ gR σ' r j = gR σ r j
def zAE (E : List Nat) (σ : zS) (a : zA) : Prop := match a with
  | none => True
  | some (.inl (_, _, _, σ1)) => Ke E σ σ1
  | some (.inr (.inl (_, σ1))) => Ke E σ σ1
  | some (.inr (.inr (m, _, _, _, _, σ1))) => (eff m).all (fun q => E.elem q) = true ∧ Ke E σ σ1
section
variable {σ : zS} {E : List Nat}
theorem Ke.refl (E : List Nat) (σ : zS) : Ke E σ σ := ⟨List.prefix_refl _, fun _ _ _ _ => ⟨rfl, rfl, rfl⟩⟩
theorem Ke.trans {σ1 σ2 : zS} (h : Ke E σ σ1) (h2 : Ke E σ1 σ2) : Ke E σ σ2 := by
  refine ⟨h.1.trans h2.1, fun r j hr ha => ?_⟩
  have e := tg_pre h.1 hr
  obtain ⟨b1, b2, b3⟩ := h2.2 r j (Nat.lt_of_lt_of_le hr h.1.length_le) (by rw [e]; exact ha)
  obtain ⟨a1, a2, a3⟩ := h.2 r j hr ha
  exact ⟨b1.trans a1, b2.trans a2, b3.trans a3⟩
theorem Ke.mono {E' : List Nat} {σ1 : zS} (h : Ke E' σ σ1) (hE : E'.all (fun q => E.elem q) = true) : Ke E σ σ1 := by
  refine ⟨h.1, fun r j hr ha => h.2 r j hr ?_⟩
  cases hq : E'.elem (wc (tg σ r) j)
  · rfl
  · have := List.all_eq_true.mp hE _ (List.elem_iff.mp hq)
    rw [ha] at this
    exact absurd this (by decide)
theorem Ke_sI {r j : Nat} {v : Int32} (h : E.elem (wc (tg σ r) j) = true) : Ke E σ (sI σ r j v) := by
  refine ⟨List.prefix_refl _, fun r' j' _ ha => ⟨?_, rfl, rfl⟩⟩
  rw [gI_sI, if_neg]
  rintro ⟨rfl, rfl⟩
  rw [h] at ha
  exact absurd ha (by decide)
theorem Ke_sL {r j : Nat} {v : Int64} (h : E.elem (wc (tg σ r) j) = true) : Ke E σ (sL σ r j v) := by
  refine ⟨List.prefix_refl _, fun r' j' _ ha => ⟨rfl, ?_, rfl⟩⟩
  rw [gL_sL, if_neg]
  rintro ⟨rfl, rfl⟩
  rw [h] at ha
  exact absurd ha (by decide)
theorem Ke_sR {r j : Nat} {v : Option Nat} (h : E.elem (wc (tg σ r) j) = true) : Ke E σ (sR σ r j v) := by
  refine ⟨List.prefix_refl _, fun r' j' _ ha => ⟨rfl, rfl, ?_⟩⟩
  rw [gR_sR, if_neg]
  rintro ⟨rfl, rfl⟩
  rw [h] at ha
  exact absurd ha (by decide)
theorem Ke_sC {a p b q n : Nat} (h : E.elem 10032 = true) (hb : tg σ b = 32) : Ke E σ (sC σ a p b q n) := by
  refine ⟨List.prefix_refl _, fun r' j' _ ha => ⟨?_, rfl, rfl⟩⟩
  show (if r' = b ∧ _ then _ else _) = _
  rw [if_neg]
  · rfl
  rintro ⟨rfl, -⟩
  rw [hb] at ha
  have : E.elem (wc 32 j') = true := h
  rw [this] at ha
  exact absurd ha (by decide)
theorem Ke_sN {t n : Nat} : Ke E σ (sN σ t n) := by
  refine ⟨List.prefix_append _ _, fun r' j' hr _ => ⟨?_, ?_, ?_⟩⟩
  · show (if r' = σ.1.length then _ else _) = _
    rw [if_neg (by omega)]; rfl
  · show (if r' = σ.1.length then _ else _) = _
    rw [if_neg (by omega)]; rfl
  · show (if r' = σ.1.length then _ else _) = _
    rw [if_neg (by omega)]; rfl
theorem zAE_ite {p : Prop} {hp : Decidable p} {a b : zA} (h1 : p → zAE E σ a) (h2 : zAE E σ b) : zAE E σ (@ite _ p hp a b) := by cases hp <;> first | exact h2 | exact h1 ‹_›
theorem zAE_cond {c : Bool} {a b : zA} (h1 : c = true → zAE E σ a) (h2 : c = false → zAE E σ b) : zAE E σ (bif c then a else b) := by cases c <;> first | exact h2 rfl | exact h1 rfl
theorem zAE_sw {f : Nat → zA} (l : List (Int32 × Nat)) (x : Int32) (d : Nat) (h : ∀ t, zAE E σ (f t)) : zAE E σ (zsw l x d f) := by
  induction l with
  | nil => exact h d
  | cons q l ih => obtain ⟨v, t⟩ := q; unfold zsw; exact zAE_ite (fun _ => h t) ih
theorem zAE_eR {o : Option Nat} {f : Nat → zA} (h : ∀ q, o = some q → zAE E σ (f q)) : zAE E σ (zeR none o f) := by cases o <;> first | trivial | exact h _ rfl
theorem zAE_eN {o : Option Nat} {g : zA} {f : Nat → zA} (h1 : zAE E σ g) (h : ∀ q, o = some q → zAE E σ (f q)) : zAE E σ (zeN o g f) := by cases o <;> first | exact h1 | exact h _ rfl
theorem zAE_cal (d a b nx : Nat) {cl : List (Option Value)} {st : List Value} (hq : (eff a).all (fun q => E.elem q) = true) : zAE E σ (zcal zmi none (fun m args nx cl st σ => some (.inr (.inr (m, args, nx, cl, st, σ)))) d a b nx cl st σ) := by
  unfold zcal
  refine zAE_cond (fun _ => zAE_cond (fun _ => zAE_cond (fun _ => zAE_cond (fun _ => ?_) (fun _ => trivial)) (fun _ => trivial)) (fun _ => trivial)) (fun _ => trivial)
  split
  · exact ⟨hq, Ke.refl _ _⟩
  · split
    · exact zAE_ite (fun _ => ⟨hq, Ke.refl _ _⟩) trivial
    · trivial
  · split
    · exact ⟨hq, Ke.refl _ _⟩
    · trivial
theorem wc_arr {t j : Nat} (h : 32 ≤ t) : wc t j = 10000 + t := by
  unfold wc
  rw [Nat.ble_eq_true_of_le h]
  rfl
theorem wc_obj {t j : Nat} (h : t < 32) : wc t j = 100 * t + j := by
  unfold wc
  cases hb : Nat.ble 32 t
  · rfl
  · have := Nat.le_of_ble_eq_true hb
    omega
theorem wcA {t r j : Nat} {i : Int32} (h : ai σ t t r i = true) (ht : 32 ≤ t) (hE : E.elem (10000 + t) = true) : E.elem (wc (tg σ r) j) = true := by
  have : tg σ r = t := by rcases ai_tag h with h | h <;> exact h
  rw [this, wc_arr ht]
  exact hE
theorem wcO {a b r : Nat} (h : tg σ r = a / 1000) (hE : (Nat.blt (a / 1000) 32 && E.elem (100 * (a / 1000) + b)) = true) : E.elem (wc (tg σ r) b) = true := by
  simp only [Bool.and_eq_true] at hE
  rw [h, wc_obj (Nat.blt_eq.mp hE.1)]
  exact hE.2
end
set_option maxHeartbeats 8000000 in
theorem zstep_ke {E : List Nat} (d m : Nat) (e : zI) (cl : List (Option Value)) (st : List Value) (σ : zS) (he : okE E e = true) : zAE E σ (zstep d m e cl st σ) := by
  unfold zstep
  obtain ⟨bp, ins, nx, a, b, c, cI, cL⟩ := e
  have hr := Ke.refl E σ
  unfold okE at he
  cases ins <;> unfold zx <;> dsimp only at he ⊢
  all_goals try trivial
  all_goals try (unfold zret)
  all_goals repeat' (first | trivial | exact hr | exact zAE_cal _ _ _ _ (by simpa using he) | (refine zAE_ite ?_ ?_; intro hi) | (refine zAE_cond ?_ ?_ <;> intro hi) | apply zAE_sw | (refine zAE_eR ?_; intro q hq) | (refine zAE_eN ?_ ?_; rotate_left; intro q hq; rotate_right) | intro t | split)
  all_goals try trivial
  all_goals try exact Ke_sN
  all_goals try (exact Ke_sI (wcO hi he))
  all_goals try (exact Ke_sL (wcO hi he))
  all_goals try (exact Ke_sR (wcO hi he))
  all_goals try (exact Ke_sI (wcA ‹_› (by decide) he))
  all_goals try (exact Ke_sL (wcA ‹_› (by decide) he))
  · refine Ke_sR (wcA ‹_› ?_ ?_)
    · simp only [Bool.and_eq_true] at he; exact Nat.le_of_ble_eq_true he.1
    · simp only [Bool.and_eq_true] at he; exact he.2
  · refine Ke_sI (wcA ‹_› (by decide) ?_)
    rename_i hb
    rw [hb] at he
    exact he
  · refine Ke_sI (wcA ‹_› (by decide) ?_)
    rename_i hb _
    rw [hb] at he
    exact he
  · rename_i hz
    unfold zcp at hz
    simp only [Bool.and_eq_true, beq_iff_eq] at hz
    exact Ke_sC (by simpa using he) hz.1.1.1.1.1.2
  · refine ⟨?_, Ke.refl _ _⟩
    rename_i hb _ _ _ _ _ _ _ _ _ _
    have hb : b = 0 := Nat.eq_of_beq_eq_true hb
    subst hb
    simpa using he
theorem zf_ke (n : Nat) : ∀ (d m i : Nat) (cl : List (Option Value)) (st : List Value) (σ : zS) (x : Option Value × zS), zf n d m i cl st σ = some x → Ke (eff m) σ x.2 := by
  induction n with
  | zero => intro d m i cl st σ x h; simp [zf] at h
  | succ n ih =>
    intro d m i cl st σ x h
    rw [zf_succ] at h
    split at h
    · simp at h
    · rename_i e he
      have hp := zstep_ke d m e cl st σ (okE_of he)
      match hz : zstep d m e cl st σ, hp, h with
      | some (.inl (i', cl', st', σ1)), hp, h => exact Ke.trans hp (ih _ _ _ _ _ _ _ h)
      | some (.inr (.inl (v, σ1))), hp, h => cases h; exact hp
      | some (.inr (.inr (m', args, nx, cl', st', σ1))), hp, h =>
        obtain ⟨g0, g1⟩ := hp
        have h : zbk (zmi m').1 (zfM n m' args σ1) (fun vs σ => zf n d m nx cl' (vs ++ st') σ) = some x := h
        obtain ⟨y, vs, h1, h2, h3, -⟩ := zbk_some h
        exact (g1.trans ((ih _ _ _ _ _ _ _ h1).mono g0)).trans (ih _ _ _ _ _ _ _ h3)
/-- a run writes no place but those that its method's effects name -/
theorem zM_ke {m : Nat} {args : List Value} {σ σ' : zS} {v : Option Value} (h : zM m args σ = some (v, σ')) : Ke (eff m) σ σ' := by
  obtain ⟨n, hn⟩ := zM_ex h
  exact zf_ke n _ _ _ _ _ _ _ hn
