/-! what is checked of each instruction of the tables against the bytes and the links -/
def zbp (m i : Nat) : Option Nat := ((zL m)[i]?).map (fun e => e.1)
def zlen (ins : Instr) (c : Nat) : Nat := match ins with
  | .bipush _ => 2
  | .sipush _ => 3
  | .ldc _ => 2
  | .ldc_w _ => 3
  | .ldc2_w _ => 3
  | .iload _ => 2
  | .lload _ => 2
  | .aload _ => 2
  | .istore _ => 2
  | .lstore _ => 2
  | .astore _ => 2
  | .iinc _ _ => 3
  | .goto _ => 3
  | .ifCond _ _ => 3
  | .if_icmp _ _ => 3
  | .ifnull _ => 3
  | .getfield _ => 3
  | .putfield _ => 3
  | .getstatic _ => 3
  | .new _ => 3
  | .newarray _ => 2
  | .anewarray _ => 3
  | .invokevirtual _ => 3
  | .invokespecial _ => 3
  | .invokestatic _ => 3
  | .checkcast _ => 3
  | .tableswitch _ _ _ _ => c
  | .lookupswitch _ _ => c
  | _ => 1
def zjmp (m b t : Nat) (off : Int) : Bool := match zbp m t with
  | some q => decide ((b : Int) + off = (q : Int))
  | none => false
def zckT (m b : Nat) : List (Int32 × Nat) → List Int → Int → Bool
  | [], [], _ => true
  | (v, t) :: l, o :: os, lo => decide (v.toInt = lo) && zjmp m b t o && zckT m b l os (lo + 1)
  | _, _, _ => false
def zckP (m b : Nat) : List (Int32 × Nat) → List (Int × Int) → Bool
  | [], [] => true
  | (v, t) :: l, (w, o) :: os => decide (v.toInt = w) && zjmp m b t o && zckP m b l os
  | _, _ => false
def zatN (a : Nat) : Option ArrayType := match a with
  | 32 => some .int
  | 33 => some .byte
  | 34 => some .char
  | 35 => some .boolean
  | 36 => some .long
  | _ => none
def zoc (m : Nat) : Nat := (zY m).2.2.2.2.1
def zck (m : Nat) (e : zI) : Bool := match e with
  | (b, ins, nx, a, b1, c, cI, cL) =>
    decide (decode (zY m).2.1 b = .ok (ins, zlen ins c)) && (match ins with
    | .iconst n => decide (Int32.ofInt n = cI) && decide (zbp m nx = some (b + 1))
    | .bipush n => decide ((Int8.ofInt n).toInt32 = cI) && decide (zbp m nx = some (b + 2))
    | .sipush n => decide ((Int16.ofInt n).toInt32 = cI) && decide (zbp m nx = some (b + 3))
    | .ldc i => (bif Nat.beq a 0 then zCI.elem (zoc m, i, cI) else decide (zoc m = 10 ∧ i = 26)) && decide (zbp m nx = some (b + 2))
    | .ldc_w i => zCI.elem (zoc m, i, cI) && decide (zbp m nx = some (b + 3))
    | .lconst n => decide (Int64.ofNat n.val = cL) && decide (zbp m nx = some (b + 1))
    | .ldc2_w i => zCJ.elem (zoc m, i, cL) && decide (zbp m nx = some (b + 3))
    | .iinc _ n => decide (Int32.ofInt n = cI) && decide (zbp m nx = some (b + 3))
    | .goto o => zjmp m b a o
    | .ifCond _ o => zjmp m b a o && decide (zbp m nx = some (b + 3))
    | .if_icmp _ o => zjmp m b a o && decide (zbp m nx = some (b + 3))
    | .ifnull o => zjmp m b a o && decide (zbp m nx = some (b + 3))
    | .tableswitch d lo hi offs => zckT m b (zSW.getD a ([], 0)).1 offs.toList lo && zjmp m b (zSW.getD a ([], 0)).2 d && decide (hi = lo + (offs.size : Int) - 1)
    | .lookupswitch d ps => zckP m b (zSW.getD a ([], 0)).1 ps.toList && zjmp m b (zSW.getD a ([], 0)).2 d && (ps.toList.zip (ps.toList.drop 1)).all (fun (a, next) => a.1 < next.1)
    | .getfield i => decide (zFLT[c]? = some (zoc m, i, a / 1000, b1, a % 1000)) && decide (zbp m nx = some (b + 3))
    | .putfield i => decide (zFLT[c]? = some (zoc m, i, a / 1000, b1, a % 1000)) && decide (zbp m nx = some (b + 3)) && (!((vwCl.getD (a / 1000 - 1) ("", TX0, 0)).2.1 b1).2.2.2 || (decide ((zY m).2.2.2.2.2.1 = 2) && decide (zoc m + 1 = a / 1000)))
    | .getstatic i => decide (a = 9) || (zGS.elem (zoc m, i, a) && decide (a ≤ 2) && decide (zbp m nx = some (b + 3)))
    | .new i => decide (zCLT[c]? = some (zoc m, i, a)) && decide (1 ≤ a ∧ a ≤ 13 ∧ b1 = zNf a) && decide (zbp m nx = some (b + 3))
    | .newarray t => decide (zatN a = some t) && decide (zbp m nx = some (b + 2))
    | .anewarray i => decide (zCLT[c]? = some (zoc m, i, a)) && decide (a = 68 ∨ a = 73 ∨ a = 70 ∨ a = 69 ∨ a = 80) && decide (zbp m nx = some (b + 3))
    | .aastore => decide ((a = 68 ∧ b1 = 4) ∨ (a = 73 ∧ b1 = 9) ∨ (a = 70 ∧ b1 = 6) ∨ (a = 69 ∧ b1 = 5) ∨ (a = 80 ∧ b1 = 32)) && decide (zbp m nx = some (b + 1))
    | .aaload => decide (a = 68 ∨ a = 73 ∨ a = 70 ∨ a = 69 ∨ a = 80) && decide (zbp m nx = some (b + 1))
    | .invokevirtual i => decide (b1 = 9) || ((zMLT[c]? == some (zoc m, i, a, 0, 0) || zMLT[c]? == some (zoc m, i, a, 0, 1)) && zCal.elem a && decide ((zY a).2.2.2.2.2.1 = 0) && decide (zbp m nx = some (b + 3)))
    | .invokestatic i => decide (b1 = 9) || (bif Nat.beq b1 4 then decide (zMLT[c]? = some (zoc m, i, 998, 4, 0)) else (zMLT[c]? == some (zoc m, i, a, 1, 0) || zMLT[c]? == some (zoc m, i, a, 1, 1)) && zCal.elem a && decide ((zY a).2.2.2.2.2.1 = 1)) && decide (zbp m nx = some (b + 3))
    | .invokespecial i => decide (b1 = 9) || (bif Nat.beq b1 3 then decide (zMLT[c]? = some (zoc m, i, 999, 3, 0)) else (zMLT[c]? == some (zoc m, i, a, 2, 0) || zMLT[c]? == some (zoc m, i, a, 2, 1)) && zCal.elem a && decide ((zY a).2.2.2.2.2.1 = 2)) && decide (zbp m nx = some (b + 3))
    | .ireturn => true
    | .lreturn => true
    | .areturn => true
    | .return_ => true
    | .athrow => true
    | .checkcast _ => true
    | i => decide (zbp m nx = some (b + zlen i c)))
def zrt2 (r : Option FieldType) : Nat := match r with
  | none => 0
  | some .int => 1
  | some .long => 2
  | some .boolean => 4
  | some .char => 5
  | some .byte => 6
  | _ => 3
/-- a method's row of zMIL as its row of zYL has it -/
def zmok (m : Nat) : Bool := decide ((zmi m).1 = zrt2 (zY m).2.2.2.1) && decide ((zmi m).2.1 = (zY m).2.2.2.2.2.2 + (bif Nat.beq (zY m).2.2.2.2.2.1 1 then 0 else 1)) && decide ((zmi m).2.2.1 = (zY m).2.2.1) && decide (1 ≤ (zmi m).2.2.2.2.1) && decide ((zY m).2.2.1 ≤ 30) && (decide ((zY m).2.2.2.2.2.1 = 1) || decide ((zmi m).2.2.2.1 = bif Nat.beq (zoc m) 13 then 20 else zoc m + 1)) && (match (zY m).2.2.2.1 with
  | some (.float) => false
  | some (.double) => false
  | some (.short) => false
  | _ => true)
