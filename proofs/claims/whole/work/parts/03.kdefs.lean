/-! THE CLEAN MACHINE: typed memories, one instruction as a function of what comes behind it (zx), a run (zf), its value (zR, zM) -/
/-- kinds of the cells (tag, size), ints, longs, references: cell and place -/
abbrev zS : Type := List (Nat × Nat) × (Nat → Nat → Int32) × (Nat → Nat → Int64) × (Nat → Nat → Option Nat)
/-- byte place, instruction, next, three numbers, an int, a long -/
abbrev zI : Type := Nat × Instr × Nat × Nat × Nat × Nat × Int32 × Int64
abbrev zO : Type := Option (Option Value × zS)
def kd (σ : zS) (r : Nat) : Option (Nat × Nat) := σ.1[r]?
def gI (σ : zS) (r j : Nat) : Int32 := σ.2.1 r j
def gL (σ : zS) (r j : Nat) : Int64 := σ.2.2.1 r j
def gR (σ : zS) (r j : Nat) : Option Nat := σ.2.2.2 r j
def sI (σ : zS) (r j : Nat) (v : Int32) : zS := (σ.1, fun r' j' => if r' = r ∧ j' = j then v else σ.2.1 r' j', σ.2.2.1, σ.2.2.2)
def sL (σ : zS) (r j : Nat) (v : Int64) : zS := (σ.1, σ.2.1, fun r' j' => if r' = r ∧ j' = j then v else σ.2.2.1 r' j', σ.2.2.2)
def sR (σ : zS) (r j : Nat) (v : Option Nat) : zS := (σ.1, σ.2.1, σ.2.2.1, fun r' j' => if r' = r ∧ j' = j then v else σ.2.2.2 r' j')
/-- a new cell, its places 0 and null -/
def sN (σ : zS) (t n : Nat) : zS := (σ.1 ++ [(t, n)], fun r' j' => if r' = σ.1.length then 0 else σ.2.1 r' j', fun r' j' => if r' = σ.1.length then 0 else σ.2.2.1 r' j', fun r' j' => if r' = σ.1.length then none else σ.2.2.2 r' j')
/-- n ints of a from p on, to b from q on -/
def sC (σ : zS) (a p b q n : Nat) : zS := (σ.1, fun r' j' => if r' = b ∧ q ≤ j' ∧ j' < q + n then σ.2.1 a (p + (j' - q)) else σ.2.1 r' j', σ.2.2.1, σ.2.2.2)
def sz (σ : zS) : Nat := σ.1.length
/-- the places of an array's cell -/
def ln (σ : zS) (r : Nat) : Nat := match kd σ r with
  | some q => q.2
  | none => 0
def tg (σ : zS) (r : Nat) : Nat := match kd σ r with
  | some q => q.1
  | none => 0
abbrev ix (i : Int32) : Nat := i.toNatClampNeg
/-- an index is within an array of the kind t (its read-only kind u) -/
def ai (σ : zS) (t u : Nat) (r : Nat) (i : Int32) : Bool := (tg σ r == t || tg σ r == u) && decide (0 ≤ i.toInt) && decide (i.toInt < (ln σ r : Int))
def zld (cl : List (Option Value)) (i : Nat) : Option Value := match cl[i]? with
  | some (some v) => some v
  | _ => none
def zcat (v : Value) : Nat := match v with
  | .long _ => 2
  | .double _ => 2
  | _ => 1
def zcats : List Value → Nat
  | [] => 0
  | v :: l => zcat v + zcats l
/-- the local below i is forgotten where it is of two words -/
def zun (cl : List (Option Value)) (i : Nat) : List (Option Value) := match i with
  | 0 => cl
  | i + 1 => match zld cl i with
    | some v => bif Nat.beq (zcat v) 2 then cl.set i none else cl
    | none => cl
def zst1 (cl : List (Option Value)) (i : Nat) (v : Value) : List (Option Value) := (zun cl i).set i (some v)
def zst2 (cl : List (Option Value)) (i : Nat) (v : Value) : List (Option Value) := ((zun cl i).set i (some v)).set (i + 1) none
def zargs : List Value → List (Option Value)
  | [] => []
  | v :: l => bif Nat.beq (zcat v) 2 then some v :: none :: zargs l else some v :: zargs l
def zpad (n : Nat) (l : List (Option Value)) : List (Option Value) := l ++ List.replicate (n - l.length) none
section
variable {α : Type} (fl : α) (rt : Option Value → zS → α) (k : Nat → List (Option Value) → List Value → zS → α) (ca : Nat → List Value → Nat → List (Option Value) → List Value → zS → α)
def zeR (o : Option Nat) (f : Nat → α) : α := match o with
  | none => fl
  | some q => f q
def zeN (o : Option Nat) (g : α) (f : Nat → α) : α := match o with
  | none => g
  | some q => f q
def zsw (l : List (Int32 × Nat)) (x : Int32) (dflt : Nat) (f : Nat → α) : α := match l with
  | [] => f dflt
  | (v, t) :: l => if x = v then f t else zsw l x dflt f
end
/-- of a method: what it returns (0 nothing, 1 int, 2 long, 3 reference, 4 boolean, 5 char, 6 byte), how many arguments (the receiver among them), locals, tag of its class, rank, 1 where its rank goes by its second argument -/
abbrev zMI : Type := Nat × Nat × Nat × Nat × Nat × Nat
def zop (args : List Value) : Nat := match args with
  | _ :: .int x :: _ => ix x
  | _ => 0
def zrkI (i : zMI) (args : List Value) : Nat := bif Nat.beq i.2.2.2.2.2 1 then i.2.2.2.2.1 + 10 * (7 - zop args) else i.2.2.2.2.1
/-- an int that a boolean, char or byte keeps -/
def zfit (t : Nat) (x : Int32) : Bool := match t with
  | 4 => x == 0 || x == 1
  | 5 => decide (0 ≤ x.toInt) && decide (x.toInt < 65536)
  | 6 => x == 0
  | _ => true
/-- a copy of ints that is within both arrays -/
def zcp (σ : zS) (src : Nat) (sp : Int32) (dst : Nat) (dp n : Int32) : Bool := tg σ src == 32 && tg σ dst == 32 && decide (0 ≤ sp.toInt) && decide (0 ≤ dp.toInt) && decide (0 ≤ n.toInt) && decide (ix sp + ix n ≤ ln σ src) && decide (ix dp + ix n ≤ ln σ dst)
section
variable {α : Type} (mi : Nat → zMI) (sw : List (List (Int32 × Nat) × Nat)) (fl : α) (rt : Option Value → zS → α) (k : Nat → List (Option Value) → List Value → zS → α) (ca : Nat → List Value → Nat → List (Option Value) → List Value → zS → α)
/-- a call: of method a, of kind b (0 of an object, 1 static, 2 a constructor) -/
def zcal (d a b nx : Nat) (cl : List (Option Value)) (st : List Value) (σ : zS) : α :=
  bif Nat.ble (mi a).2.1 st.length then
    bif Nat.ble (zcats (st.drop (mi a).2.1)) 8 then
      bif Nat.blt (zrkI (mi a) (st.take (mi a).2.1).reverse) d then
       bif Nat.ble (zargs (st.take (mi a).2.1).reverse).length (mi a).2.2.1 then
        match b with
        | 1 => ca a (st.take (mi a).2.1).reverse nx cl (st.drop (mi a).2.1) σ
        | 0 => match (st.take (mi a).2.1).reverse with
          | .ref r :: as => if tg σ r = (mi a).2.2.2.1 then ca a (.ref r :: as) nx cl (st.drop (mi a).2.1) σ else fl
          | _ => fl
        | _ => match (st.take (mi a).2.1).reverse with
          | .ref r :: as => ca a (.ref r :: as) nx cl (st.drop (mi a).2.1) σ
          | _ => fl
       else fl
      else fl
    else fl
  else fl
def zret (t : Nat) (st : List Value) (σ : zS) : α := match st with
  | [.int x] => (match t with
    | 1 => rt (some (.int x)) σ
    | 4 => if zfit 4 x = true then rt (some (.int x)) σ else fl
    | 5 => if zfit 5 x = true then rt (some (.int x)) σ else fl
    | 6 => if zfit 6 x = true then rt (some (.int x)) σ else fl
    | _ => fl)
  | _ => fl
/-- one instruction of method m whose rank is d -/
def zx (d m : Nat) (e : zI) (cl : List (Option Value)) (st : List Value) (σ : zS) : α :=
  match e with
  | (_, ins, nx, a, b, _, cI, cL) => match ins with
  | .iconst _ => k nx cl (.int cI :: st) σ
  | .bipush _ => k nx cl (.int cI :: st) σ
  | .sipush _ => k nx cl (.int cI :: st) σ
  | .ldc _ => bif Nat.beq a 0 then k nx cl (.int cI :: st) σ else k nx cl (.ref 2 :: st) σ
  | .ldc_w _ => k nx cl (.int cI :: st) σ
  | .lconst _ => k nx cl (.long cL :: st) σ
  | .ldc2_w _ => k nx cl (.long cL :: st) σ
  | .iload i => (match zld cl i with
    | some (.int x) => k nx cl (.int x :: st) σ
    | _ => fl)
  | .iload_n i => (match zld cl i.val with
    | some (.int x) => k nx cl (.int x :: st) σ
    | _ => fl)
  | .lload i => (match zld cl i with
    | some (.long x) => k nx cl (.long x :: st) σ
    | _ => fl)
  | .lload_n i => (match zld cl i.val with
    | some (.long x) => k nx cl (.long x :: st) σ
    | _ => fl)
  | .aload i => (match zld cl i with
    | some (.ref x) => k nx cl (.ref x :: st) σ
    | some .null => k nx cl (.null :: st) σ
    | _ => fl)
  | .aload_n i => (match zld cl i.val with
    | some (.ref x) => k nx cl (.ref x :: st) σ
    | some .null => k nx cl (.null :: st) σ
    | _ => fl)
  | .istore i => (match st with
    | .int x :: st => bif Nat.blt i cl.length then k nx (zst1 cl i (.int x)) st σ else fl
    | _ => fl)
  | .istore_n i => (match st with
    | .int x :: st => bif Nat.blt i.val cl.length then k nx (zst1 cl i.val (.int x)) st σ else fl
    | _ => fl)
  | .lstore i => (match st with
    | .long x :: st => bif Nat.blt (i + 1) cl.length then k nx (zst2 cl i (.long x)) st σ else fl
    | _ => fl)
  | .lstore_n i => (match st with
    | .long x :: st => bif Nat.blt (i.val + 1) cl.length then k nx (zst2 cl i.val (.long x)) st σ else fl
    | _ => fl)
  | .astore i => (match st with
    | .ref x :: st => bif Nat.blt i cl.length then k nx (zst1 cl i (.ref x)) st σ else fl
    | _ => fl)
  | .astore_n i => (match st with
    | .ref x :: st => bif Nat.blt i.val cl.length then k nx (zst1 cl i.val (.ref x)) st σ else fl
    | _ => fl)
  | .iinc i _ => (match zld cl i with
    | some (.int x) => bif Nat.blt i cl.length then k nx (zst1 cl i (.int (x + cI))) st σ else fl
    | _ => fl)
  | .iadd => (match st with
    | .int y :: .int x :: st => k nx cl (.int (x + y) :: st) σ
    | _ => fl)
  | .isub => (match st with
    | .int y :: .int x :: st => k nx cl (.int (x - y) :: st) σ
    | _ => fl)
  | .imul => (match st with
    | .int y :: .int x :: st => k nx cl (.int (x * y) :: st) σ
    | _ => fl)
  | .iand => (match st with
    | .int y :: .int x :: st => k nx cl (.int (x &&& y) :: st) σ
    | _ => fl)
  | .ior => (match st with
    | .int y :: .int x :: st => k nx cl (.int (x ||| y) :: st) σ
    | _ => fl)
  | .ixor => (match st with
    | .int y :: .int x :: st => k nx cl (.int (x ^^^ y) :: st) σ
    | _ => fl)
  | .ishl => (match st with
    | .int y :: .int x :: st => k nx cl (.int (x <<< (y &&& 31)) :: st) σ
    | _ => fl)
  | .ishr => (match st with
    | .int y :: .int x :: st => k nx cl (.int (x >>> (y &&& 31)) :: st) σ
    | _ => fl)
  | .iushr => (match st with
    | .int y :: .int x :: st => k nx cl (.int ((x.toUInt32 >>> (y.toUInt32 &&& Int32.toUInt32 31)).toInt32) :: st) σ
    | _ => fl)
  | .idiv => (match st with
    | .int y :: .int x :: st => if y = 0 then fl else k nx cl (.int (x / y) :: st) σ
    | _ => fl)
  | .irem => (match st with
    | .int y :: .int x :: st => if y = 0 then fl else k nx cl (.int (x - x / y * y) :: st) σ
    | _ => fl)
  | .ladd => (match st with
    | .long y :: .long x :: st => k nx cl (.long (x + y) :: st) σ
    | _ => fl)
  | .lsub => (match st with
    | .long y :: .long x :: st => k nx cl (.long (x - y) :: st) σ
    | _ => fl)
  | .lmul => (match st with
    | .long y :: .long x :: st => k nx cl (.long (x * y) :: st) σ
    | _ => fl)
  | .lxor => (match st with
    | .long y :: .long x :: st => k nx cl (.long (x ^^^ y) :: st) σ
    | _ => fl)
  | .ldiv => (match st with
    | .long y :: .long x :: st => if y = 0 then fl else k nx cl (.long (x / y) :: st) σ
    | _ => fl)
  | .lrem => (match st with
    | .long y :: .long x :: st => if y = 0 then fl else k nx cl (.long (x - x / y * y) :: st) σ
    | _ => fl)
  | .lcmp => (match st with
    | .long y :: .long x :: st => k nx cl (.int (lg_cmp x y) :: st) σ
    | _ => fl)
  | .i2l => (match st with
    | .int x :: st => k nx cl (.long x.toInt64 :: st) σ
    | _ => fl)
  | .l2i => (match st with
    | .long x :: st => k nx cl (.int x.toInt32 :: st) σ
    | _ => fl)
  | .i2b => (match st with
    | .int x :: st => k nx cl (.int x.toInt8.toInt32 :: st) σ
    | _ => fl)
  | .i2c => (match st with
    | .int x :: st => k nx cl (.int (x.toUInt32 % 65536).toInt32 :: st) σ
    | _ => fl)
  | .dup => (match st with
    | .int x :: st => k nx cl (.int x :: .int x :: st) σ
    | .ref x :: st => k nx cl (.ref x :: .ref x :: st) σ
    | _ => fl)
  | .dup2 => (match st with
    | .int y :: .ref x :: st => k nx cl (.int y :: .ref x :: .int y :: .ref x :: st) σ
    | _ => fl)
  | .pop => (match st with
    | .int _ :: st => k nx cl st σ
    | _ => fl)
  | .goto _ => k a cl st σ
  | .ifCond c _ => (match st with
    | .int x :: st => (match c with
      | .eq => if x = 0 then k a cl st σ else k nx cl st σ
      | .ne => if x = 0 then k nx cl st σ else k a cl st σ
      | .lt => if x < 0 then k a cl st σ else k nx cl st σ
      | .ge => if 0 ≤ x then k a cl st σ else k nx cl st σ
      | .gt => if 0 < x then k a cl st σ else k nx cl st σ
      | .le => if x ≤ 0 then k a cl st σ else k nx cl st σ)
    | _ => fl)
  | .if_icmp c _ => (match st with
    | .int y :: .int x :: st => (match c with
      | .eq => if x = y then k a cl st σ else k nx cl st σ
      | .ne => if x = y then k nx cl st σ else k a cl st σ
      | .lt => if x < y then k a cl st σ else k nx cl st σ
      | .ge => if y ≤ x then k a cl st σ else k nx cl st σ
      | .gt => if y < x then k a cl st σ else k nx cl st σ
      | .le => if x ≤ y then k a cl st σ else k nx cl st σ)
    | _ => fl)
  | .ifnull _ => (match st with
    | .null :: st => k a cl st σ
    | .ref _ :: st => k nx cl st σ
    | _ => fl)
  | .tableswitch _ _ _ _ => (match st with
    | .int x :: st => zsw (sw.getD a ([], 0)).1 x (sw.getD a ([], 0)).2 (fun t => k t cl st σ)
    | _ => fl)
  | .lookupswitch _ _ => (match st with
    | .int x :: st => zsw (sw.getD a ([], 0)).1 x (sw.getD a ([], 0)).2 (fun t => k t cl st σ)
    | _ => fl)
  | .getfield _ => (match st with
    | .ref r :: st => if tg σ r = a / 1000 then (match a % 1000 with
      | 0 => k nx cl (.int (gI σ r b) :: st) σ
      | 1 => k nx cl (.long (gL σ r b) :: st) σ
      | _ => zeR fl (gR σ r b) (fun q => k nx cl (.ref q :: st) σ)) else fl
    | _ => fl)
  | .putfield _ => (match st with
    | .int v :: .ref r :: st => bif Nat.beq (a % 1000) 0 then if tg σ r = a / 1000 then k nx cl st (sI σ r b v) else fl else fl
    | .long v :: .ref r :: st => bif Nat.beq (a % 1000) 1 then if tg σ r = a / 1000 then k nx cl st (sL σ r b v) else fl else fl
    | .ref v :: .ref r :: st => bif Nat.beq (a % 1000) 2 then if tg σ r = a / 1000 then k nx cl st (sR σ r b (some v)) else fl else fl
    | _ => fl)
  | .getstatic _ => (match a with
    | 0 => k nx cl (.ref 1 :: st) σ
    | 1 => k nx cl (.int 1 :: st) σ
    | 2 => zeN (gR σ 4 0) (k nx cl (.null :: st) σ) (fun q => k nx cl (.ref q :: st) σ)
    | _ => fl)
  | .iaload => (match st with
    | .int i :: .ref r :: st => if ai σ 32 48 r i = true then k nx cl (.int (gI σ r (ix i)) :: st) σ else fl
    | _ => fl)
  | .baload => (match st with
    | .int i :: .ref r :: st => bif Nat.beq a 0 then if ai σ 33 49 r i = true then k nx cl (.int (gI σ r (ix i)) :: st) σ else fl else if ai σ 35 35 r i = true then k nx cl (.int (gI σ r (ix i)) :: st) σ else fl
    | _ => fl)
  | .caload => (match st with
    | .int i :: .ref r :: st => if ai σ 34 34 r i = true then k nx cl (.int (gI σ r (ix i)) :: st) σ else fl
    | _ => fl)
  | .laload => (match st with
    | .int i :: .ref r :: st => if ai σ 36 36 r i = true then k nx cl (.long (gL σ r (ix i)) :: st) σ else fl
    | _ => fl)
  | .aaload => (match st with
    | .int i :: .ref r :: st => if ai σ a a r i = true then (bif Nat.beq b 0 then zeR fl (gR σ r (ix i)) (fun q => k nx cl (.ref q :: st) σ) else zeN (gR σ r (ix i)) (k nx cl (.null :: st) σ) (fun q => k nx cl (.ref q :: st) σ)) else fl
    | _ => fl)
  | .iastore => (match st with
    | .int v :: .int i :: .ref r :: st => if ai σ 32 32 r i = true then k nx cl st (sI σ r (ix i) v) else fl
    | _ => fl)
  | .bastore => (match st with
    | .int v :: .int i :: .ref r :: st => bif Nat.beq a 0 then if ai σ 33 33 r i = true then k nx cl st (sI σ r (ix i) v.toInt8.toInt32) else fl else if ai σ 35 35 r i = true then if zfit 4 v = true then k nx cl st (sI σ r (ix i) v) else fl else fl
    | _ => fl)
  | .castore => (match st with
    | .int v :: .int i :: .ref r :: st => if ai σ 34 34 r i = true then if zfit 5 v = true then k nx cl st (sI σ r (ix i) v) else fl else fl
    | _ => fl)
  | .lastore => (match st with
    | .long v :: .int i :: .ref r :: st => if ai σ 36 36 r i = true then k nx cl st (sL σ r (ix i) v) else fl
    | _ => fl)
  | .aastore => (match st with
    | .ref v :: .int i :: .ref r :: st => if ai σ a a r i = true then if tg σ v = b then k nx cl st (sR σ r (ix i) (some v)) else fl else fl
    | _ => fl)
  | .arraylength => (match st with
    | .ref r :: st => if 32 ≤ tg σ r then k nx cl (.int (Int32.ofNat (ln σ r)) :: st) σ else fl
    | _ => fl)
  | .new _ => k nx cl (.ref (sz σ) :: st) (sN σ a b)
  | .newarray _ => (match st with
    | .int n :: st => if n < 0 then fl else if 10000 ≤ n then fl else k nx cl (.ref (sz σ) :: st) (sN σ a (ix n))
    | _ => fl)
  | .anewarray _ => (match st with
    | .int n :: st => if n < 0 then fl else if 10000 ≤ n then fl else k nx cl (.ref (sz σ) :: st) (sN σ a (ix n))
    | _ => fl)
  | .invokevirtual _ => bif Nat.beq b 0 then zcal mi fl ca d a 0 nx cl st σ else fl
  | .invokespecial _ => (match b with
    | 2 => zcal mi fl ca d a 2 nx cl st σ
    | 3 => (match st with
      | .ref _ :: st => bif Nat.ble (zcats st) 8 then k nx cl st σ else fl
      | _ => fl)
    | _ => fl)
  | .invokestatic _ => (match b with
    | 1 => zcal mi fl ca d a 1 nx cl st σ
    | 4 => (match st with
      | .int n :: .int dp :: .ref dst :: .int sp :: .ref src :: st => if zcp σ src sp dst dp n = true then (bif Nat.ble (zcats st) 8 then k nx cl st (sC σ src (ix sp) dst (ix dp) (ix n)) else fl) else fl
      | _ => fl)
    | _ => fl)
  | .ireturn => zret fl rt (mi m).1 st σ
  | .lreturn => (match st with
    | [.long x] => bif Nat.beq (mi m).1 2 then rt (some (.long x)) σ else fl
    | _ => fl)
  | .areturn => (match st with
    | [.ref x] => bif Nat.beq (mi m).1 3 then rt (some (.ref x)) σ else fl
    | _ => fl)
  | .return_ => (match st with
    | [] => bif Nat.beq (mi m).1 0 then rt none σ else fl
    | _ => fl)
  | _ => fl
end
