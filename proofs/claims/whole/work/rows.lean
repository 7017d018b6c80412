section
/-! THE ABSTRACT MACHINE: values are numbers (Int) with a tag, or a cell (group, place); memory is a function -/
abbrev XS : Type := Int ⊕ (Int ⊕ (Int ⊕ (Int ⊕ (Nat × Nat))))
abbrev xi (x : Int) : XS := Sum.inl x
abbrev xl (x : Int) : XS := Sum.inr (Sum.inl x)
abbrev xf (x : Int) : XS := Sum.inr (Sum.inr (Sum.inl x))
abbrev xd (x : Int) : XS := Sum.inr (Sum.inr (Sum.inr (Sum.inl x)))
abbrev xr (g i : Nat) : XS := Sum.inr (Sum.inr (Sum.inr (Sum.inr (g, i))))
abbrev XM : Type := Nat → Nat → Nat → Int
abbrev XR : Type := Option (XS × XM)
/-- one cell's place is written -/
def xu (V : XM) (g i j : Nat) (x : Int) : XM := fun a b c => if a = g ∧ b = i ∧ c = j then x else V a b c
/-- a cell comes: n + 1 of them now, all its places 0 -/
def xz (V : XM) (g i n : Nat) : XM := fun a b c => if a = 0 ∧ b = 0 ∧ c = 0 then (n : Int) + 1 else if a = g ∧ b = i then 0 else V a b c
-- numbers
def w32 (x : Int) : Int := (x + 2147483648) % 4294967296 - 2147483648
def w64 (x : Int) : Int := (x + 9223372036854775808) % 18446744073709551616 - 9223372036854775808
def w8 (x : Int) : Int := (x + 128) % 256 - 128
def w16 (x : Int) : Int := (x + 32768) % 65536 - 32768
def c16 (x : Int) : Int := x % 65536
def iAnd (x y : Int) : Int := (Int32.ofInt x &&& Int32.ofInt y).toInt
def iOr (x y : Int) : Int := (Int32.ofInt x ||| Int32.ofInt y).toInt
def iXor (x y : Int) : Int := (Int32.ofInt x ^^^ Int32.ofInt y).toInt
def lAnd (x y : Int) : Int := (Int64.ofInt x &&& Int64.ofInt y).toInt
def lOr (x y : Int) : Int := (Int64.ofInt x ||| Int64.ofInt y).toInt
def lXor (x y : Int) : Int := (Int64.ofInt x ^^^ Int64.ofInt y).toInt
def lShl (x y : Int) : Int := w64 (x * 2 ^ (y % 64).toNat)
def lUshr (x y : Int) : Int := w64 ((x % 18446744073709551616) / 2 ^ (y % 64).toNat)
def cmp3 (x y : Int) : Int := if x < y then -1 else if x = y then 0 else 1
def fL2F (x : Int) : Int := ((FP.l2f (Int64.ofInt x)).toNat : Int)
def fL2D (x : Int) : Int := ((FP.l2d (Int64.ofInt x)).toNat : Int)
def fF2L (x : Int) : Int := (FP.f2l (UInt32.ofNat x.toNat)).toInt
def fD2L (x : Int) : Int := (FP.d2l (UInt64.ofNat x.toNat)).toInt
def fF2D (x : Int) : Int := ((FP.f2d (UInt32.ofNat x.toNat)).toNat : Int)
def fNum (x : Int) : Bool := decide (UInt64.ofNat x.toNat &&& 0x7fffffffffffffff ≤ 0x7ff0000000000000)
def fDcmp (op : CmpOp) (x y : Int) : Int := (Op.cmpValue (FP.dcmp (UInt64.ofNat x.toNat) (UInt64.ofNat y.toNat)) op).toInt
-- locals
def xget : List XS → Nat → XS
  | [], _ => xr 0 0
  | v :: _, 0 => v
  | _ :: l, k + 1 => xget l k
def xset : List XS → Nat → XS → List XS
  | [], _, _ => []
  | _ :: l, 0, v => v :: l
  | a :: l, k + 1, v => a :: xset l k v
def xkl (ls : List XS) : Nat → List XS
  | 0 => ls
  | k + 1 => match xget ls k with
    | .inr (.inl _) => xset ls k (xr 0 0)
    | .inr (.inr (.inr (.inl _))) => xset ls k (xr 0 0)
    | _ => ls
def xst1 (ls : List XS) (i : Nat) (v : XS) : List XS := xset (xkl ls i) i v
def xst2 (ls : List XS) (i : Nat) (v : XS) : List XS := xset (xset (xkl ls i) i v) (i + 1) (xr 0 0)
def xmask : List Bool → List XS → List XS
  | true :: b, v :: l => v :: xmask b l
  | false :: b, _ :: l => xr 0 0 :: xmask b l
  | _, _ => []
def xpad : Nat → List XS → List XS
  | 0, _ => []
  | n + 1, [] => xr 0 0 :: xpad n []
  | n + 1, v :: l => v :: xpad n l
def xsl : List XS → List XS
  | [] => []
  | .inr (.inl x) :: l => xl x :: xr 0 0 :: xsl l
  | .inr (.inr (.inr (.inl x))) :: l => xd x :: xr 0 0 :: xsl l
  | v :: l => v :: xsl l
def xcat : XS → Nat
  | .inr (.inl _) => 2
  | .inr (.inr (.inr (.inl _))) => 2
  | _ => 1
def xsum : List XS → Nat
  | [] => 0
  | v :: l => xcat v + xsum l
def xtk : Nat → List XS → List XS
  | 0, _ => []
  | _ + 1, [] => []
  | n + 1, v :: l => v :: xtk n l
def xdp : Nat → List XS → List XS
  | 0, l => l
  | _ + 1, [] => []
  | n + 1, _ :: l => xdp n l
def xrv : List XS → List XS → List XS
  | [], a => a
  | v :: l, a => xrv l (v :: a)
/-- what follows a call, by what comes back -/
def ci (x : XR) (k : Int → XM → XR) : XR := match x with
  | some (.inl v, V) => k v V
  | _ => none
def cl (x : XR) (k : Int → XM → XR) : XR := match x with
  | some (.inr (.inl v), V) => k v V
  | _ => none
def cr (x : XR) (k : Nat → Nat → XM → XR) : XR := match x with
  | some (.inr (.inr (.inr (.inr (g, i)))), V) => k g i V
  | _ => none
def cv (x : XR) (k : XM → XR) : XR := match x with
  | some (_, V) => k V
  | _ => none
/-- an entry: pc, instruction, length, number, three places, targets -/
abbrev XE : Type := Nat × Instr × Nat × Int × Nat × Nat × Nat × List Nat
abbrev e0 (pc : Nat) (i : Instr) (len : Nat) : XE := (pc, i, len, 0, 0, 0, 0, [])
abbrev e1 (pc : Nat) (i : Instr) (len r : Nat) : XE := (pc, i, len, 0, r, 0, 0, [])
abbrev ec (pc : Nat) (i : Instr) (len : Nat) (c : Int) : XE := (pc, i, len, c, 0, 0, 0, [])
abbrev e3 (pc : Nat) (i : Instr) (len r1 r2 r3 : Nat) : XE := (pc, i, len, 0, r1, r2, r3, [])
abbrev es (pc : Nat) (i : Instr) (len : Nat) (c : Int) (r1 : Nat) (t : List Nat) : XE := (pc, i, len, c, r1, 0, 0, t)
abbrev ek (pc : Nat) (i : Instr) (len : Nat) (c : Int) (r1 : Nat) : XE := (pc, i, len, c, r1, 0, 0, [])
/-- the world's shape: kind of a group's cells (0 an object, 1 int[], 2 long[], 3 boolean[], 4 double[], 5 Shelf[], 6 Table[], 7 the script, 9 nothing), class or length, what a place of references holds, the cells in the order in which they come -/
abbrev XW : Type := (Nat → Nat) × (Nat → Int) × (Nat → Nat → Nat → Nat × Nat) × (Nat → Nat × Nat) × Nat
def xsw (x lo : Int) (d : Nat) (F : Nat → XR) : List Nat → XR
  | [] => F d
  | t :: l => if x = lo then F t else xsw x (lo + 1) d F l
def xload (w : XW) (g i : Nat) (k : Nat) (j : Int) (K : Int → XR) (V : XM) : XR := if w.1 g = k then (if 0 ≤ j ∧ j < w.2.1 g then K (V g i j.toNat) else none) else none
def xnew (w : XW) (V : XM) (k : Nat) (c : Int) (K : Nat → Nat → XM → XR) : XR :=
  if (V 0 0 0).toNat < w.2.2.2.2 then
    (if w.1 (w.2.2.2.1 (V 0 0 0).toNat).1 = k then
      (if w.2.1 (w.2.2.2.1 (V 0 0 0).toNat).1 = c then K (w.2.2.2.1 (V 0 0 0).toNat).1 (w.2.2.2.1 (V 0 0 0).toNat).2 (xz V (w.2.2.2.1 (V 0 0 0).toNat).1 (w.2.2.2.1 (V 0 0 0).toNat).2 (V 0 0 0).toNat) else none) else none) else none
/-- one instruction: F goes to another place of the method, C calls, K goes on behind it; md: while the world is being made -/
def xone (w : XW) (md : Bool) (F : Nat → List XS → List XS → XM → XR) (C : Nat → List XS → XM → XR) (K : List XS → List XS → XM → XR) (e : XE) (ls st : List XS) (V : XM) : XR :=
  match e with
  | (_, ins, _, c, r1, r2, r3, tg) =>
    match ins with
    | .iload _ | .iload_n _ => (match xget ls r1 with | .inl x => K ls (xi x :: st) V | _ => none)
    | .lload _ | .lload_n _ => (match xget ls r1 with | .inr (.inl x) => K ls (xl x :: st) V | _ => none)
    | .aload _ | .aload_n _ => (match xget ls r1 with | .inr (.inr (.inr (.inr (g, i)))) => (if g = 0 then none else K ls (xr g i :: st) V) | _ => none)
    | .istore _ | .istore_n _ => (match st with | .inl x :: st => K (xst1 ls r1 (xi x)) st V | _ => none)
    | .lstore _ | .lstore_n _ => (match st with | .inr (.inl x) :: st => K (xst2 ls r1 (xl x)) st V | _ => none)
    | .astore _ | .astore_n _ => (match st with | .inr (.inr (.inr (.inr (g, i)))) :: st => K (xst1 ls r1 (xr g i)) st V | _ => none)
    | .iinc _ _ => (match xget ls r1 with | .inl x => K (xst1 ls r1 (xi (w32 (x + c)))) st V | _ => none)
    | .iconst _ | .bipush _ | .sipush _ => K ls (xi c :: st) V
    | .lconst _ | .ldc2_w _ => K ls (xl c :: st) V
    | .dconst _ => K ls (xd c :: st) V
    | .dup => (match st with | .inl x :: st => K ls (xi x :: xi x :: st) V | .inr (.inr (.inr (.inr (g, i)))) :: st => K ls (xr g i :: xr g i :: st) V | _ => none)
    | .dup2 => (match st with | .inl y :: .inr (.inr (.inr (.inr (g, i)))) :: st => K ls (xi y :: xr g i :: xi y :: xr g i :: st) V | _ => none)
    | .dup_x1 => (match st with | .inl y :: .inr (.inr (.inr (.inr (g, i)))) :: st => K ls (xi y :: xr g i :: xi y :: st) V | _ => none)
    | .pop => (match st with | .inl _ :: st => K ls st V | _ => none)
    | .iadd => (match st with | .inl y :: .inl x :: st => K ls (xi (w32 (x + y)) :: st) V | _ => none)
    | .isub => (match st with | .inl y :: .inl x :: st => K ls (xi (w32 (x - y)) :: st) V | _ => none)
    | .imul => (match st with | .inl y :: .inl x :: st => K ls (xi (w32 (x * y)) :: st) V | _ => none)
    | .idiv => (match st with | .inl y :: .inl x :: st => (if y = 0 then none else K ls (xi (w32 (Int.tdiv x y)) :: st) V) | _ => none)
    | .irem => (match st with | .inl y :: .inl x :: st => (if y = 0 then none else K ls (xi (Int.tmod x y) :: st) V) | _ => none)
    | .ineg => (match st with | .inl x :: st => K ls (xi (w32 (-x)) :: st) V | _ => none)
    | .iand => (match st with | .inl y :: .inl x :: st => K ls (xi (iAnd x y) :: st) V | _ => none)
    | .ior => (match st with | .inl y :: .inl x :: st => K ls (xi (iOr x y) :: st) V | _ => none)
    | .ixor => (match st with | .inl y :: .inl x :: st => K ls (xi (iXor x y) :: st) V | _ => none)
    | .ladd => (match st with | .inr (.inl y) :: .inr (.inl x) :: st => K ls (xl (w64 (x + y)) :: st) V | _ => none)
    | .lsub => (match st with | .inr (.inl y) :: .inr (.inl x) :: st => K ls (xl (w64 (x - y)) :: st) V | _ => none)
    | .lmul => (match st with | .inr (.inl y) :: .inr (.inl x) :: st => K ls (xl (w64 (x * y)) :: st) V | _ => none)
    | .ldiv => (match st with | .inr (.inl y) :: .inr (.inl x) :: st => (if y = 0 then none else K ls (xl (w64 (Int.tdiv x y)) :: st) V) | _ => none)
    | .land => (match st with | .inr (.inl y) :: .inr (.inl x) :: st => K ls (xl (lAnd x y) :: st) V | _ => none)
    | .lor => (match st with | .inr (.inl y) :: .inr (.inl x) :: st => K ls (xl (lOr x y) :: st) V | _ => none)
    | .lxor => (match st with | .inr (.inl y) :: .inr (.inl x) :: st => K ls (xl (lXor x y) :: st) V | _ => none)
    | .lshl => (match st with | .inl y :: .inr (.inl x) :: st => K ls (xl (lShl x y) :: st) V | _ => none)
    | .lushr => (match st with | .inl y :: .inr (.inl x) :: st => K ls (xl (lUshr x y) :: st) V | _ => none)
    | .lcmp => (match st with | .inr (.inl y) :: .inr (.inl x) :: st => K ls (xi (cmp3 x y) :: st) V | _ => none)
    | .i2l => (match st with | .inl x :: st => K ls (xl x :: st) V | _ => none)
    | .l2i => (match st with | .inr (.inl x) :: st => K ls (xi (w32 x) :: st) V | _ => none)
    | .i2b => (match st with | .inl x :: st => K ls (xi (w8 x) :: st) V | _ => none)
    | .i2s => (match st with | .inl x :: st => K ls (xi (w16 x) :: st) V | _ => none)
    | .i2c => (match st with | .inl x :: st => K ls (xi (c16 x) :: st) V | _ => none)
    | .l2f => (match st with | .inr (.inl x) :: st => K ls (xf (fL2F x) :: st) V | _ => none)
    | .l2d => (match st with | .inr (.inl x) :: st => K ls (xd (fL2D x) :: st) V | _ => none)
    | .f2l => (match st with | .inr (.inr (.inl x)) :: st => K ls (xl (fF2L x) :: st) V | _ => none)
    | .d2l => (match st with | .inr (.inr (.inr (.inl x))) :: st => K ls (xl (fD2L x) :: st) V | _ => none)
    | .f2d => (match st with | .inr (.inr (.inl x)) :: st => (if fNum (fF2D x) = true then K ls (xd (fF2D x) :: st) V else none) | _ => none)
    | .dcmp op => (match st with | .inr (.inr (.inr (.inl y))) :: .inr (.inr (.inr (.inl x))) :: st => K ls (xi (fDcmp op x y) :: st) V | _ => none)
    | .getfield _ => (match st with
      | .inr (.inr (.inr (.inr (g, i)))) :: st => (if w.1 g = 0 then (if w.2.1 g = (r1 : Int) then (match r3 with
        | 0 => K ls (xi (V g i r2) :: st) V
        | _ => (if md = true then (if V g i r2 = 1 then K ls (xr (w.2.2.1 g i r2).1 (w.2.2.1 g i r2).2 :: st) V else none) else K ls (xr (w.2.2.1 g i r2).1 (w.2.2.1 g i r2).2 :: st) V)) else none) else none)
      | _ => none)
    | .putfield _ => (match r3 with
      | 0 => (match st with
        | .inl x :: .inr (.inr (.inr (.inr (g, i)))) :: st => (if w.1 g = 0 then (if w.2.1 g = (r1 : Int) then K ls st (xu V g i r2 x) else none) else none)
        | _ => none)
      | _ => (match st with
        | .inr (.inr (.inr (.inr (a, b)))) :: .inr (.inr (.inr (.inr (g, i)))) :: st => (if w.1 g = 0 then (if w.2.1 g = (r1 : Int) then (if md = true then (if w.2.2.1 g i r2 = (a, b) ∧ a ≠ 0 then K ls st (xu V g i r2 1) else none) else none) else none) else none)
        | _ => none))
    | .iaload => (match st with
      | .inl j :: .inr (.inr (.inr (.inr (g, i)))) :: st => (if w.1 g = 7 then (if 0 ≤ j ∧ j < V 1 1 0 then K ls (xi (V 1 0 j.toNat) :: st) V else none) else xload w g i 1 j (fun x => K ls (xi x :: st) V) V)
      | _ => none)
    | .baload => (match st with | .inl j :: .inr (.inr (.inr (.inr (g, i)))) :: st => xload w g i 3 j (fun x => K ls (xi x :: st) V) V | _ => none)
    | .laload => (match st with | .inl j :: .inr (.inr (.inr (.inr (g, i)))) :: st => xload w g i 2 j (fun x => K ls (xl x :: st) V) V | _ => none)
    | .daload => (match st with | .inl j :: .inr (.inr (.inr (.inr (g, i)))) :: st => xload w g i 4 j (fun x => K ls (xd x :: st) V) V | _ => none)
    | .aaload => (match st with
      | .inl j :: .inr (.inr (.inr (.inr (g, i)))) :: st => xload w g i r1 j (fun x => (if md = true then (if x = 1 then K ls (xr (w.2.2.1 g i j.toNat).1 (w.2.2.1 g i j.toNat).2 :: st) V else none) else K ls (xr (w.2.2.1 g i j.toNat).1 (w.2.2.1 g i j.toNat).2 :: st) V)) V
      | _ => none)
    | .iastore => (match st with | .inl x :: .inl j :: .inr (.inr (.inr (.inr (g, i)))) :: st => xload w g i 1 j (fun _ => K ls st (xu V g i j.toNat x)) V | _ => none)
    | .bastore => (match st with | .inl x :: .inl j :: .inr (.inr (.inr (.inr (g, i)))) :: st => xload w g i 3 j (fun _ => K ls st (xu V g i j.toNat (x % 2))) V | _ => none)
    | .lastore => (match st with | .inr (.inl x) :: .inl j :: .inr (.inr (.inr (.inr (g, i)))) :: st => xload w g i 2 j (fun _ => K ls st (xu V g i j.toNat x)) V | _ => none)
    | .dastore => (match st with | .inr (.inr (.inr (.inl x))) :: .inl j :: .inr (.inr (.inr (.inr (g, i)))) :: st => xload w g i 4 j (fun _ => K ls st (xu V g i j.toNat x)) V | _ => none)
    | .aastore => (match st with
      | .inr (.inr (.inr (.inr (a, b)))) :: .inl j :: .inr (.inr (.inr (.inr (g, i)))) :: st => xload w g i r1 j (fun _ => (if md = true then (if w.2.2.1 g i j.toNat = (a, b) ∧ w.1 a = 0 ∧ w.2.1 a = c then K ls st (xu V g i j.toNat 1) else none) else none)) V
      | _ => none)
    | .arraylength => (match st with | .inr (.inr (.inr (.inr (g, _)))) :: st => (if w.1 g = 7 then K ls (xi (V 1 1 0) :: st) V else none) | _ => none)
    | .new _ => (if md = true then xnew w V 0 (r1 : Int) (fun g i V => K ls (xr g i :: st) V) else none)
    | .newarray _ => (match st with | .inl x :: st => (if md = true then xnew w V r1 x (fun g i V => K ls (xr g i :: st) V) else none) | _ => none)
    | .anewarray _ => (match st with | .inl x :: st => (if md = true then xnew w V r1 x (fun g i V => K ls (xr g i :: st) V) else none) | _ => none)
    | .invokevirtual _ | .invokespecial _ | .invokestatic _ =>
      (if xsum (xdp r2 st) ≤ 8 then (match r3 with
        | 0 => ci (C r1 (xrv (xtk r2 st) []) V) (fun x V => K ls (xi x :: xdp r2 st) V)
        | 1 => cl (C r1 (xrv (xtk r2 st) []) V) (fun x V => K ls (xl x :: xdp r2 st) V)
        | 2 => cr (C r1 (xrv (xtk r2 st) []) V) (fun g i V => K ls (xr g i :: xdp r2 st) V)
        | 3 => cv (C r1 (xrv (xtk r2 st) []) V) (fun V => K ls (xdp r2 st) V)
        | _ => (match st with | .inr (.inr (.inr (.inr (g, _)))) :: st => (if g = 0 then none else K ls st V) | _ => none)) else none)
    | .ireturn => (match st with | [.inl x] => (match r1 with | 0 => some (xi x, V) | _ => (if x = 0 ∨ x = 1 then some (xi x, V) else none)) | _ => none)
    | .lreturn => (match st with | [.inr (.inl x)] => some (xl x, V) | _ => none)
    | .areturn => (match st with | [.inr (.inr (.inr (.inr (g, i))))] => (if g = 0 then none else some (xr g i, V)) | _ => none)
    | .return_ => (match st with | [] => some (xi 0, V) | _ => none)
    | .goto _ => F r1 ls st V
    | .ifCond .eq _ => (match st with | .inl x :: st => (if x = 0 then F r1 ls st V else K ls st V) | _ => none)
    | .ifCond .ne _ => (match st with | .inl x :: st => (if x = 0 then K ls st V else F r1 ls st V) | _ => none)
    | .ifCond .lt _ => (match st with | .inl x :: st => (if x < 0 then F r1 ls st V else K ls st V) | _ => none)
    | .ifCond .ge _ => (match st with | .inl x :: st => (if x < 0 then K ls st V else F r1 ls st V) | _ => none)
    | .ifCond .gt _ => (match st with | .inl x :: st => (if 0 < x then F r1 ls st V else K ls st V) | _ => none)
    | .ifCond .le _ => (match st with | .inl x :: st => (if 0 < x then K ls st V else F r1 ls st V) | _ => none)
    | .if_icmp .eq _ => (match st with | .inl y :: .inl x :: st => (if x = y then F r1 ls st V else K ls st V) | _ => none)
    | .if_icmp .ne _ => (match st with | .inl y :: .inl x :: st => (if x = y then K ls st V else F r1 ls st V) | _ => none)
    | .if_icmp .lt _ => (match st with | .inl y :: .inl x :: st => (if x < y then F r1 ls st V else K ls st V) | _ => none)
    | .if_icmp .ge _ => (match st with | .inl y :: .inl x :: st => (if x < y then K ls st V else F r1 ls st V) | _ => none)
    | .if_icmp .gt _ => (match st with | .inl y :: .inl x :: st => (if y < x then F r1 ls st V else K ls st V) | _ => none)
    | .if_icmp .le _ => (match st with | .inl y :: .inl x :: st => (if y < x then K ls st V else F r1 ls st V) | _ => none)
    | .tableswitch _ _ _ _ => (match st with | .inl x :: st => xsw x c r1 (fun t => F t ls st V) tg | _ => none)
    | _ => none
/-- a block: where it begins, which locals live there, its entries, where it falls through to -/
abbrev XB : Type := Nat × List Bool × List XE × Nat
def xrun (w : XW) (md : Bool) (F : Nat → List XS → List XS → XM → XR) (C : Nat → List XS → XM → XR) (nx : Nat) : List XE → List XS → List XS → XM → XR
  | [], ls, st, V => F nx ls st V
  | e :: l, ls, st, V => xone w md F C (xrun w md F C nx l) e ls st V
def xblk : List XB → Nat → Option XB
  | [], _ => none
  | b :: l, pc => if b.1 = pc then some b else xblk l pc
def xmk (B : List XB) (t : Nat) (ls : List XS) : List XS := match xblk B t with
  | some b => xmask b.2.1 ls
  | none => ls
def xmac (w : XW) (md : Bool) (B : List XB) (F : Nat → List XS → List XS → XM → XR) (C : Nat → List XS → XM → XR) (pc : Nat) (ls st : List XS) (V : XM) : XR := match xblk B pc with
  | some b => xrun w md (fun t ls st V => F t (xmk B t ls) st V) C b.2.2.2 b.2.2.1 ls st V
  | none => none
end
section
/-! the runs of the abstract machine: with fuel, then without -/
/-- one call deeper -/
def xdn (g : Nat → Nat → List XS → XM → XR) : Nat → Nat → List XS → XM → XR
  | 0, _, _, _ => none
  | d + 1, m, as, V => g d m as V
def xex (w : XW) (P : Nat → List XB) (ml : Nat → Nat) (md : Bool) : Nat → Nat → Nat → Nat → List XS → List XS → XM → XR
  | 0, _, _, _, _, _, _ => none
  | f + 1, d, m, pc, ls, st, V => xmac w md (P m) (fun pc ls st V => xex w P ml md f d m pc ls st V) (xdn (fun d m as V => xex w P ml md f d m 0 (xpad (ml m) (xsl as)) [] V) d) pc ls st V
/-- from some fuel on -/
def xev (p : Nat → Prop) : Prop := ∃ f0 : Nat, ∀ f : Nat, f0 ≤ f → p f
theorem xev_of {p : Nat → Prop} (h : ∀ f, p f) : xev p := ⟨0, fun f _ => h f⟩
theorem ci_some {x : XR} {k : Int → XM → XR} {r : XS × XM} (h : ci x k = some r) : ∃ v V, x = some (xi v, V) ∧ k v V = some r := by
  match x, h with
  | some (.inl v, V), h => exact ⟨v, V, rfl, h⟩
theorem cl_some {x : XR} {k : Int → XM → XR} {r : XS × XM} (h : cl x k = some r) : ∃ v V, x = some (xl v, V) ∧ k v V = some r := by
  match x, h with
  | some (.inr (.inl v), V), h => exact ⟨v, V, rfl, h⟩
theorem cr_some {x : XR} {k : Nat → Nat → XM → XR} {r : XS × XM} (h : cr x k = some r) : ∃ g i V, x = some (xr g i, V) ∧ k g i V = some r := by
  match x, h with
  | some (.inr (.inr (.inr (.inr (g, i)))), V), h => exact ⟨g, i, V, rfl, h⟩
theorem cv_some {x : XR} {k : XM → XR} {r : XS × XM} (h : cv x k = some r) : ∃ v V, x = some (v, V) ∧ k V = some r := by
  match x, h with
  | some (v, V), h => exact ⟨v, V, rfl, h⟩
section
variable {w : XW} {md : Bool} {F : Nat → List XS → List XS → XM → XR} {C : Nat → List XS → XM → XR} {K : List XS → List XS → XM → XR}
  {F' : Nat → Nat → List XS → List XS → XM → XR} {C' : Nat → Nat → List XS → XM → XR} {K' : Nat → List XS → List XS → XM → XR}
theorem xsw_ev {x : Int} {d : Nat} {G : Nat → XR} {G' : Nat → Nat → XR} (hG : ∀ t r, G t = some r → xev fun f => G' f t = some r) {r : XS × XM} : ∀ (l : List Nat) (lo : Int), xsw x lo d G l = some r → xev fun f => xsw x lo d (G' f) l = some r := by
  intro l
  induction l with
  | nil => intro lo h; exact hG d r h
  | cons t l ih =>
    intro lo h
    simp only [xsw] at h ⊢
    split at h
    · rename_i hc
      simp only [hc, if_true]
      exact hG t r h
    · rename_i hc
      simp only [hc, if_false]
      exact ih _ h
theorem xload_ev {g i k : Nat} {j : Int} {V : XM} {G : Int → XR} {G' : Nat → Int → XR} (hG : ∀ x r, G x = some r → xev fun f => G' f x = some r) {r : XS × XM} (h : xload w g i k j G V = some r) : xev fun f => xload w g i k j (G' f) V = some r := by
  unfold xload at h ⊢
  split at h
  · rename_i h1
    split at h
    · rename_i h2
      simp only [h1, h2, and_self, if_true]
      exact hG _ r h
    · cases h
  · cases h
theorem xnew_ev {k : Nat} {c : Int} {V : XM} {G : Nat → Nat → XM → XR} {G' : Nat → Nat → Nat → XM → XR} (hG : ∀ g i V r, G g i V = some r → xev fun f => G' f g i V = some r) {r : XS × XM} (h : xnew w V k c G = some r) : xev fun f => xnew w V k c (G' f) = some r := by
  unfold xnew at h ⊢
  split at h
  · rename_i h1
    split at h
    · rename_i h2
      split at h
      · rename_i h3
        simp only [h1, h2, h3, if_true]
        exact hG _ _ _ r h
      · cases h
    · cases h
  · cases h
theorem ci_ev {x : XR} {x' : Nat → XR} {k : Int → XM → XR} {k' : Nat → Int → XM → XR} (hx : ∀ r, x = some r → xev fun f => x' f = some r) (hk : ∀ v V r, k v V = some r → xev fun f => k' f v V = some r) {r : XS × XM} (h : ci x k = some r) : xev fun f => ci (x' f) (k' f) = some r := by
  obtain ⟨v, V, h1, h2⟩ := ci_some h
  obtain ⟨f1, a1⟩ := hx _ h1
  obtain ⟨f2, a2⟩ := hk _ _ _ h2
  refine ⟨max f1 f2, fun f hf => ?_⟩
  show ci (x' f) (k' f) = some r
  rw [show x' f = _ from a1 f (by omega)]
  exact a2 f (by omega)
theorem cl_ev {x : XR} {x' : Nat → XR} {k : Int → XM → XR} {k' : Nat → Int → XM → XR} (hx : ∀ r, x = some r → xev fun f => x' f = some r) (hk : ∀ v V r, k v V = some r → xev fun f => k' f v V = some r) {r : XS × XM} (h : cl x k = some r) : xev fun f => cl (x' f) (k' f) = some r := by
  obtain ⟨v, V, h1, h2⟩ := cl_some h
  obtain ⟨f1, a1⟩ := hx _ h1
  obtain ⟨f2, a2⟩ := hk _ _ _ h2
  refine ⟨max f1 f2, fun f hf => ?_⟩
  show cl (x' f) (k' f) = some r
  rw [show x' f = _ from a1 f (by omega)]
  exact a2 f (by omega)
theorem cr_ev {x : XR} {x' : Nat → XR} {k : Nat → Nat → XM → XR} {k' : Nat → Nat → Nat → XM → XR} (hx : ∀ r, x = some r → xev fun f => x' f = some r) (hk : ∀ g i V r, k g i V = some r → xev fun f => k' f g i V = some r) {r : XS × XM} (h : cr x k = some r) : xev fun f => cr (x' f) (k' f) = some r := by
  obtain ⟨g, i, V, h1, h2⟩ := cr_some h
  obtain ⟨f1, a1⟩ := hx _ h1
  obtain ⟨f2, a2⟩ := hk _ _ _ _ h2
  refine ⟨max f1 f2, fun f hf => ?_⟩
  show cr (x' f) (k' f) = some r
  rw [show x' f = _ from a1 f (by omega)]
  exact a2 f (by omega)
theorem cv_ev {x : XR} {x' : Nat → XR} {k : XM → XR} {k' : Nat → XM → XR} (hx : ∀ r, x = some r → xev fun f => x' f = some r) (hk : ∀ V r, k V = some r → xev fun f => k' f V = some r) {r : XS × XM} (h : cv x k = some r) : xev fun f => cv (x' f) (k' f) = some r := by
  obtain ⟨v, V, h1, h2⟩ := cv_some h
  obtain ⟨f1, a1⟩ := hx _ h1
  obtain ⟨f2, a2⟩ := hk _ _ h2
  refine ⟨max f1 f2, fun f hf => ?_⟩
  show cv (x' f) (k' f) = some r
  rw [show x' f = _ from a1 f (by omega)]
  exact a2 f (by omega)
end
end
section
section
variable {w : XW} {md : Bool} {F : Nat → List XS → List XS → XM → XR} {C : Nat → List XS → XM → XR} {K : List XS → List XS → XM → XR}
  {F' : Nat → Nat → List XS → List XS → XM → XR} {C' : Nat → Nat → List XS → XM → XR} {K' : Nat → List XS → List XS → XM → XR}
set_option maxHeartbeats 4000000 in
theorem xone_ev (hF : ∀ t ls st V r, F t ls st V = some r → xev fun f => F' f t ls st V = some r) (hC : ∀ m as V r, C m as V = some r → xev fun f => C' f m as V = some r) (hK : ∀ ls st V r, K ls st V = some r → xev fun f => K' f ls st V = some r)
    {e : XE} {ls st : List XS} {V : XM} {r : XS × XM} (h : xone w md F C K e ls st V = some r) : xev fun f => xone w md (F' f) (C' f) (K' f) e ls st V = some r := by
  obtain ⟨pc, ins, len, c, r1, r2, r3, tg⟩ := e
  cases ins
  case ifCond cnd off => cases cnd <;> (simp only [xone] at h ⊢; (split at h <;> (try (rename_i hc; simp only [hc, if_true, if_false])))) <;> (first | (cases h; done) | exact hK _ _ _ _ h | exact hF _ _ _ _ _ h | exact xev_of (fun _ => h) | exact xsw_ev (fun t r h => hF _ _ _ _ _ h) _ _ h | exact xload_ev (fun x r h => hK _ _ _ _ h) h | exact xnew_ev (fun g i V r h => hK _ _ _ _ h) h | exact ci_ev (hC _ _ _) (fun v V r h => hK _ _ _ _ h) h | exact cl_ev (hC _ _ _) (fun v V r h => hK _ _ _ _ h) h | exact cr_ev (hC _ _ _) (fun g i V r h => hK _ _ _ _ h) h | exact cv_ev (hC _ _ _) (fun V r h => hK _ _ _ _ h) h | skip) <;> (split at h <;> (try (rename_i hc; simp only [hc, if_true, if_false]))) <;> (first | (cases h; done) | exact hK _ _ _ _ h | exact hF _ _ _ _ _ h | exact xev_of (fun _ => h) | exact xsw_ev (fun t r h => hF _ _ _ _ _ h) _ _ h | exact xload_ev (fun x r h => hK _ _ _ _ h) h | exact xnew_ev (fun g i V r h => hK _ _ _ _ h) h | exact ci_ev (hC _ _ _) (fun v V r h => hK _ _ _ _ h) h | exact cl_ev (hC _ _ _) (fun v V r h => hK _ _ _ _ h) h | exact cr_ev (hC _ _ _) (fun g i V r h => hK _ _ _ _ h) h | exact cv_ev (hC _ _ _) (fun V r h => hK _ _ _ _ h) h | skip)
  case if_icmp cnd off => cases cnd <;> (simp only [xone] at h ⊢; (split at h <;> (try (rename_i hc; simp only [hc, if_true, if_false])))) <;> (first | (cases h; done) | exact hK _ _ _ _ h | exact hF _ _ _ _ _ h | exact xev_of (fun _ => h) | exact xsw_ev (fun t r h => hF _ _ _ _ _ h) _ _ h | exact xload_ev (fun x r h => hK _ _ _ _ h) h | exact xnew_ev (fun g i V r h => hK _ _ _ _ h) h | exact ci_ev (hC _ _ _) (fun v V r h => hK _ _ _ _ h) h | exact cl_ev (hC _ _ _) (fun v V r h => hK _ _ _ _ h) h | exact cr_ev (hC _ _ _) (fun g i V r h => hK _ _ _ _ h) h | exact cv_ev (hC _ _ _) (fun V r h => hK _ _ _ _ h) h | skip) <;> (split at h <;> (try (rename_i hc; simp only [hc, if_true, if_false]))) <;> (first | (cases h; done) | exact hK _ _ _ _ h | exact hF _ _ _ _ _ h | exact xev_of (fun _ => h) | exact xsw_ev (fun t r h => hF _ _ _ _ _ h) _ _ h | exact xload_ev (fun x r h => hK _ _ _ _ h) h | exact xnew_ev (fun g i V r h => hK _ _ _ _ h) h | exact ci_ev (hC _ _ _) (fun v V r h => hK _ _ _ _ h) h | exact cl_ev (hC _ _ _) (fun v V r h => hK _ _ _ _ h) h | exact cr_ev (hC _ _ _) (fun g i V r h => hK _ _ _ _ h) h | exact cv_ev (hC _ _ _) (fun V r h => hK _ _ _ _ h) h | skip)
  all_goals (simp only [xone] at h ⊢)
  all_goals (first | (cases h; done) | exact hK _ _ _ _ h | exact hF _ _ _ _ _ h | exact xev_of (fun _ => h) | exact xsw_ev (fun t r h => hF _ _ _ _ _ h) _ _ h | exact xload_ev (fun x r h => hK _ _ _ _ h) h | exact xnew_ev (fun g i V r h => hK _ _ _ _ h) h | exact ci_ev (hC _ _ _) (fun v V r h => hK _ _ _ _ h) h | exact cl_ev (hC _ _ _) (fun v V r h => hK _ _ _ _ h) h | exact cr_ev (hC _ _ _) (fun g i V r h => hK _ _ _ _ h) h | exact cv_ev (hC _ _ _) (fun V r h => hK _ _ _ _ h) h | skip)
  all_goals (first | (split at h <;> (try (rename_i hc; simp only [hc, if_true, if_false]))) | skip)
  all_goals (first | (cases h; done) | exact hK _ _ _ _ h | exact hF _ _ _ _ _ h | exact xev_of (fun _ => h) | exact xsw_ev (fun t r h => hF _ _ _ _ _ h) _ _ h | exact xload_ev (fun x r h => hK _ _ _ _ h) h | exact xnew_ev (fun g i V r h => hK _ _ _ _ h) h | exact ci_ev (hC _ _ _) (fun v V r h => hK _ _ _ _ h) h | exact cl_ev (hC _ _ _) (fun v V r h => hK _ _ _ _ h) h | exact cr_ev (hC _ _ _) (fun g i V r h => hK _ _ _ _ h) h | exact cv_ev (hC _ _ _) (fun V r h => hK _ _ _ _ h) h | skip)
  all_goals (first | (split at h <;> (try (rename_i hc; simp only [hc, if_true, if_false]))) | skip)
  all_goals (first | (cases h; done) | exact hK _ _ _ _ h | exact hF _ _ _ _ _ h | exact xev_of (fun _ => h) | exact xsw_ev (fun t r h => hF _ _ _ _ _ h) _ _ h | exact xload_ev (fun x r h => hK _ _ _ _ h) h | exact xnew_ev (fun g i V r h => hK _ _ _ _ h) h | exact ci_ev (hC _ _ _) (fun v V r h => hK _ _ _ _ h) h | exact cl_ev (hC _ _ _) (fun v V r h => hK _ _ _ _ h) h | exact cr_ev (hC _ _ _) (fun g i V r h => hK _ _ _ _ h) h | exact cv_ev (hC _ _ _) (fun V r h => hK _ _ _ _ h) h | skip)
  all_goals (first | (split at h <;> (try (rename_i hc; simp only [hc, if_true, if_false]))) | skip)
  all_goals (first | (cases h; done) | exact hK _ _ _ _ h | exact hF _ _ _ _ _ h | exact xev_of (fun _ => h) | exact xsw_ev (fun t r h => hF _ _ _ _ _ h) _ _ h | exact xload_ev (fun x r h => hK _ _ _ _ h) h | exact xnew_ev (fun g i V r h => hK _ _ _ _ h) h | exact ci_ev (hC _ _ _) (fun v V r h => hK _ _ _ _ h) h | exact cl_ev (hC _ _ _) (fun v V r h => hK _ _ _ _ h) h | exact cr_ev (hC _ _ _) (fun g i V r h => hK _ _ _ _ h) h | exact cv_ev (hC _ _ _) (fun V r h => hK _ _ _ _ h) h | skip)
  all_goals (first | (split at h <;> (try (rename_i hc; simp only [hc, if_true, if_false]))) | skip)
  all_goals (first | (cases h; done) | exact hK _ _ _ _ h | exact hF _ _ _ _ _ h | exact xev_of (fun _ => h) | exact xsw_ev (fun t r h => hF _ _ _ _ _ h) _ _ h | exact xload_ev (fun x r h => hK _ _ _ _ h) h | exact xnew_ev (fun g i V r h => hK _ _ _ _ h) h | exact ci_ev (hC _ _ _) (fun v V r h => hK _ _ _ _ h) h | exact cl_ev (hC _ _ _) (fun v V r h => hK _ _ _ _ h) h | exact cr_ev (hC _ _ _) (fun g i V r h => hK _ _ _ _ h) h | exact cv_ev (hC _ _ _) (fun V r h => hK _ _ _ _ h) h | skip)
  all_goals (first | (split at h <;> (try (rename_i hc; simp only [hc, if_true, if_false]))) | skip)
  all_goals (first | (cases h; done) | exact hK _ _ _ _ h | exact hF _ _ _ _ _ h | exact xev_of (fun _ => h) | exact xsw_ev (fun t r h => hF _ _ _ _ _ h) _ _ h | exact xload_ev (fun x r h => hK _ _ _ _ h) h | exact xnew_ev (fun g i V r h => hK _ _ _ _ h) h | exact ci_ev (hC _ _ _) (fun v V r h => hK _ _ _ _ h) h | exact cl_ev (hC _ _ _) (fun v V r h => hK _ _ _ _ h) h | exact cr_ev (hC _ _ _) (fun g i V r h => hK _ _ _ _ h) h | exact cv_ev (hC _ _ _) (fun V r h => hK _ _ _ _ h) h | skip)
  all_goals (first | (split at h <;> (try (rename_i hc; simp only [hc, if_true, if_false]))) | skip)
  all_goals (first | (cases h; done) | exact hK _ _ _ _ h | exact hF _ _ _ _ _ h | exact xev_of (fun _ => h) | exact xsw_ev (fun t r h => hF _ _ _ _ _ h) _ _ h | exact xload_ev (fun x r h => hK _ _ _ _ h) h | exact xnew_ev (fun g i V r h => hK _ _ _ _ h) h | exact ci_ev (hC _ _ _) (fun v V r h => hK _ _ _ _ h) h | exact cl_ev (hC _ _ _) (fun v V r h => hK _ _ _ _ h) h | exact cr_ev (hC _ _ _) (fun g i V r h => hK _ _ _ _ h) h | exact cv_ev (hC _ _ _) (fun V r h => hK _ _ _ _ h) h | skip)
  · exact xload_ev (G' := fun f x => if x = 1 then K' f ls (xr (w.2.2.1 _ _ _).1 (w.2.2.1 _ _ _).2 :: _) V else none) (fun x r h => by
      split at h <;> rename_i hc <;> simp only [hc, if_true, if_false]
      · exact hK _ _ _ _ h
      · cases h) h
  · simp only [hc.2, ne_eq, not_false_eq_true, and_self, if_true]
    exact hK _ _ _ _ h
theorem xrun_ev (nx : Nat) (hF : ∀ t ls st V r, F t ls st V = some r → xev fun f => F' f t ls st V = some r) (hC : ∀ m as V r, C m as V = some r → xev fun f => C' f m as V = some r) :
    ∀ (l : List XE) (ls st : List XS) (V : XM) (r : XS × XM), xrun w md F C nx l ls st V = some r → xev fun f => xrun w md (F' f) (C' f) nx l ls st V = some r := by
  intro l
  induction l with
  | nil => intro ls st V r h; exact hF _ _ _ _ _ h
  | cons e l ih =>
    intro ls st V r h
    simp only [xrun] at h ⊢
    exact xone_ev hF hC ih h
theorem xmac_ev (B : List XB) (hF : ∀ t ls st V r, F t ls st V = some r → xev fun f => F' f t ls st V = some r) (hC : ∀ m as V r, C m as V = some r → xev fun f => C' f m as V = some r)
    {pc : Nat} {ls st : List XS} {V : XM} {r : XS × XM} (h : xmac w md B F C pc ls st V = some r) : xev fun f => xmac w md B (F' f) (C' f) pc ls st V = some r := by
  unfold xmac at h ⊢
  cases hb : xblk B pc with
  | none => rw [hb] at h; cases h
  | some b =>
    rw [hb] at h
    dsimp only at h ⊢
    exact xrun_ev _ (fun t ls st V r h => hF _ _ _ _ _ h) hC _ _ _ _ _ h
end
section
variable {w : XW} {P : Nat → List XB} {ml : Nat → Nat} {md : Bool}
theorem xev_const {p : Prop} (h : xev fun _ => p) : p := h.elim fun f0 a => a f0 (Nat.le_refl _)
theorem xex_succ : ∀ (f d m pc : Nat) (ls st : List XS) (V : XM) (r : XS × XM), xex w P ml md f d m pc ls st V = some r → xex w P ml md (f + 1) d m pc ls st V = some r := by
  intro f
  induction f with
  | zero => intro d m pc ls st V r h; simp only [xex] at h; cases h
  | succ f ih =>
    intro d m pc ls st V r h
    refine xev_const (xmac_ev (P m) (F' := fun _ pc ls st V => xex w P ml md (f + 1) d m pc ls st V) (C' := fun _ => xdn (fun d m as V => xex w P ml md (f + 1) d m 0 (xpad (ml m) (xsl as)) [] V) d) (fun t ls st V r h => xev_of fun _ => ih _ _ _ _ _ _ _ h) (fun m as V r h => xev_of fun _ => ?_) (show xmac w md (P m) _ _ pc ls st V = some r from h))
    cases d with
    | zero => cases h
    | succ d => exact ih _ _ _ _ _ _ _ h
theorem xex_le {f f' : Nat} (hf : f ≤ f') {d m pc : Nat} {ls st : List XS} {V : XM} {r : XS × XM} (h : xex w P ml md f d m pc ls st V = some r) : xex w P ml md f' d m pc ls st V = some r := by
  induction hf with
  | refl => exact h
  | step _ ih => exact xex_succ _ _ _ _ _ _ _ _ ih
end
/-- the run without fuel: what some fuel gives -/
noncomputable def Xx (w : XW) (P : Nat → List XB) (ml : Nat → Nat) (md : Bool) (d m pc : Nat) (ls st : List XS) (V : XM) : XR :=
  @dite XR (∃ (f : Nat) (r : XS × XM), xex w P ml md f d m pc ls st V = some r) (Classical.propDecidable _) (fun h => some h.choose_spec.choose) (fun _ => none)
noncomputable def Xc (w : XW) (P : Nat → List XB) (ml : Nat → Nat) (md : Bool) (d m : Nat) (as : List XS) (V : XM) : XR := xdn (fun d m as V => Xx w P ml md d m 0 (xpad (ml m) (xsl as)) [] V) d m as V
section
variable {w : XW} {P : Nat → List XB} {ml : Nat → Nat} {md : Bool}
theorem Xx_of {f d m pc : Nat} {ls st : List XS} {V : XM} {r : XS × XM} (h : xex w P ml md f d m pc ls st V = some r) : Xx w P ml md d m pc ls st V = some r := by
  have hex : ∃ (f : Nat) (r : XS × XM), xex w P ml md f d m pc ls st V = some r := ⟨f, r, h⟩
  unfold Xx
  rw [dif_pos hex]
  have h1 := hex.choose_spec.choose_spec
  have h2 := xex_le (Nat.le_max_left hex.choose f) h1
  have h3 := xex_le (Nat.le_max_right hex.choose f) h
  exact h2.symm.trans h3
theorem Xx_some {d m pc : Nat} {ls st : List XS} {V : XM} {r : XS × XM} (h : Xx w P ml md d m pc ls st V = some r) : ∃ f, xex w P ml md f d m pc ls st V = some r := by
  unfold Xx at h
  split at h
  · rename_i hex
    cases h
    exact ⟨_, hex.choose_spec.choose_spec⟩
  · cases h
theorem Xx_ev {d m pc : Nat} {ls st : List XS} {V : XM} {r : XS × XM} (h : Xx w P ml md d m pc ls st V = some r) : xev fun f => xex w P ml md f d m pc ls st V = some r := by
  obtain ⟨f, hf⟩ := Xx_some h
  exact ⟨f, fun f' h' => xex_le h' hf⟩
theorem Xc_of {f d m : Nat} {as : List XS} {V : XM} {r : XS × XM} (h : xdn (fun d m as V => xex w P ml md f d m 0 (xpad (ml m) (xsl as)) [] V) d m as V = some r) : Xc w P ml md d m as V = some r := by
  cases d with
  | zero => cases h
  | succ d => exact Xx_of h
theorem Xc_ev {d m : Nat} {as : List XS} {V : XM} {r : XS × XM} (h : Xc w P ml md d m as V = some r) : xev fun f => xdn (fun d m as V => xex w P ml md f d m 0 (xpad (ml m) (xsl as)) [] V) d m as V = some r := by
  cases d with
  | zero => cases h
  | succ d => exact Xx_ev h
/-- THE EQUATION of a run: a block, then on -/
theorem Xx_eq (d m pc : Nat) (ls st : List XS) (V : XM) : Xx w P ml md d m pc ls st V = xmac w md (P m) (Xx w P ml md d m) (Xc w P ml md d) pc ls st V := by
  have key : ∀ r, Xx w P ml md d m pc ls st V = some r ↔ xmac w md (P m) (Xx w P ml md d m) (Xc w P ml md d) pc ls st V = some r := by
    intro r
    constructor
    · intro h
      obtain ⟨f, hf⟩ := Xx_some h
      cases f with
      | zero => simp only [xex] at hf; cases hf
      | succ f => exact xev_const (xmac_ev (P m) (F' := fun _ => Xx w P ml md d m) (C' := fun _ => Xc w P ml md d) (fun t ls st V r h => xev_of fun _ => Xx_of h) (fun m as V r h => xev_of fun _ => Xc_of h) (show xmac w md (P m) _ _ pc ls st V = some r from hf))
    · intro h
      obtain ⟨f, hf⟩ := xmac_ev (P m) (F' := fun f pc ls st V => xex w P ml md f d m pc ls st V) (C' := fun f => xdn (fun d m as V => xex w P ml md f d m 0 (xpad (ml m) (xsl as)) [] V) d) (fun t ls st V r h => Xx_ev h) (fun m as V r h => Xc_ev h) h
      exact Xx_of (f := f + 1) (hf f (Nat.le_refl _))
  cases h1 : Xx w P ml md d m pc ls st V with
  | some r => exact ((key r).mp h1).symm
  | none =>
    cases h2 : xmac w md (P m) (Xx w P ml md d m) (Xc w P ml md d) pc ls st V with
    | none => rfl
    | some r => rw [(key r).mpr h2] at h1; cases h1
/-- several blocks, up to the places where one stops -/
def xes (w : XW) (md : Bool) (B : List XB) (F : Nat → List XS → List XS → XM → XR) (C : Nat → List XS → XM → XR) (stop : List Nat) : Nat → Nat → List XS → List XS → XM → XR
  | 0, pc, ls, st, V => F pc ls st V
  | n + 1, pc, ls, st, V => match xblk B pc with
    | some b => xrun w md (fun t ls st V => if stop.elem t = true then F t (xmk B t ls) st V else xes w md B F C stop n t (xmk B t ls) st V) C b.2.2.2 b.2.2.1 ls st V
    | none => none
theorem Xx_es (stop : List Nat) {d m : Nat} {B : List XB} (hB : P m = B) : ∀ (n pc : Nat) (ls st : List XS) (V : XM), Xx w P ml md d m pc ls st V = xes w md B (Xx w P ml md d m) (Xc w P ml md d) stop n pc ls st V := by
  intro n
  induction n with
  | zero => intro pc ls st V; rfl
  | succ n ih =>
    intro pc ls st V
    rw [Xx_eq, hB]
    have hF : (fun t ls st V => Xx w P ml md d m t (xmk B t ls) st V) = (fun t ls st V => if stop.elem t = true then Xx w P ml md d m t (xmk B t ls) st V else xes w md B (Xx w P ml md d m) (Xc w P ml md d) stop n t (xmk B t ls) st V) := by
      funext t ls st V
      split
      · rfl
      · exact ih _ _ _ _
    simp only [xmac, xes]
    rw [hF]
    cases xblk B pc <;> rfl
theorem Xc_es (stop : List Nat) {d m : Nat} {B : List XB} (hB : P m = B) (n : Nat) (as : List XS) (V : XM) : Xc w P ml md (d + 1) m as V = xes w md B (Xx w P ml md d m) (Xc w P ml md d) stop n 0 (xpad (ml m) (xsl as)) [] V := Xx_es stop hB n 0 _ [] V
end
end
