/-! THE ABSTRACT MACHINE: values are numbers (Int) with a tag, or a cell (group, place); memory is a function -/
abbrev XS : Type := Int ⊕ (Int ⊕ (Int ⊕ (Int ⊕ (Nat × Nat))))
abbrev xi (x : Int) : XS := Sum.inl x
abbrev xl (x : Int) : XS := Sum.inr (Sum.inl x)
abbrev xf (x : Int) : XS := Sum.inr (Sum.inr (Sum.inl x))
abbrev xd (x : Int) : XS := Sum.inr (Sum.inr (Sum.inr (Sum.inl x)))
abbrev xr (g i : Nat) : XS := Sum.inr (Sum.inr (Sum.inr (Sum.inr (g, i))))
abbrev XM : Type := Nat → Nat → Nat → Int
abbrev XR : Type := Option (XS × XM)
/-- one cell's place is written -/
def xu (V : XM) (g i j : Nat) (x : Int) : XM := fun a b c => if a = g ∧ b = i ∧ c = j then x else V a b c
/-- a cell comes: n + 1 of them now, all its places 0 -/
def xz (V : XM) (g i n : Nat) : XM := fun a b c => if a = 0 ∧ b = 0 ∧ c = 0 then (n : Int) + 1 else if a = g ∧ b = i then 0 else V a b c
-- numbers
def w32 (x : Int) : Int := (x + 2147483648) % 4294967296 - 2147483648
def w64 (x : Int) : Int := (x + 9223372036854775808) % 18446744073709551616 - 9223372036854775808
def w8 (x : Int) : Int := (x + 128) % 256 - 128
def w16 (x : Int) : Int := (x + 32768) % 65536 - 32768
def c16 (x : Int) : Int := x % 65536
def iAnd (x y : Int) : Int := (Int32.ofInt x &&& Int32.ofInt y).toInt
def iOr (x y : Int) : Int := (Int32.ofInt x ||| Int32.ofInt y).toInt
def iXor (x y : Int) : Int := (Int32.ofInt x ^^^ Int32.ofInt y).toInt
def lAnd (x y : Int) : Int := (Int64.ofInt x &&& Int64.ofInt y).toInt
def lOr (x y : Int) : Int := (Int64.ofInt x ||| Int64.ofInt y).toInt
def lXor (x y : Int) : Int := (Int64.ofInt x ^^^ Int64.ofInt y).toInt
def lShl (x y : Int) : Int := w64 (x * 2 ^ (y % 64).toNat)
def lUshr (x y : Int) : Int := w64 ((x % 18446744073709551616) / 2 ^ (y % 64).toNat)
def cmp3 (x y : Int) : Int := if x < y then -1 else if x = y then 0 else 1
def fL2F (x : Int) : Int := ((FP.l2f (Int64.ofInt x)).toNat : Int)
def fL2D (x : Int) : Int := ((FP.l2d (Int64.ofInt x)).toNat : Int)
def fF2L (x : Int) : Int := (FP.f2l (UInt32.ofNat x.toNat)).toInt
def fD2L (x : Int) : Int := (FP.d2l (UInt64.ofNat x.toNat)).toInt
def fF2D (x : Int) : Int := ((FP.f2d (UInt32.ofNat x.toNat)).toNat : Int)
def fNum (x : Int) : Bool := decide (UInt64.ofNat x.toNat &&& 0x7fffffffffffffff ≤ 0x7ff0000000000000)
def fDcmp (op : CmpOp) (x y : Int) : Int := (Op.cmpValue (FP.dcmp (UInt64.ofNat x.toNat) (UInt64.ofNat y.toNat)) op).toInt
-- locals
def xget : List XS → Nat → XS
  | [], _ => xr 0 0
  | v :: _, 0 => v
  | _ :: l, k + 1 => xget l k
def xset : List XS → Nat → XS → List XS
  | [], _, _ => []
  | _ :: l, 0, v => v :: l
  | a :: l, k + 1, v => a :: xset l k v
/-- the same, handed on written out -/
def xsetK : List XS → Nat → XS → (List XS → XR) → XR
  | [], _, _, k => k []
  | _ :: l, 0, v, k => k (v :: l)
  | a :: l, n + 1, v, k => xsetK l n v (fun l => k (a :: l))
def xone1 : XS → Bool
  | .inr (.inl _) => false
  | .inr (.inr (.inr (.inl _))) => false
  | _ => true
/-- no long stands just below -/
def xok1 (ls : List XS) : Nat → Bool
  | 0 => true
  | k + 1 => xone1 (xget ls k)
def xmask : List Bool → List XS → List XS
  | true :: b, v :: l => v :: xmask b l
  | false :: b, _ :: l => xr 0 0 :: xmask b l
  | _, _ => []
def xmaskK : List Bool → List XS → (List XS → XR) → XR
  | true :: b, v :: l, k => xmaskK b l (fun l => k (v :: l))
  | false :: b, _ :: l, k => xmaskK b l (fun l => k (xr 0 0 :: l))
  | [], _, k => k []
  | _ :: _, [], k => k []
def xpad : Nat → List XS → List XS
  | 0, _ => []
  | n + 1, [] => xr 0 0 :: xpad n []
  | n + 1, v :: l => v :: xpad n l
def xpadK : Nat → List XS → (List XS → XR) → XR
  | 0, _, k => k []
  | n + 1, [], k => xpadK n [] (fun l => k (xr 0 0 :: l))
  | n + 1, v :: l, k => xpadK n l (fun l => k (v :: l))
def xsl : List XS → List XS
  | [] => []
  | .inr (.inl x) :: l => xl x :: xr 0 0 :: xsl l
  | .inr (.inr (.inr (.inl x))) :: l => xd x :: xr 0 0 :: xsl l
  | v :: l => v :: xsl l
/-- no cell of the script's -/
def xnos : List XS → Bool
  | [] => true
  | .inr (.inr (.inr (.inr (1, _)))) :: _ => false
  | _ :: l => xnos l
def xcat : XS → Nat
  | .inr (.inl _) => 2
  | .inr (.inr (.inr (.inl _))) => 2
  | _ => 1
def xsum : List XS → Nat
  | [] => 0
  | v :: l => xcat v + xsum l
def xtk : Nat → List XS → List XS
  | 0, _ => []
  | _ + 1, [] => []
  | n + 1, v :: l => v :: xtk n l
def xdp : Nat → List XS → List XS
  | 0, l => l
  | _ + 1, [] => []
  | n + 1, _ :: l => xdp n l
def xrv : List XS → List XS → List XS
  | [], a => a
  | v :: l, a => xrv l (v :: a)
/-- what follows a call, by what comes back -/
def ci (x : XR) (k : Int → XM → XR) : XR := match x with
  | some (.inl v, V) => k v V
  | _ => none
def cl (x : XR) (k : Int → XM → XR) : XR := match x with
  | some (.inr (.inl v), V) => k v V
  | _ => none
/-- the one cell that calls give back is the walk's -/
def cr (x : XR) (k : XM → XR) : XR := match x with
  | some (.inr (.inr (.inr (.inr (9, 0)))), V) => k V
  | _ => none
def cv (x : XR) (k : XM → XR) : XR := match x with
  | some (_, V) => k V
  | _ => none
/-- an entry: pc, instruction, length, number, three places, targets -/
abbrev XE : Type := Nat × Instr × Nat × Int × Nat × Nat × Nat × List Nat
abbrev e0 (pc : Nat) (i : Instr) (len : Nat) : XE := (pc, i, len, 0, 0, 0, 0, [])
abbrev e1 (pc : Nat) (i : Instr) (len r : Nat) : XE := (pc, i, len, 0, r, 0, 0, [])
abbrev ec (pc : Nat) (i : Instr) (len : Nat) (c : Int) : XE := (pc, i, len, c, 0, 0, 0, [])
abbrev e3 (pc : Nat) (i : Instr) (len r1 r2 r3 : Nat) : XE := (pc, i, len, 0, r1, r2, r3, [])
abbrev es (pc : Nat) (i : Instr) (len : Nat) (c : Int) (r1 : Nat) (t : List Nat) : XE := (pc, i, len, c, r1, 0, 0, t)
abbrev ei (pc : Nat) (i : Instr) (len : Nat) (c : Int) (r1 r2 r3 mx : Nat) : XE := (pc, i, len, c, r1, r2, r3, [mx])
abbrev ek (pc : Nat) (i : Instr) (len : Nat) (c : Int) (r1 : Nat) : XE := (pc, i, len, c, r1, 0, 0, [])
/-- the world's shape: kind of a group's cells (10 + class an object, 1 int[], 2 long[], 3 boolean[], 4 double[], 5 Shelf[], 6 Table[], 7 the script, 9 nothing), an array's length, what a place of references holds: the group (of an array: at 0), the place in it, the cells in the order in which they come, how many -/
abbrev XW : Type := (Nat → Nat) × (Nat → Int) × (Nat → Nat → Nat) × (Nat → Nat → Nat → Nat) × (Nat → Nat × Nat) × Nat
def xgl {α : Type} (d : α) : List α → Nat → α
  | [], _ => d
  | v :: _, 0 => v
  | _ :: l, k + 1 => xgl d l k
def xg2 {α : Type} (d : α) (L : List (List α)) (k : Nat) : α := xgl d (xgl [] L (k / 16)) (k % 16)
def xmem : List Nat → Nat → Bool
  | [], _ => false
  | a :: l, t => match Nat.beq a t with
    | true => true
    | false => xmem l t
/-- the receiver is of that kind (0: none is asked for) -/
def xrk (w : XW) (st : List XS) (r2 : Nat) : Nat → Bool
  | 0 => true
  | k + 1 => match r2 with
    | 0 => false
    | j + 1 => match xget st j with
      | .inr (.inr (.inr (.inr (g, _)))) => Nat.beq (w.1 g) (k + 1)
      | _ => false
/-- so many are there -/
def xhas : List XS → Nat → Bool
  | _, 0 => true
  | [], _ + 1 => false
  | _ :: l, n + 1 => xhas l n
/-- the arguments have room among the callee's locals -/
def xmx : List Nat → Nat → Bool
  | [mx], k => Nat.ble k mx
  | _, _ => false
def xif (b : Bool) (a : XR) : XR := match b with
  | true => a
  | false => none
def xsw (x lo : Int) (d : Nat) (F : Nat → XR) : List Nat → XR
  | [] => F d
  | t :: l => if x = lo then F t else xsw x (lo + 1) d F l
def xload (w : XW) (g i : Nat) (k : Nat) (j : Int) (K : Int → XR) (V : XM) : XR := xif (Nat.beq (w.1 g) k) (if 0 ≤ j ∧ j < w.2.1 g then K (V g i j.toNat) else none)
def xnew (w : XW) (V : XM) (k : Nat) (c : Int) (K : Nat → Nat → XM → XR) : XR :=
  match w.2.2.2.2.1 (V 0 0 0).toNat with
  | (g, i) => xif (Nat.blt (V 0 0 0).toNat w.2.2.2.2.2) (xif (Nat.beq (w.1 g) k) (xif (decide (w.2.1 g = c)) (K g i (xz V g i (V 0 0 0).toNat))))
def o_il (r1 : Nat) (K : List XS → List XS → XM → XR) (ls st : List XS) (V : XM) : XR := match xget ls r1 with | .inl x => K ls (xi x :: st) V | _ => none
def o_ll (r1 : Nat) (K : List XS → List XS → XM → XR) (ls st : List XS) (V : XM) : XR := match xget ls r1 with | .inr (.inl x) => K ls (xl x :: st) V | _ => none
def o_al (r1 : Nat) (K : List XS → List XS → XM → XR) (ls st : List XS) (V : XM) : XR := match xget ls r1 with | .inr (.inr (.inr (.inr (g, i)))) => (match g with | 0 => none | g + 1 => K ls (xr (g + 1) i :: st) V) | _ => none
def o_is (r1 : Nat) (K : List XS → List XS → XM → XR) (ls st : List XS) (V : XM) : XR := match st with | .inl x :: st => xif (xok1 ls r1) (xsetK ls r1 (xi x) (fun ls => K ls st V)) | _ => none
def o_ls (r1 : Nat) (K : List XS → List XS → XM → XR) (ls st : List XS) (V : XM) : XR := match st with | .inr (.inl x) :: st => xif (xok1 ls r1) (xsetK ls r1 (xl x) (fun ls => xsetK ls (r1 + 1) (xr 0 0) (fun ls => K ls st V))) | _ => none
def o_as (r1 : Nat) (K : List XS → List XS → XM → XR) (ls st : List XS) (V : XM) : XR := match st with | .inr (.inr (.inr (.inr (g, i)))) :: st => (match g with | 0 => none | g + 1 => xif (xok1 ls r1) (xsetK ls r1 (xr (g + 1) i) (fun ls => K ls st V))) | _ => none
def o_inc (r1 : Nat) (c : Int) (K : List XS → List XS → XM → XR) (ls st : List XS) (V : XM) : XR := match xget ls r1 with | .inl x => xif (xok1 ls r1) (xsetK ls r1 (xi (w32 (x + c))) (fun ls => K ls st V)) | _ => none
def o_dup  (K : List XS → List XS → XM → XR) (ls st : List XS) (V : XM) : XR := match st with | .inl x :: st => K ls (xi x :: xi x :: st) V | .inr (.inr (.inr (.inr (g, i)))) :: st => K ls (xr g i :: xr g i :: st) V | _ => none
def o_dup2  (K : List XS → List XS → XM → XR) (ls st : List XS) (V : XM) : XR := match st with | .inl y :: .inr (.inr (.inr (.inr (g, i)))) :: st => K ls (xi y :: xr g i :: xi y :: xr g i :: st) V | _ => none
def o_dupx  (K : List XS → List XS → XM → XR) (ls st : List XS) (V : XM) : XR := match st with | .inl y :: .inr (.inr (.inr (.inr (g, i)))) :: st => K ls (xi y :: xr g i :: xi y :: st) V | _ => none
def o_pop  (K : List XS → List XS → XM → XR) (ls st : List XS) (V : XM) : XR := match st with | .inl _ :: st => K ls st V | _ => none
def o_i2 (f : Int → Int → Int) (K : List XS → List XS → XM → XR) (ls st : List XS) (V : XM) : XR := match st with | .inl y :: .inl x :: st => K ls (xi (f x y) :: st) V | _ => none
def o_div (f : Int → Int → Int) (K : List XS → List XS → XM → XR) (ls st : List XS) (V : XM) : XR := match st with | .inl y :: .inl x :: st => (if y = 0 then none else K ls (xi (f x y) :: st) V) | _ => none
def o_i1 (f : Int → Int) (K : List XS → List XS → XM → XR) (ls st : List XS) (V : XM) : XR := match st with | .inl x :: st => K ls (xi (f x) :: st) V | _ => none
def o_l2 (f : Int → Int → Int) (K : List XS → List XS → XM → XR) (ls st : List XS) (V : XM) : XR := match st with | .inr (.inl y) :: .inr (.inl x) :: st => K ls (xl (f x y) :: st) V | _ => none
def o_ldiv  (K : List XS → List XS → XM → XR) (ls st : List XS) (V : XM) : XR := match st with | .inr (.inl y) :: .inr (.inl x) :: st => (if y = 0 then none else K ls (xl (w64 (Int.tdiv x y)) :: st) V) | _ => none
def o_lsh (f : Int → Int → Int) (K : List XS → List XS → XM → XR) (ls st : List XS) (V : XM) : XR := match st with | .inl y :: .inr (.inl x) :: st => K ls (xl (f x y) :: st) V | _ => none
def o_lcmp  (K : List XS → List XS → XM → XR) (ls st : List XS) (V : XM) : XR := match st with | .inr (.inl y) :: .inr (.inl x) :: st => K ls (xi (cmp3 x y) :: st) V | _ => none
def o_i2l  (K : List XS → List XS → XM → XR) (ls st : List XS) (V : XM) : XR := match st with | .inl x :: st => K ls (xl x :: st) V | _ => none
def o_l2i  (K : List XS → List XS → XM → XR) (ls st : List XS) (V : XM) : XR := match st with | .inr (.inl x) :: st => K ls (xi (w32 x) :: st) V | _ => none
def o_l2f  (K : List XS → List XS → XM → XR) (ls st : List XS) (V : XM) : XR := match st with | .inr (.inl x) :: st => K ls (xf (fL2F x) :: st) V | _ => none
def o_l2d  (K : List XS → List XS → XM → XR) (ls st : List XS) (V : XM) : XR := match st with | .inr (.inl x) :: st => K ls (xd (fL2D x) :: st) V | _ => none
def o_f2l  (K : List XS → List XS → XM → XR) (ls st : List XS) (V : XM) : XR := match st with | .inr (.inr (.inl x)) :: st => K ls (xl (fF2L x) :: st) V | _ => none
def o_d2l  (K : List XS → List XS → XM → XR) (ls st : List XS) (V : XM) : XR := match st with | .inr (.inr (.inr (.inl x))) :: st => K ls (xl (fD2L x) :: st) V | _ => none
def o_f2d  (K : List XS → List XS → XM → XR) (ls st : List XS) (V : XM) : XR := match st with | .inr (.inr (.inl x)) :: st => (if fNum (fF2D x) = true then K ls (xd (fF2D x) :: st) V else none) | _ => none
def o_dcmp (op : CmpOp) (K : List XS → List XS → XM → XR) (ls st : List XS) (V : XM) : XR := match st with | .inr (.inr (.inr (.inl y))) :: .inr (.inr (.inr (.inl x))) :: st => K ls (xi (fDcmp op x y) :: st) V | _ => none
def o_gf (w : XW) (md : Bool) (r1 r2 r3 : Nat) (K : List XS → List XS → XM → XR) (ls st : List XS) (V : XM) : XR := match st with | .inr (.inr (.inr (.inr (g, i)))) :: st => xif (Nat.beq (w.1 g) r1) (match r3 with | 0 => K ls (xi (V g i r2) :: st) V | _ + 1 => (match md with | true => (if V g i r2 = 1 then K ls (xr (w.2.2.1 g r2) (w.2.2.2.1 g i r2) :: st) V else none) | false => K ls (xr (w.2.2.1 g r2) (w.2.2.2.1 g i r2) :: st) V)) | _ => none
def o_pf (w : XW) (md : Bool) (r1 r2 r3 : Nat) (K : List XS → List XS → XM → XR) (ls st : List XS) (V : XM) : XR := match r3 with | 0 => (match st with | .inl x :: .inr (.inr (.inr (.inr (g, i)))) :: st => xif (Nat.beq (w.1 g) r1) (K ls st (xu V g i r2 x)) | _ => none) | _ + 1 => (match st with | .inr (.inr (.inr (.inr (a, b)))) :: .inr (.inr (.inr (.inr (g, i)))) :: st => xif md (xif (Nat.beq (w.1 g) r1) (if w.2.2.1 g r2 = a ∧ w.2.2.2.1 g i r2 = b ∧ a ≠ 0 then K ls st (xu V g i r2 1) else none)) | _ => none)
def o_iald (w : XW) (K : List XS → List XS → XM → XR) (ls st : List XS) (V : XM) : XR := match st with | .inl j :: .inr (.inr (.inr (.inr (g, i)))) :: st => (match g with | 1 => (if 0 ≤ j ∧ j < V 1 1 0 then K ls (xi (V 1 0 j.toNat) :: st) V else none) | g => xload w g i 1 j (fun x => K ls (xi x :: st) V) V) | _ => none
def o_bald (w : XW) (K : List XS → List XS → XM → XR) (ls st : List XS) (V : XM) : XR := match st with | .inl j :: .inr (.inr (.inr (.inr (g, i)))) :: st => xload w g i 3 j (fun x => K ls (xi x :: st) V) V | _ => none
def o_lald (w : XW) (K : List XS → List XS → XM → XR) (ls st : List XS) (V : XM) : XR := match st with | .inl j :: .inr (.inr (.inr (.inr (g, i)))) :: st => xload w g i 2 j (fun x => K ls (xl x :: st) V) V | _ => none
def o_dald (w : XW) (K : List XS → List XS → XM → XR) (ls st : List XS) (V : XM) : XR := match st with | .inl j :: .inr (.inr (.inr (.inr (g, i)))) :: st => xload w g i 4 j (fun x => K ls (xd x :: st) V) V | _ => none
def o_aald (w : XW) (md : Bool) (r1 : Nat) (K : List XS → List XS → XM → XR) (ls st : List XS) (V : XM) : XR := match st with | .inl j :: .inr (.inr (.inr (.inr (g, i)))) :: st => xload w g i r1 j (fun x => (match md with | true => (if x = 1 then K ls (xr (w.2.2.1 g 0) (w.2.2.2.1 g i j.toNat) :: st) V else none) | false => K ls (xr (w.2.2.1 g 0) (w.2.2.2.1 g i j.toNat) :: st) V)) V | _ => none
def o_iast (w : XW) (K : List XS → List XS → XM → XR) (ls st : List XS) (V : XM) : XR := match st with | .inl x :: .inl j :: .inr (.inr (.inr (.inr (g, i)))) :: st => xload w g i 1 j (fun _ => K ls st (xu V g i j.toNat x)) V | _ => none
def o_bast (w : XW) (K : List XS → List XS → XM → XR) (ls st : List XS) (V : XM) : XR := match st with | .inl x :: .inl j :: .inr (.inr (.inr (.inr (g, i)))) :: st => xload w g i 3 j (fun _ => K ls st (xu V g i j.toNat (x % 2))) V | _ => none
def o_last (w : XW) (K : List XS → List XS → XM → XR) (ls st : List XS) (V : XM) : XR := match st with | .inr (.inl x) :: .inl j :: .inr (.inr (.inr (.inr (g, i)))) :: st => xload w g i 2 j (fun _ => K ls st (xu V g i j.toNat x)) V | _ => none
def o_dast (w : XW) (K : List XS → List XS → XM → XR) (ls st : List XS) (V : XM) : XR := match st with | .inr (.inr (.inr (.inl x))) :: .inl j :: .inr (.inr (.inr (.inr (g, i)))) :: st => xload w g i 4 j (fun _ => K ls st (xu V g i j.toNat x)) V | _ => none
def o_aast (w : XW) (md : Bool) (r1 r2 : Nat) (K : List XS → List XS → XM → XR) (ls st : List XS) (V : XM) : XR := match st with | .inr (.inr (.inr (.inr (a, b)))) :: .inl j :: .inr (.inr (.inr (.inr (g, i)))) :: st => xif md (xload w g i r1 j (fun _ => (if w.2.2.1 g 0 = a ∧ w.2.2.2.1 g i j.toNat = b ∧ w.1 a = r2 ∧ a ≠ 0 then K ls st (xu V g i j.toNat 1) else none)) V) | _ => none
def o_alen  (K : List XS → List XS → XM → XR) (ls st : List XS) (V : XM) : XR := match st with | .inr (.inr (.inr (.inr (1, _)))) :: st => K ls (xi (V 1 1 0) :: st) V | _ => none
def o_new (w : XW) (md : Bool) (r1 : Nat) (K : List XS → List XS → XM → XR) (ls st : List XS) (V : XM) : XR := xif md (xnew w V r1 0 (fun g i V => K ls (xr g i :: st) V))
def o_newa (w : XW) (md : Bool) (r1 : Nat) (K : List XS → List XS → XM → XR) (ls st : List XS) (V : XM) : XR := match st with | .inl x :: st => xif md (xnew w V r1 x (fun g i V => K ls (xr g i :: st) V)) | _ => none
def o_inv (w : XW) (C : Nat → List XS → XM → XR) (rk r1 r2 r3 : Nat) (tg : List Nat) (K : List XS → List XS → XM → XR) (ls st : List XS) (V : XM) : XR := xif (xrk w st r2 rk && xnos (xtk r2 st) && xmx tg (xsum (xtk r2 st)) && xhas st r2) (xif (Nat.ble (xsum (xdp r2 st)) 8) (match r3 with | 0 => ci (C r1 (xrv (xtk r2 st) []) V) (fun x V => K ls (xi x :: xdp r2 st) V) | 1 => cl (C r1 (xrv (xtk r2 st) []) V) (fun x V => K ls (xl x :: xdp r2 st) V) | 2 => cr (C r1 (xrv (xtk r2 st) []) V) (fun V => K ls (xr 9 0 :: xdp r2 st) V) | 3 => cv (C r1 (xrv (xtk r2 st) []) V) (fun V => K ls (xdp r2 st) V) | 8 => (match st with | .inl y :: .inl x :: st => K ls (xi (if x < y then y else x) :: st) V | _ => none) | _ => (match st with | .inr (.inr (.inr (.inr (g, _)))) :: st => (match g with | 0 => none | _ + 1 => K ls st V) | _ => none)))
def o_iret (r1 : Nat) (K : List XS → List XS → XM → XR) (ls st : List XS) (V : XM) : XR := match st with | [.inl x] => (match r1 with | 0 => some (xi x, V) | _ + 1 => (if x = 0 ∨ x = 1 then some (xi x, V) else none)) | _ => none
def o_lret  (K : List XS → List XS → XM → XR) (ls st : List XS) (V : XM) : XR := match st with | [.inr (.inl x)] => some (xl x, V) | _ => none
def o_aret  (K : List XS → List XS → XM → XR) (ls st : List XS) (V : XM) : XR := match st with | [.inr (.inr (.inr (.inr (g, i))))] => (match g with | 0 => none | g + 1 => some (xr (g + 1) i, V)) | _ => none
def o_vret  (K : List XS → List XS → XM → XR) (ls st : List XS) (V : XM) : XR := match st with | [] => some (xi 0, V) | _ => none
def o_ifeq (F : Nat → List XS → List XS → XM → XR) (r1 : Nat) (K : List XS → List XS → XM → XR) (ls st : List XS) (V : XM) : XR := match st with | .inl x :: st => (if x = 0 then F r1 ls st V else K ls st V) | _ => none
def o_ifne (F : Nat → List XS → List XS → XM → XR) (r1 : Nat) (K : List XS → List XS → XM → XR) (ls st : List XS) (V : XM) : XR := match st with | .inl x :: st => (if x = 0 then K ls st V else F r1 ls st V) | _ => none
def o_iflt (F : Nat → List XS → List XS → XM → XR) (r1 : Nat) (K : List XS → List XS → XM → XR) (ls st : List XS) (V : XM) : XR := match st with | .inl x :: st => (if x < 0 then F r1 ls st V else K ls st V) | _ => none
def o_ifge (F : Nat → List XS → List XS → XM → XR) (r1 : Nat) (K : List XS → List XS → XM → XR) (ls st : List XS) (V : XM) : XR := match st with | .inl x :: st => (if x < 0 then K ls st V else F r1 ls st V) | _ => none
def o_ifgt (F : Nat → List XS → List XS → XM → XR) (r1 : Nat) (K : List XS → List XS → XM → XR) (ls st : List XS) (V : XM) : XR := match st with | .inl x :: st => (if 0 < x then F r1 ls st V else K ls st V) | _ => none
def o_ifle (F : Nat → List XS → List XS → XM → XR) (r1 : Nat) (K : List XS → List XS → XM → XR) (ls st : List XS) (V : XM) : XR := match st with | .inl x :: st => (if 0 < x then K ls st V else F r1 ls st V) | _ => none
def o_iceq (F : Nat → List XS → List XS → XM → XR) (r1 : Nat) (K : List XS → List XS → XM → XR) (ls st : List XS) (V : XM) : XR := match st with | .inl y :: .inl x :: st => (if x = y then F r1 ls st V else K ls st V) | _ => none
def o_icne (F : Nat → List XS → List XS → XM → XR) (r1 : Nat) (K : List XS → List XS → XM → XR) (ls st : List XS) (V : XM) : XR := match st with | .inl y :: .inl x :: st => (if x = y then K ls st V else F r1 ls st V) | _ => none
def o_iclt (F : Nat → List XS → List XS → XM → XR) (r1 : Nat) (K : List XS → List XS → XM → XR) (ls st : List XS) (V : XM) : XR := match st with | .inl y :: .inl x :: st => (if x < y then F r1 ls st V else K ls st V) | _ => none
def o_icge (F : Nat → List XS → List XS → XM → XR) (r1 : Nat) (K : List XS → List XS → XM → XR) (ls st : List XS) (V : XM) : XR := match st with | .inl y :: .inl x :: st => (if x < y then K ls st V else F r1 ls st V) | _ => none
def o_icgt (F : Nat → List XS → List XS → XM → XR) (r1 : Nat) (K : List XS → List XS → XM → XR) (ls st : List XS) (V : XM) : XR := match st with | .inl y :: .inl x :: st => (if y < x then F r1 ls st V else K ls st V) | _ => none
def o_icle (F : Nat → List XS → List XS → XM → XR) (r1 : Nat) (K : List XS → List XS → XM → XR) (ls st : List XS) (V : XM) : XR := match st with | .inl y :: .inl x :: st => (if y < x then K ls st V else F r1 ls st V) | _ => none
def o_sw (F : Nat → List XS → List XS → XM → XR) (r1 : Nat) (c : Int) (tg : List Nat) (K : List XS → List XS → XM → XR) (ls st : List XS) (V : XM) : XR := match st with | .inl x :: st => xsw x c r1 (fun t => F t ls st V) tg | _ => none
/-- one instruction: F goes to another place of the method, C calls, K goes on behind it; md: while the world is being made -/
def xins (w : XW) (md : Bool) (F : Nat → List XS → List XS → XM → XR) (C : Nat → List XS → XM → XR) (K : List XS → List XS → XM → XR) (ins : Instr) (c : Int) (r1 r2 r3 : Nat) (tg : List Nat) (ls st : List XS) (V : XM) : XR :=
  match ins with
  | .iload _ | .iload_n _ => o_il r1 K ls st V
  | .lload _ | .lload_n _ => o_ll r1 K ls st V
  | .aload _ | .aload_n _ => o_al r1 K ls st V
  | .istore _ | .istore_n _ => o_is r1 K ls st V
  | .lstore _ | .lstore_n _ => o_ls r1 K ls st V
  | .astore _ | .astore_n _ => o_as r1 K ls st V
  | .iinc _ _ => o_inc r1 c K ls st V
  | .iconst _ | .bipush _ | .sipush _ => K ls (xi c :: st) V
  | .lconst _ | .ldc2_w _ => K ls (xl c :: st) V
  | .dconst _ => K ls (xd c :: st) V
  | .dup => o_dup K ls st V
  | .dup2 => o_dup2 K ls st V
  | .dup_x1 => o_dupx K ls st V
  | .pop => o_pop K ls st V
  | .iadd => o_i2 (fun x y => w32 (x + y)) K ls st V
  | .isub => o_i2 (fun x y => w32 (x - y)) K ls st V
  | .imul => o_i2 (fun x y => w32 (x * y)) K ls st V
  | .idiv => o_div (fun x y => w32 (Int.tdiv x y)) K ls st V
  | .irem => o_div Int.tmod K ls st V
  | .ineg => o_i1 (fun x => w32 (-x)) K ls st V
  | .iand => o_i2 iAnd K ls st V
  | .ior => o_i2 iOr K ls st V
  | .ixor => o_i2 iXor K ls st V
  | .ladd => o_l2 (fun x y => w64 (x + y)) K ls st V
  | .lsub => o_l2 (fun x y => w64 (x - y)) K ls st V
  | .lmul => o_l2 (fun x y => w64 (x * y)) K ls st V
  | .ldiv => o_ldiv K ls st V
  | .land => o_l2 lAnd K ls st V
  | .lor => o_l2 lOr K ls st V
  | .lxor => o_l2 lXor K ls st V
  | .lshl => o_lsh lShl K ls st V
  | .lushr => o_lsh lUshr K ls st V
  | .lcmp => o_lcmp K ls st V
  | .i2l => o_i2l K ls st V
  | .l2i => o_l2i K ls st V
  | .i2b => o_i1 w8 K ls st V
  | .i2s => o_i1 w16 K ls st V
  | .i2c => o_i1 c16 K ls st V
  | .l2f => o_l2f K ls st V
  | .l2d => o_l2d K ls st V
  | .f2l => o_f2l K ls st V
  | .d2l => o_d2l K ls st V
  | .f2d => o_f2d K ls st V
  | .dcmp op => o_dcmp op K ls st V
  | .getfield _ => o_gf w md r1 r2 r3 K ls st V
  | .putfield _ => o_pf w md r1 r2 r3 K ls st V
  | .iaload => o_iald w K ls st V
  | .baload => o_bald w K ls st V
  | .laload => o_lald w K ls st V
  | .daload => o_dald w K ls st V
  | .iastore => o_iast w K ls st V
  | .bastore => o_bast w K ls st V
  | .lastore => o_last w K ls st V
  | .dastore => o_dast w K ls st V
  | .aaload => o_aald w md r1 K ls st V
  | .aastore => o_aast w md r1 r2 K ls st V
  | .arraylength => o_alen K ls st V
  | .new _ => o_new w md r1 K ls st V
  | .newarray _ => o_newa w md r1 K ls st V
  | .anewarray _ => o_newa w md r1 K ls st V
  | .invokevirtual _ | .invokespecial _ | .invokestatic _ => o_inv w C c.toNat r1 r2 r3 tg K ls st V
  | .ireturn => o_iret r1 K ls st V
  | .lreturn => o_lret K ls st V
  | .areturn => o_aret K ls st V
  | .return_ => o_vret K ls st V
  | .goto _ => F r1 ls st V
  | .ifCond .eq _ => o_ifeq F r1 K ls st V
  | .ifCond .ne _ => o_ifne F r1 K ls st V
  | .ifCond .lt _ => o_iflt F r1 K ls st V
  | .ifCond .ge _ => o_ifge F r1 K ls st V
  | .ifCond .gt _ => o_ifgt F r1 K ls st V
  | .ifCond .le _ => o_ifle F r1 K ls st V
  | .if_icmp .eq _ => o_iceq F r1 K ls st V
  | .if_icmp .ne _ => o_icne F r1 K ls st V
  | .if_icmp .lt _ => o_iclt F r1 K ls st V
  | .if_icmp .ge _ => o_icge F r1 K ls st V
  | .if_icmp .gt _ => o_icgt F r1 K ls st V
  | .if_icmp .le _ => o_icle F r1 K ls st V
  | .tableswitch _ _ _ _ => o_sw F r1 c tg K ls st V
  | _ => none
def xone (w : XW) (md : Bool) (F : Nat → List XS → List XS → XM → XR) (C : Nat → List XS → XM → XR) (K : List XS → List XS → XM → XR) (e : XE) (ls st : List XS) (V : XM) : XR :=
  match e with
  | (_, ins, _, c, r1, r2, r3, tg) => xins w md F C K ins c r1 r2 r3 tg ls st V
/-- a block: where it begins, which locals live there, its entries, where it falls through to -/
abbrev XB : Type := Nat × List Bool × List XE × Nat
def xrun (w : XW) (md : Bool) (F : Nat → List XS → List XS → XM → XR) (C : Nat → List XS → XM → XR) (nx : Nat) : List XE → List XS → List XS → XM → XR
  | [], ls, st, V => F nx ls st V
  | e :: l, ls, st, V => xone w md F C (xrun w md F C nx l) e ls st V
def xblk : List XB → Nat → Option XB
  | [], _ => none
  | b :: l, pc => match Nat.beq b.1 pc with
    | true => some b
    | false => xblk l pc
def xmk (B : List XB) (t : Nat) (ls : List XS) : List XS := match xblk B t with
  | some b => xmask b.2.1 ls
  | none => ls
def xmkK (B : List XB) (t : Nat) (ls : List XS) (k : List XS → XR) : XR := match xblk B t with
  | some b => xmaskK b.2.1 ls k
  | none => k ls
def xmac (w : XW) (md : Bool) (B : List XB) (F : Nat → List XS → List XS → XM → XR) (C : Nat → List XS → XM → XR) (pc : Nat) (ls st : List XS) (V : XM) : XR := match xblk B pc with
  | some b => xrun w md (fun t ls st V => xmkK B t ls (fun ls => F t ls st V)) C b.2.2.2 b.2.2.1 ls st V
  | none => none
theorem xsetK_eq (v : XS) : ∀ (ls : List XS) (i : Nat) (k : List XS → XR), xsetK ls i v k = k (xset ls i v) := by
  intro ls
  induction ls with
  | nil => intro i k; rfl
  | cons a l ih =>
    intro i k
    cases i with
    | zero => rfl
    | succ n => exact ih n _
theorem xmaskK_eq : ∀ (b : List Bool) (ls : List XS) (k : List XS → XR), xmaskK b ls k = k (xmask b ls) := by
  intro b
  induction b with
  | nil => intro ls k; cases ls <;> rfl
  | cons a b ih =>
    intro ls k
    cases ls with
    | nil => cases a <;> rfl
    | cons v l => cases a <;> exact ih l _
theorem xpadK_eq : ∀ (n : Nat) (ls : List XS) (k : List XS → XR), xpadK n ls k = k (xpad n ls) := by
  intro n
  induction n with
  | zero => intro ls k; rfl
  | succ n ih =>
    intro ls k
    cases ls with
    | nil => exact ih [] _
    | cons v l => exact ih l _
theorem xmkK_eq (B : List XB) (t : Nat) (ls : List XS) (k : List XS → XR) : xmkK B t ls k = k (xmk B t ls) := by
  unfold xmkK xmk
  cases xblk B t with
  | none => rfl
  | some b => exact xmaskK_eq _ _ _
