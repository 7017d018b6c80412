section
/-! THE ABSTRACT MACHINE: values are numbers (Int) with a tag, or a cell (group, place); memory is a function -/
abbrev XS : Type := Int ⊕ (Int ⊕ (Int ⊕ (Int ⊕ (Nat × Nat))))
abbrev xi (x : Int) : XS := Sum.inl x
abbrev xl (x : Int) : XS := Sum.inr (Sum.inl x)
abbrev xf (x : Int) : XS := Sum.inr (Sum.inr (Sum.inl x))
abbrev xd (x : Int) : XS := Sum.inr (Sum.inr (Sum.inr (Sum.inl x)))
abbrev xr (g i : Nat) : XS := Sum.inr (Sum.inr (Sum.inr (Sum.inr (g, i))))
abbrev XM : Type := Nat → Nat → Nat → Int
abbrev XR : Type := Option (XS × XM)
/-- one cell's place is written -/
def xu (V : XM) (g i j : Nat) (x : Int) : XM := fun a b c => if a = g ∧ b = i ∧ c = j then x else V a b c
/-- a cell comes: n + 1 of them now, all its places 0 -/
def xz (V : XM) (g i n : Nat) : XM := fun a b c => if a = 0 ∧ b = 0 ∧ c = 0 then (n : Int) + 1 else if a = g ∧ b = i then 0 else V a b c
-- numbers
def w32 (x : Int) : Int := (x + 2147483648) % 4294967296 - 2147483648
def w64 (x : Int) : Int := (x + 9223372036854775808) % 18446744073709551616 - 9223372036854775808
def w8 (x : Int) : Int := (x + 128) % 256 - 128
def w16 (x : Int) : Int := (x + 32768) % 65536 - 32768
def c16 (x : Int) : Int := x % 65536
def iAnd (x y : Int) : Int := (Int32.ofInt x &&& Int32.ofInt y).toInt
def iOr (x y : Int) : Int := (Int32.ofInt x ||| Int32.ofInt y).toInt
def iXor (x y : Int) : Int := (Int32.ofInt x ^^^ Int32.ofInt y).toInt
def lAnd (x y : Int) : Int := (Int64.ofInt x &&& Int64.ofInt y).toInt
def lOr (x y : Int) : Int := (Int64.ofInt x ||| Int64.ofInt y).toInt
def lXor (x y : Int) : Int := (Int64.ofInt x ^^^ Int64.ofInt y).toInt
def lShl (x y : Int) : Int := w64 (x * 2 ^ (y % 64).toNat)
def lUshr (x y : Int) : Int := w64 ((x % 18446744073709551616) / 2 ^ (y % 64).toNat)
def cmp3 (x y : Int) : Int := if x < y then -1 else if x = y then 0 else 1
def fL2F (x : Int) : Int := ((FP.l2f (Int64.ofInt x)).toNat : Int)
def fL2D (x : Int) : Int := ((FP.l2d (Int64.ofInt x)).toNat : Int)
def fF2L (x : Int) : Int := (FP.f2l (UInt32.ofNat x.toNat)).toInt
def fD2L (x : Int) : Int := (FP.d2l (UInt64.ofNat x.toNat)).toInt
def fF2D (x : Int) : Int := ((FP.f2d (UInt32.ofNat x.toNat)).toNat : Int)
def fNum (x : Int) : Bool := decide (UInt64.ofNat x.toNat &&& 0x7fffffffffffffff ≤ 0x7ff0000000000000)
def fDcmp (op : CmpOp) (x y : Int) : Int := (Op.cmpValue (FP.dcmp (UInt64.ofNat x.toNat) (UInt64.ofNat y.toNat)) op).toInt
-- locals
def xget : List XS → Nat → XS
  | [], _ => xr 0 0
  | v :: _, 0 => v
  | _ :: l, k + 1 => xget l k
def xset : List XS → Nat → XS → List XS
  | [], _, _ => []
  | _ :: l, 0, v => v :: l
  | a :: l, k + 1, v => a :: xset l k v
/-- the same, handed on written out -/
def xsetK : List XS → Nat → XS → (List XS → XR) → XR
  | [], _, _, k => k []
  | _ :: l, 0, v, k => k (v :: l)
  | a :: l, n + 1, v, k => xsetK l n v (fun l => k (a :: l))
def xone1 : XS → Bool
  | .inr (.inl _) => false
  | .inr (.inr (.inr (.inl _))) => false
  | _ => true
/-- no long stands just below -/
def xok1 (ls : List XS) : Nat → Bool
  | 0 => true
  | k + 1 => xone1 (xget ls k)
def xmask : List Bool → List XS → List XS
  | true :: b, v :: l => v :: xmask b l
  | false :: b, _ :: l => xr 0 0 :: xmask b l
  | _, _ => []
def xmaskK : List Bool → List XS → (List XS → XR) → XR
  | true :: b, v :: l, k => xmaskK b l (fun l => k (v :: l))
  | false :: b, _ :: l, k => xmaskK b l (fun l => k (xr 0 0 :: l))
  | [], _, k => k []
  | _ :: _, [], k => k []
def xpad : Nat → List XS → List XS
  | 0, _ => []
  | n + 1, [] => xr 0 0 :: xpad n []
  | n + 1, v :: l => v :: xpad n l
def xpadK : Nat → List XS → (List XS → XR) → XR
  | 0, _, k => k []
  | n + 1, [], k => xpadK n [] (fun l => k (xr 0 0 :: l))
  | n + 1, v :: l, k => xpadK n l (fun l => k (v :: l))
def xsl : List XS → List XS
  | [] => []
  | .inr (.inl x) :: l => xl x :: xr 0 0 :: xsl l
  | .inr (.inr (.inr (.inl x))) :: l => xd x :: xr 0 0 :: xsl l
  | v :: l => v :: xsl l
/-- no cell of the script's -/
def xnos : List XS → Bool
  | [] => true
  | .inr (.inr (.inr (.inr (1, _)))) :: _ => false
  | _ :: l => xnos l
def xcat : XS → Nat
  | .inr (.inl _) => 2
  | .inr (.inr (.inr (.inl _))) => 2
  | _ => 1
def xsum : List XS → Nat
  | [] => 0
  | v :: l => xcat v + xsum l
def xtk : Nat → List XS → List XS
  | 0, _ => []
  | _ + 1, [] => []
  | n + 1, v :: l => v :: xtk n l
def xdp : Nat → List XS → List XS
  | 0, l => l
  | _ + 1, [] => []
  | n + 1, _ :: l => xdp n l
def xrv : List XS → List XS → List XS
  | [], a => a
  | v :: l, a => xrv l (v :: a)
/-- what follows a call, by what comes back -/
def ci (x : XR) (k : Int → XM → XR) : XR := match x with
  | some (.inl v, V) => k v V
  | _ => none
def cl (x : XR) (k : Int → XM → XR) : XR := match x with
  | some (.inr (.inl v), V) => k v V
  | _ => none
/-- the one cell that calls give back is the walk's -/
def cr (x : XR) (k : XM → XR) : XR := match x with
  | some (.inr (.inr (.inr (.inr (9, 0)))), V) => k V
  | _ => none
def cv (x : XR) (k : XM → XR) : XR := match x with
  | some (_, V) => k V
  | _ => none
/-- an entry: pc, instruction, length, number, three places, targets -/
abbrev XE : Type := Nat × Instr × Nat × Int × Nat × Nat × Nat × List Nat
abbrev e0 (pc : Nat) (i : Instr) (len : Nat) : XE := (pc, i, len, 0, 0, 0, 0, [])
abbrev e1 (pc : Nat) (i : Instr) (len r : Nat) : XE := (pc, i, len, 0, r, 0, 0, [])
abbrev ec (pc : Nat) (i : Instr) (len : Nat) (c : Int) : XE := (pc, i, len, c, 0, 0, 0, [])
abbrev e3 (pc : Nat) (i : Instr) (len r1 r2 r3 : Nat) : XE := (pc, i, len, 0, r1, r2, r3, [])
abbrev es (pc : Nat) (i : Instr) (len : Nat) (c : Int) (r1 : Nat) (t : List Nat) : XE := (pc, i, len, c, r1, 0, 0, t)
abbrev ei (pc : Nat) (i : Instr) (len : Nat) (c : Int) (r1 r2 r3 mx : Nat) : XE := (pc, i, len, c, r1, r2, r3, [mx])
abbrev ek (pc : Nat) (i : Instr) (len : Nat) (c : Int) (r1 : Nat) : XE := (pc, i, len, c, r1, 0, 0, [])
/-- the world's shape: kind of a group's cells (10 + class an object, 1 int[], 2 long[], 3 boolean[], 4 double[], 5 Shelf[], 6 Table[], 7 the script, 9 nothing), an array's length, what a place of references holds: the group (of an array: at 0), the place in it, the cells in the order in which they come, how many -/
abbrev XW : Type := (Nat → Nat) × (Nat → Int) × (Nat → Nat → Nat) × (Nat → Nat → Nat → Nat) × (Nat → Nat × Nat) × Nat
def xgl {α : Type} (d : α) : List α → Nat → α
  | [], _ => d
  | v :: _, 0 => v
  | _ :: l, k + 1 => xgl d l k
def xg2 {α : Type} (d : α) (L : List (List α)) (k : Nat) : α := xgl d (xgl [] L (k / 16)) (k % 16)
def xmem : List Nat → Nat → Bool
  | [], _ => false
  | a :: l, t => match Nat.beq a t with
    | true => true
    | false => xmem l t
/-- the receiver is of that kind (0: none is asked for) -/
def xrk (w : XW) (st : List XS) (r2 : Nat) : Nat → Bool
  | 0 => true
  | k + 1 => match r2 with
    | 0 => false
    | j + 1 => match xget st j with
      | .inr (.inr (.inr (.inr (g, _)))) => Nat.beq (w.1 g) (k + 1)
      | _ => false
/-- so many are there -/
def xhas : List XS → Nat → Bool
  | _, 0 => true
  | [], _ + 1 => false
  | _ :: l, n + 1 => xhas l n
/-- the arguments have room among the callee's locals -/
def xmx : List Nat → Nat → Bool
  | [mx], k => Nat.ble k mx
  | _, _ => false
def xif (b : Bool) (a : XR) : XR := match b with
  | true => a
  | false => none
def xsw (x lo : Int) (d : Nat) (F : Nat → XR) : List Nat → XR
  | [] => F d
  | t :: l => if x = lo then F t else xsw x (lo + 1) d F l
def xload (w : XW) (g i : Nat) (k : Nat) (j : Int) (K : Int → XR) (V : XM) : XR := xif (Nat.beq (w.1 g) k) (if 0 ≤ j ∧ j < w.2.1 g then K (V g i j.toNat) else none)
def xnew (w : XW) (V : XM) (k : Nat) (c : Int) (K : Nat → Nat → XM → XR) : XR :=
  match w.2.2.2.2.1 (V 0 0 0).toNat with
  | (g, i) => xif (Nat.blt (V 0 0 0).toNat w.2.2.2.2.2) (xif (Nat.beq (w.1 g) k) (xif (decide (w.2.1 g = c)) (K g i (xz V g i (V 0 0 0).toNat))))
def o_il (r1 : Nat) (K : List XS → List XS → XM → XR) (ls st : List XS) (V : XM) : XR := match xget ls r1 with | .inl x => K ls (xi x :: st) V | _ => none
def o_ll (r1 : Nat) (K : List XS → List XS → XM → XR) (ls st : List XS) (V : XM) : XR := match xget ls r1 with | .inr (.inl x) => K ls (xl x :: st) V | _ => none
def o_al (r1 : Nat) (K : List XS → List XS → XM → XR) (ls st : List XS) (V : XM) : XR := match xget ls r1 with | .inr (.inr (.inr (.inr (g, i)))) => (match g with | 0 => none | g + 1 => K ls (xr (g + 1) i :: st) V) | _ => none
def o_is (r1 : Nat) (K : List XS → List XS → XM → XR) (ls st : List XS) (V : XM) : XR := match st with | .inl x :: st => xif (xok1 ls r1) (xsetK ls r1 (xi x) (fun ls => K ls st V)) | _ => none
def o_ls (r1 : Nat) (K : List XS → List XS → XM → XR) (ls st : List XS) (V : XM) : XR := match st with | .inr (.inl x) :: st => xif (xok1 ls r1) (xsetK ls r1 (xl x) (fun ls => xsetK ls (r1 + 1) (xr 0 0) (fun ls => K ls st V))) | _ => none
def o_as (r1 : Nat) (K : List XS → List XS → XM → XR) (ls st : List XS) (V : XM) : XR := match st with | .inr (.inr (.inr (.inr (g, i)))) :: st => (match g with | 0 => none | g + 1 => xif (xok1 ls r1) (xsetK ls r1 (xr (g + 1) i) (fun ls => K ls st V))) | _ => none
def o_inc (r1 : Nat) (c : Int) (K : List XS → List XS → XM → XR) (ls st : List XS) (V : XM) : XR := match xget ls r1 with | .inl x => xif (xok1 ls r1) (xsetK ls r1 (xi (w32 (x + c))) (fun ls => K ls st V)) | _ => none
def o_dup  (K : List XS → List XS → XM → XR) (ls st : List XS) (V : XM) : XR := match st with | .inl x :: st => K ls (xi x :: xi x :: st) V | .inr (.inr (.inr (.inr (g, i)))) :: st => K ls (xr g i :: xr g i :: st) V | _ => none
def o_dup2  (K : List XS → List XS → XM → XR) (ls st : List XS) (V : XM) : XR := match st with | .inl y :: .inr (.inr (.inr (.inr (g, i)))) :: st => K ls (xi y :: xr g i :: xi y :: xr g i :: st) V | _ => none
def o_dupx  (K : List XS → List XS → XM → XR) (ls st : List XS) (V : XM) : XR := match st with | .inl y :: .inr (.inr (.inr (.inr (g, i)))) :: st => K ls (xi y :: xr g i :: xi y :: st) V | _ => none
def o_pop  (K : List XS → List XS → XM → XR) (ls st : List XS) (V : XM) : XR := match st with | .inl _ :: st => K ls st V | _ => none
def o_i2 (f : Int → Int → Int) (K : List XS → List XS → XM → XR) (ls st : List XS) (V : XM) : XR := match st with | .inl y :: .inl x :: st => K ls (xi (f x y) :: st) V | _ => none
def o_div (f : Int → Int → Int) (K : List XS → List XS → XM → XR) (ls st : List XS) (V : XM) : XR := match st with | .inl y :: .inl x :: st => (if y = 0 then none else K ls (xi (f x y) :: st) V) | _ => none
def o_i1 (f : Int → Int) (K : List XS → List XS → XM → XR) (ls st : List XS) (V : XM) : XR := match st with | .inl x :: st => K ls (xi (f x) :: st) V | _ => none
def o_l2 (f : Int → Int → Int) (K : List XS → List XS → XM → XR) (ls st : List XS) (V : XM) : XR := match st with | .inr (.inl y) :: .inr (.inl x) :: st => K ls (xl (f x y) :: st) V | _ => none
def o_ldiv  (K : List XS → List XS → XM → XR) (ls st : List XS) (V : XM) : XR := match st with | .inr (.inl y) :: .inr (.inl x) :: st => (if y = 0 then none else K ls (xl (w64 (Int.tdiv x y)) :: st) V) | _ => none
def o_lsh (f : Int → Int → Int) (K : List XS → List XS → XM → XR) (ls st : List XS) (V : XM) : XR := match st with | .inl y :: .inr (.inl x) :: st => K ls (xl (f x y) :: st) V | _ => none
def o_lcmp  (K : List XS → List XS → XM → XR) (ls st : List XS) (V : XM) : XR := match st with | .inr (.inl y) :: .inr (.inl x) :: st => K ls (xi (cmp3 x y) :: st) V | _ => none
def o_i2l  (K : List XS → List XS → XM → XR) (ls st : List XS) (V : XM) : XR := match st with | .inl x :: st => K ls (xl x :: st) V | _ => none
def o_l2i  (K : List XS → List XS → XM → XR) (ls st : List XS) (V : XM) : XR := match st with | .inr (.inl x) :: st => K ls (xi (w32 x) :: st) V | _ => none
def o_l2f  (K : List XS → List XS → XM → XR) (ls st : List XS) (V : XM) : XR := match st with | .inr (.inl x) :: st => K ls (xf (fL2F x) :: st) V | _ => none
def o_l2d  (K : List XS → List XS → XM → XR) (ls st : List XS) (V : XM) : XR := match st with | .inr (.inl x) :: st => K ls (xd (fL2D x) :: st) V | _ => none
def o_f2l  (K : List XS → List XS → XM → XR) (ls st : List XS) (V : XM) : XR := match st with | .inr (.inr (.inl x)) :: st => K ls (xl (fF2L x) :: st) V | _ => none
def o_d2l  (K : List XS → List XS → XM → XR) (ls st : List XS) (V : XM) : XR := match st with | .inr (.inr (.inr (.inl x))) :: st => K ls (xl (fD2L x) :: st) V | _ => none
def o_f2d  (K : List XS → List XS → XM → XR) (ls st : List XS) (V : XM) : XR := match st with | .inr (.inr (.inl x)) :: st => (if fNum (fF2D x) = true then K ls (xd (fF2D x) :: st) V else none) | _ => none
def o_dcmp (op : CmpOp) (K : List XS → List XS → XM → XR) (ls st : List XS) (V : XM) : XR := match st with | .inr (.inr (.inr (.inl y))) :: .inr (.inr (.inr (.inl x))) :: st => K ls (xi (fDcmp op x y) :: st) V | _ => none
def o_gf (w : XW) (md : Bool) (r1 r2 r3 : Nat) (K : List XS → List XS → XM → XR) (ls st : List XS) (V : XM) : XR := match st with | .inr (.inr (.inr (.inr (g, i)))) :: st => xif (Nat.beq (w.1 g) r1) (match r3 with | 0 => K ls (xi (V g i r2) :: st) V | _ + 1 => (match md with | true => (if V g i r2 = 1 then K ls (xr (w.2.2.1 g r2) (w.2.2.2.1 g i r2) :: st) V else none) | false => K ls (xr (w.2.2.1 g r2) (w.2.2.2.1 g i r2) :: st) V)) | _ => none
def o_pf (w : XW) (md : Bool) (r1 r2 r3 : Nat) (K : List XS → List XS → XM → XR) (ls st : List XS) (V : XM) : XR := match r3 with | 0 => (match st with | .inl x :: .inr (.inr (.inr (.inr (g, i)))) :: st => xif (Nat.beq (w.1 g) r1) (K ls st (xu V g i r2 x)) | _ => none) | _ + 1 => (match st with | .inr (.inr (.inr (.inr (a, b)))) :: .inr (.inr (.inr (.inr (g, i)))) :: st => xif md (xif (Nat.beq (w.1 g) r1) (if w.2.2.1 g r2 = a ∧ w.2.2.2.1 g i r2 = b ∧ a ≠ 0 then K ls st (xu V g i r2 1) else none)) | _ => none)
def o_iald (w : XW) (K : List XS → List XS → XM → XR) (ls st : List XS) (V : XM) : XR := match st with | .inl j :: .inr (.inr (.inr (.inr (g, i)))) :: st => (match g with | 1 => (if 0 ≤ j ∧ j < V 1 1 0 then K ls (xi (V 1 0 j.toNat) :: st) V else none) | g => xload w g i 1 j (fun x => K ls (xi x :: st) V) V) | _ => none
def o_bald (w : XW) (K : List XS → List XS → XM → XR) (ls st : List XS) (V : XM) : XR := match st with | .inl j :: .inr (.inr (.inr (.inr (g, i)))) :: st => xload w g i 3 j (fun x => K ls (xi x :: st) V) V | _ => none
def o_lald (w : XW) (K : List XS → List XS → XM → XR) (ls st : List XS) (V : XM) : XR := match st with | .inl j :: .inr (.inr (.inr (.inr (g, i)))) :: st => xload w g i 2 j (fun x => K ls (xl x :: st) V) V | _ => none
def o_dald (w : XW) (K : List XS → List XS → XM → XR) (ls st : List XS) (V : XM) : XR := match st with | .inl j :: .inr (.inr (.inr (.inr (g, i)))) :: st => xload w g i 4 j (fun x => K ls (xd x :: st) V) V | _ => none
def o_aald (w : XW) (md : Bool) (r1 : Nat) (K : List XS → List XS → XM → XR) (ls st : List XS) (V : XM) : XR := match st with | .inl j :: .inr (.inr (.inr (.inr (g, i)))) :: st => xload w g i r1 j (fun x => (match md with | true => (if x = 1 then K ls (xr (w.2.2.1 g 0) (w.2.2.2.1 g i j.toNat) :: st) V else none) | false => K ls (xr (w.2.2.1 g 0) (w.2.2.2.1 g i j.toNat) :: st) V)) V | _ => none
def o_iast (w : XW) (K : List XS → List XS → XM → XR) (ls st : List XS) (V : XM) : XR := match st with | .inl x :: .inl j :: .inr (.inr (.inr (.inr (g, i)))) :: st => xload w g i 1 j (fun _ => K ls st (xu V g i j.toNat x)) V | _ => none
def o_bast (w : XW) (K : List XS → List XS → XM → XR) (ls st : List XS) (V : XM) : XR := match st with | .inl x :: .inl j :: .inr (.inr (.inr (.inr (g, i)))) :: st => xload w g i 3 j (fun _ => K ls st (xu V g i j.toNat (x % 2))) V | _ => none
def o_last (w : XW) (K : List XS → List XS → XM → XR) (ls st : List XS) (V : XM) : XR := match st with | .inr (.inl x) :: .inl j :: .inr (.inr (.inr (.inr (g, i)))) :: st => xload w g i 2 j (fun _ => K ls st (xu V g i j.toNat x)) V | _ => none
def o_dast (w : XW) (K : List XS → List XS → XM → XR) (ls st : List XS) (V : XM) : XR := match st with | .inr (.inr (.inr (.inl x))) :: .inl j :: .inr (.inr (.inr (.inr (g, i)))) :: st => xload w g i 4 j (fun _ => K ls st (xu V g i j.toNat x)) V | _ => none
def o_aast (w : XW) (md : Bool) (r1 r2 : Nat) (K : List XS → List XS → XM → XR) (ls st : List XS) (V : XM) : XR := match st with | .inr (.inr (.inr (.inr (a, b)))) :: .inl j :: .inr (.inr (.inr (.inr (g, i)))) :: st => xif md (xload w g i r1 j (fun _ => (if w.2.2.1 g 0 = a ∧ w.2.2.2.1 g i j.toNat = b ∧ w.1 a = r2 ∧ a ≠ 0 then K ls st (xu V g i j.toNat 1) else none)) V) | _ => none
def o_alen  (K : List XS → List XS → XM → XR) (ls st : List XS) (V : XM) : XR := match st with | .inr (.inr (.inr (.inr (1, _)))) :: st => K ls (xi (V 1 1 0) :: st) V | _ => none
def o_new (w : XW) (md : Bool) (r1 : Nat) (K : List XS → List XS → XM → XR) (ls st : List XS) (V : XM) : XR := xif md (xnew w V r1 0 (fun g i V => K ls (xr g i :: st) V))
def o_newa (w : XW) (md : Bool) (r1 : Nat) (K : List XS → List XS → XM → XR) (ls st : List XS) (V : XM) : XR := match st with | .inl x :: st => xif md (xnew w V r1 x (fun g i V => K ls (xr g i :: st) V)) | _ => none
def o_inv (w : XW) (C : Nat → List XS → XM → XR) (rk r1 r2 r3 : Nat) (tg : List Nat) (K : List XS → List XS → XM → XR) (ls st : List XS) (V : XM) : XR := xif (xrk w st r2 rk && xnos (xtk r2 st) && xmx tg (xsum (xtk r2 st)) && xhas st r2) (xif (Nat.ble (xsum (xdp r2 st)) 8) (match r3 with | 0 => ci (C r1 (xrv (xtk r2 st) []) V) (fun x V => K ls (xi x :: xdp r2 st) V) | 1 => cl (C r1 (xrv (xtk r2 st) []) V) (fun x V => K ls (xl x :: xdp r2 st) V) | 2 => cr (C r1 (xrv (xtk r2 st) []) V) (fun V => K ls (xr 9 0 :: xdp r2 st) V) | 3 => cv (C r1 (xrv (xtk r2 st) []) V) (fun V => K ls (xdp r2 st) V) | 8 => (match st with | .inl y :: .inl x :: st => K ls (xi (if x < y then y else x) :: st) V | _ => none) | _ => (match st with | .inr (.inr (.inr (.inr (g, _)))) :: st => (match g with | 0 => none | _ + 1 => K ls st V) | _ => none)))
def o_iret (r1 : Nat) (K : List XS → List XS → XM → XR) (ls st : List XS) (V : XM) : XR := match st with | [.inl x] => (match r1 with | 0 => some (xi x, V) | _ + 1 => (if x = 0 ∨ x = 1 then some (xi x, V) else none)) | _ => none
def o_lret  (K : List XS → List XS → XM → XR) (ls st : List XS) (V : XM) : XR := match st with | [.inr (.inl x)] => some (xl x, V) | _ => none
def o_aret  (K : List XS → List XS → XM → XR) (ls st : List XS) (V : XM) : XR := match st with | [.inr (.inr (.inr (.inr (g, i))))] => (match g with | 0 => none | g + 1 => some (xr (g + 1) i, V)) | _ => none
def o_vret  (K : List XS → List XS → XM → XR) (ls st : List XS) (V : XM) : XR := match st with | [] => some (xi 0, V) | _ => none
def o_ifeq (F : Nat → List XS → List XS → XM → XR) (r1 : Nat) (K : List XS → List XS → XM → XR) (ls st : List XS) (V : XM) : XR := match st with | .inl x :: st => (if x = 0 then F r1 ls st V else K ls st V) | _ => none
def o_ifne (F : Nat → List XS → List XS → XM → XR) (r1 : Nat) (K : List XS → List XS → XM → XR) (ls st : List XS) (V : XM) : XR := match st with | .inl x :: st => (if x = 0 then K ls st V else F r1 ls st V) | _ => none
def o_iflt (F : Nat → List XS → List XS → XM → XR) (r1 : Nat) (K : List XS → List XS → XM → XR) (ls st : List XS) (V : XM) : XR := match st with | .inl x :: st => (if x < 0 then F r1 ls st V else K ls st V) | _ => none
def o_ifge (F : Nat → List XS → List XS → XM → XR) (r1 : Nat) (K : List XS → List XS → XM → XR) (ls st : List XS) (V : XM) : XR := match st with | .inl x :: st => (if x < 0 then K ls st V else F r1 ls st V) | _ => none
def o_ifgt (F : Nat → List XS → List XS → XM → XR) (r1 : Nat) (K : List XS → List XS → XM → XR) (ls st : List XS) (V : XM) : XR := match st with | .inl x :: st => (if 0 < x then F r1 ls st V else K ls st V) | _ => none
def o_ifle (F : Nat → List XS → List XS → XM → XR) (r1 : Nat) (K : List XS → List XS → XM → XR) (ls st : List XS) (V : XM) : XR := match st with | .inl x :: st => (if 0 < x then K ls st V else F r1 ls st V) | _ => none
def o_iceq (F : Nat → List XS → List XS → XM → XR) (r1 : Nat) (K : List XS → List XS → XM → XR) (ls st : List XS) (V : XM) : XR := match st with | .inl y :: .inl x :: st => (if x = y then F r1 ls st V else K ls st V) | _ => none
def o_icne (F : Nat → List XS → List XS → XM → XR) (r1 : Nat) (K : List XS → List XS → XM → XR) (ls st : List XS) (V : XM) : XR := match st with | .inl y :: .inl x :: st => (if x = y then K ls st V else F r1 ls st V) | _ => none
def o_iclt (F : Nat → List XS → List XS → XM → XR) (r1 : Nat) (K : List XS → List XS → XM → XR) (ls st : List XS) (V : XM) : XR := match st with | .inl y :: .inl x :: st => (if x < y then F r1 ls st V else K ls st V) | _ => none
def o_icge (F : Nat → List XS → List XS → XM → XR) (r1 : Nat) (K : List XS → List XS → XM → XR) (ls st : List XS) (V : XM) : XR := match st with | .inl y :: .inl x :: st => (if x < y then K ls st V else F r1 ls st V) | _ => none
def o_icgt (F : Nat → List XS → List XS → XM → XR) (r1 : Nat) (K : List XS → List XS → XM → XR) (ls st : List XS) (V : XM) : XR := match st with | .inl y :: .inl x :: st => (if y < x then F r1 ls st V else K ls st V) | _ => none
def o_icle (F : Nat → List XS → List XS → XM → XR) (r1 : Nat) (K : List XS → List XS → XM → XR) (ls st : List XS) (V : XM) : XR := match st with | .inl y :: .inl x :: st => (if y < x then K ls st V else F r1 ls st V) | _ => none
def o_sw (F : Nat → List XS → List XS → XM → XR) (r1 : Nat) (c : Int) (tg : List Nat) (K : List XS → List XS → XM → XR) (ls st : List XS) (V : XM) : XR := match st with | .inl x :: st => xsw x c r1 (fun t => F t ls st V) tg | _ => none
/-- one instruction: F goes to another place of the method, C calls, K goes on behind it; md: while the world is being made -/
def xins (w : XW) (md : Bool) (F : Nat → List XS → List XS → XM → XR) (C : Nat → List XS → XM → XR) (K : List XS → List XS → XM → XR) (ins : Instr) (c : Int) (r1 r2 r3 : Nat) (tg : List Nat) (ls st : List XS) (V : XM) : XR :=
  match ins with
  | .iload _ | .iload_n _ => o_il r1 K ls st V
  | .lload _ | .lload_n _ => o_ll r1 K ls st V
  | .aload _ | .aload_n _ => o_al r1 K ls st V
  | .istore _ | .istore_n _ => o_is r1 K ls st V
  | .lstore _ | .lstore_n _ => o_ls r1 K ls st V
  | .astore _ | .astore_n _ => o_as r1 K ls st V
  | .iinc _ _ => o_inc r1 c K ls st V
  | .iconst _ | .bipush _ | .sipush _ => K ls (xi c :: st) V
  | .lconst _ | .ldc2_w _ => K ls (xl c :: st) V
  | .dconst _ => K ls (xd c :: st) V
  | .dup => o_dup K ls st V
  | .dup2 => o_dup2 K ls st V
  | .dup_x1 => o_dupx K ls st V
  | .pop => o_pop K ls st V
  | .iadd => o_i2 (fun x y => w32 (x + y)) K ls st V
  | .isub => o_i2 (fun x y => w32 (x - y)) K ls st V
  | .imul => o_i2 (fun x y => w32 (x * y)) K ls st V
  | .idiv => o_div (fun x y => w32 (Int.tdiv x y)) K ls st V
  | .irem => o_div Int.tmod K ls st V
  | .ineg => o_i1 (fun x => w32 (-x)) K ls st V
  | .iand => o_i2 iAnd K ls st V
  | .ior => o_i2 iOr K ls st V
  | .ixor => o_i2 iXor K ls st V
  | .ladd => o_l2 (fun x y => w64 (x + y)) K ls st V
  | .lsub => o_l2 (fun x y => w64 (x - y)) K ls st V
  | .lmul => o_l2 (fun x y => w64 (x * y)) K ls st V
  | .ldiv => o_ldiv K ls st V
  | .land => o_l2 lAnd K ls st V
  | .lor => o_l2 lOr K ls st V
  | .lxor => o_l2 lXor K ls st V
  | .lshl => o_lsh lShl K ls st V
  | .lushr => o_lsh lUshr K ls st V
  | .lcmp => o_lcmp K ls st V
  | .i2l => o_i2l K ls st V
  | .l2i => o_l2i K ls st V
  | .i2b => o_i1 w8 K ls st V
  | .i2s => o_i1 w16 K ls st V
  | .i2c => o_i1 c16 K ls st V
  | .l2f => o_l2f K ls st V
  | .l2d => o_l2d K ls st V
  | .f2l => o_f2l K ls st V
  | .d2l => o_d2l K ls st V
  | .f2d => o_f2d K ls st V
  | .dcmp op => o_dcmp op K ls st V
  | .getfield _ => o_gf w md r1 r2 r3 K ls st V
  | .putfield _ => o_pf w md r1 r2 r3 K ls st V
  | .iaload => o_iald w K ls st V
  | .baload => o_bald w K ls st V
  | .laload => o_lald w K ls st V
  | .daload => o_dald w K ls st V
  | .iastore => o_iast w K ls st V
  | .bastore => o_bast w K ls st V
  | .lastore => o_last w K ls st V
  | .dastore => o_dast w K ls st V
  | .aaload => o_aald w md r1 K ls st V
  | .aastore => o_aast w md r1 r2 K ls st V
  | .arraylength => o_alen K ls st V
  | .new _ => o_new w md r1 K ls st V
  | .newarray _ => o_newa w md r1 K ls st V
  | .anewarray _ => o_newa w md r1 K ls st V
  | .invokevirtual _ | .invokespecial _ | .invokestatic _ => o_inv w C c.toNat r1 r2 r3 tg K ls st V
  | .ireturn => o_iret r1 K ls st V
  | .lreturn => o_lret K ls st V
  | .areturn => o_aret K ls st V
  | .return_ => o_vret K ls st V
  | .goto _ => F r1 ls st V
  | .ifCond .eq _ => o_ifeq F r1 K ls st V
  | .ifCond .ne _ => o_ifne F r1 K ls st V
  | .ifCond .lt _ => o_iflt F r1 K ls st V
  | .ifCond .ge _ => o_ifge F r1 K ls st V
  | .ifCond .gt _ => o_ifgt F r1 K ls st V
  | .ifCond .le _ => o_ifle F r1 K ls st V
  | .if_icmp .eq _ => o_iceq F r1 K ls st V
  | .if_icmp .ne _ => o_icne F r1 K ls st V
  | .if_icmp .lt _ => o_iclt F r1 K ls st V
  | .if_icmp .ge _ => o_icge F r1 K ls st V
  | .if_icmp .gt _ => o_icgt F r1 K ls st V
  | .if_icmp .le _ => o_icle F r1 K ls st V
  | .tableswitch _ _ _ _ => o_sw F r1 c tg K ls st V
  | _ => none
def xone (w : XW) (md : Bool) (F : Nat → List XS → List XS → XM → XR) (C : Nat → List XS → XM → XR) (K : List XS → List XS → XM → XR) (e : XE) (ls st : List XS) (V : XM) : XR :=
  match e with
  | (_, ins, _, c, r1, r2, r3, tg) => xins w md F C K ins c r1 r2 r3 tg ls st V
/-- a block: where it begins, which locals live there, its entries, where it falls through to -/
abbrev XB : Type := Nat × List Bool × List XE × Nat
def xrun (w : XW) (md : Bool) (F : Nat → List XS → List XS → XM → XR) (C : Nat → List XS → XM → XR) (nx : Nat) : List XE → List XS → List XS → XM → XR
  | [], ls, st, V => F nx ls st V
  | e :: l, ls, st, V => xone w md F C (xrun w md F C nx l) e ls st V
def xblk : List XB → Nat → Option XB
  | [], _ => none
  | b :: l, pc => match Nat.beq b.1 pc with
    | true => some b
    | false => xblk l pc
def xmk (B : List XB) (t : Nat) (ls : List XS) : List XS := match xblk B t with
  | some b => xmask b.2.1 ls
  | none => ls
def xmkK (B : List XB) (t : Nat) (ls : List XS) (k : List XS → XR) : XR := match xblk B t with
  | some b => xmaskK b.2.1 ls k
  | none => k ls
def xmac (w : XW) (md : Bool) (B : List XB) (F : Nat → List XS → List XS → XM → XR) (C : Nat → List XS → XM → XR) (pc : Nat) (ls st : List XS) (V : XM) : XR := match xblk B pc with
  | some b => xrun w md (fun t ls st V => xmkK B t ls (fun ls => F t ls st V)) C b.2.2.2 b.2.2.1 ls st V
  | none => none
theorem xsetK_eq (v : XS) : ∀ (ls : List XS) (i : Nat) (k : List XS → XR), xsetK ls i v k = k (xset ls i v) := by
  intro ls
  induction ls with
  | nil => intro i k; rfl
  | cons a l ih =>
    intro i k
    cases i with
    | zero => rfl
    | succ n => exact ih n _
theorem xmaskK_eq : ∀ (b : List Bool) (ls : List XS) (k : List XS → XR), xmaskK b ls k = k (xmask b ls) := by
  intro b
  induction b with
  | nil => intro ls k; cases ls <;> rfl
  | cons a b ih =>
    intro ls k
    cases ls with
    | nil => cases a <;> rfl
    | cons v l => cases a <;> exact ih l _
theorem xpadK_eq : ∀ (n : Nat) (ls : List XS) (k : List XS → XR), xpadK n ls k = k (xpad n ls) := by
  intro n
  induction n with
  | zero => intro ls k; rfl
  | succ n ih =>
    intro ls k
    cases ls with
    | nil => exact ih [] _
    | cons v l => exact ih l _
theorem xmkK_eq (B : List XB) (t : Nat) (ls : List XS) (k : List XS → XR) : xmkK B t ls k = k (xmk B t ls) := by
  unfold xmkK xmk
  cases xblk B t with
  | none => rfl
  | some b => exact xmaskK_eq _ _ _
end
section
/-! the runs of the abstract machine: with fuel, then without -/
/-- one call deeper -/
def xdn (g : Nat → Nat → List XS → XM → XR) : Nat → Nat → List XS → XM → XR
  | 0, _, _, _ => none
  | d + 1, m, as, V => g d m as V
def xex (w : XW) (P : Nat → List XB) (ml : Nat → Nat) (md : Bool) : Nat → Nat → Nat → Nat → List XS → List XS → XM → XR
  | 0, _, _, _, _, _, _ => none
  | f + 1, d, m, pc, ls, st, V => xmac w md (P m) (fun pc ls st V => xex w P ml md f d m pc ls st V) (xdn (fun d m as V => xex w P ml md f d m 0 (xpad (ml m) (xsl as)) [] V) d) pc ls st V
/-- from some fuel on -/
def xev (p : Nat → Prop) : Prop := ∃ f0 : Nat, ∀ f : Nat, f0 ≤ f → p f
theorem xev_of {p : Nat → Prop} (h : ∀ f, p f) : xev p := ⟨0, fun f _ => h f⟩
theorem ci_some {x : XR} {k : Int → XM → XR} {r : XS × XM} (h : ci x k = some r) : ∃ v V, x = some (xi v, V) ∧ k v V = some r := by
  match x, h with
  | some (.inl v, V), h => exact ⟨v, V, rfl, h⟩
theorem cl_some {x : XR} {k : Int → XM → XR} {r : XS × XM} (h : cl x k = some r) : ∃ v V, x = some (xl v, V) ∧ k v V = some r := by
  match x, h with
  | some (.inr (.inl v), V), h => exact ⟨v, V, rfl, h⟩
theorem cr_some {x : XR} {k : XM → XR} {r : XS × XM} (h : cr x k = some r) : ∃ V, x = some (xr 9 0, V) ∧ k V = some r := by
  unfold cr at h
  split at h
  · exact ⟨_, rfl, h⟩
  · cases h
theorem cv_some {x : XR} {k : XM → XR} {r : XS × XM} (h : cv x k = some r) : ∃ v V, x = some (v, V) ∧ k V = some r := by
  match x, h with
  | some (v, V), h => exact ⟨v, V, rfl, h⟩
section
variable {w : XW} {md : Bool} {F : Nat → List XS → List XS → XM → XR} {C : Nat → List XS → XM → XR} {K : List XS → List XS → XM → XR}
  {F' : Nat → Nat → List XS → List XS → XM → XR} {C' : Nat → Nat → List XS → XM → XR} {K' : Nat → List XS → List XS → XM → XR}
theorem xsw_ev {x : Int} {d : Nat} {G : Nat → XR} {G' : Nat → Nat → XR} (hG : ∀ t r, G t = some r → xev fun f => G' f t = some r) {r : XS × XM} : ∀ (l : List Nat) (lo : Int), xsw x lo d G l = some r → xev fun f => xsw x lo d (G' f) l = some r := by
  intro l
  induction l with
  | nil => intro lo h; exact hG d r h
  | cons t l ih =>
    intro lo h
    simp only [xsw] at h ⊢
    split at h
    · rename_i hc
      simp only [hc, if_true]
      exact hG t r h
    · rename_i hc
      simp only [hc, if_false]
      exact ih _ h
theorem xif_some {b : Bool} {a : XR} {r : XS × XM} (h : xif b a = some r) : b = true ∧ a = some r := by
  cases b with
  | true => exact ⟨rfl, h⟩
  | false => cases h
theorem xif_ev {b : Bool} {a : XR} {a' : Nat → XR} (ha : ∀ r, a = some r → xev fun f => a' f = some r) {r : XS × XM} (h : xif b a = some r) : xev fun f => xif b (a' f) = some r := by
  obtain ⟨rfl, h1⟩ := xif_some h
  exact ha _ h1
theorem xite_ev {c : Prop} [Decidable c] {a : XR} {a' : Nat → XR} (ha : ∀ r, a = some r → xev fun f => a' f = some r) {r : XS × XM} (h : (if c then a else none) = some r) : xev fun f => (if c then a' f else none) = some r := by
  split at h
  · rename_i hc
    simp only [hc, if_true]
    exact ha _ h
  · cases h
theorem xload_ev {g i k : Nat} {j : Int} {V : XM} {G : Int → XR} {G' : Nat → Int → XR} (hG : ∀ x r, G x = some r → xev fun f => G' f x = some r) {r : XS × XM} (h : xload w g i k j G V = some r) : xev fun f => xload w g i k j (G' f) V = some r := by
  unfold xload at h ⊢
  refine xif_ev (fun r h => ?_) h
  split at h
  · rename_i h2
    simp only [h2, and_self, if_true]
    exact hG _ r h
  · cases h
theorem xnew_ev {k : Nat} {c : Int} {V : XM} {G : Nat → Nat → XM → XR} {G' : Nat → Nat → Nat → XM → XR} (hG : ∀ g i V r, G g i V = some r → xev fun f => G' f g i V = some r) {r : XS × XM} (h : xnew w V k c G = some r) : xev fun f => xnew w V k c (G' f) = some r := by
  unfold xnew at h ⊢
  exact xif_ev (fun r h => xif_ev (fun r h => xif_ev (fun r h => hG _ _ _ _ h) h) h) h
theorem ci_ev {x : XR} {x' : Nat → XR} {k : Int → XM → XR} {k' : Nat → Int → XM → XR} (hx : ∀ r, x = some r → xev fun f => x' f = some r) (hk : ∀ v V r, k v V = some r → xev fun f => k' f v V = some r) {r : XS × XM} (h : ci x k = some r) : xev fun f => ci (x' f) (k' f) = some r := by
  obtain ⟨v, V, h1, h2⟩ := ci_some h
  obtain ⟨f1, a1⟩ := hx _ h1
  obtain ⟨f2, a2⟩ := hk _ _ _ h2
  refine ⟨max f1 f2, fun f hf => ?_⟩
  show ci (x' f) (k' f) = some r
  rw [show x' f = _ from a1 f (by omega)]
  exact a2 f (by omega)
theorem cl_ev {x : XR} {x' : Nat → XR} {k : Int → XM → XR} {k' : Nat → Int → XM → XR} (hx : ∀ r, x = some r → xev fun f => x' f = some r) (hk : ∀ v V r, k v V = some r → xev fun f => k' f v V = some r) {r : XS × XM} (h : cl x k = some r) : xev fun f => cl (x' f) (k' f) = some r := by
  obtain ⟨v, V, h1, h2⟩ := cl_some h
  obtain ⟨f1, a1⟩ := hx _ h1
  obtain ⟨f2, a2⟩ := hk _ _ _ h2
  refine ⟨max f1 f2, fun f hf => ?_⟩
  show cl (x' f) (k' f) = some r
  rw [show x' f = _ from a1 f (by omega)]
  exact a2 f (by omega)
theorem cr_ev {x : XR} {x' : Nat → XR} {k : XM → XR} {k' : Nat → XM → XR} (hx : ∀ r, x = some r → xev fun f => x' f = some r) (hk : ∀ V r, k V = some r → xev fun f => k' f V = some r) {r : XS × XM} (h : cr x k = some r) : xev fun f => cr (x' f) (k' f) = some r := by
  obtain ⟨V, h1, h2⟩ := cr_some h
  obtain ⟨f1, a1⟩ := hx _ h1
  obtain ⟨f2, a2⟩ := hk _ _ h2
  refine ⟨max f1 f2, fun f hf => ?_⟩
  show cr (x' f) (k' f) = some r
  rw [show x' f = _ from a1 f (by omega)]
  exact a2 f (by omega)
theorem cv_ev {x : XR} {x' : Nat → XR} {k : XM → XR} {k' : Nat → XM → XR} (hx : ∀ r, x = some r → xev fun f => x' f = some r) (hk : ∀ V r, k V = some r → xev fun f => k' f V = some r) {r : XS × XM} (h : cv x k = some r) : xev fun f => cv (x' f) (k' f) = some r := by
  obtain ⟨v, V, h1, h2⟩ := cv_some h
  obtain ⟨f1, a1⟩ := hx _ h1
  obtain ⟨f2, a2⟩ := hk _ _ h2
  refine ⟨max f1 f2, fun f hf => ?_⟩
  show cv (x' f) (k' f) = some r
  rw [show x' f = _ from a1 f (by omega)]
  exact a2 f (by omega)
end
end
section
section
variable {w : XW} {md : Bool} {F : Nat → List XS → List XS → XM → XR} {C : Nat → List XS → XM → XR} {K : List XS → List XS → XM → XR}
  {F' : Nat → Nat → List XS → List XS → XM → XR} {C' : Nat → Nat → List XS → XM → XR} {K' : Nat → List XS → List XS → XM → XR}
set_option maxHeartbeats 4000000 in
theorem xone_ev (hF : ∀ t ls st V r, F t ls st V = some r → xev fun f => F' f t ls st V = some r) (hC : ∀ m as V r, C m as V = some r → xev fun f => C' f m as V = some r) (hK : ∀ ls st V r, K ls st V = some r → xev fun f => K' f ls st V = some r)
    {e : XE} {ls st : List XS} {V : XM} {r : XS × XM} (h : xone w md F C K e ls st V = some r) : xev fun f => xone w md (F' f) (C' f) (K' f) e ls st V = some r := by
  obtain ⟨pc, ins, len, c, r1, r2, r3, tg⟩ := e
  simp only [xone] at h ⊢
  cases ins
  case ifCond cnd off => cases cnd <;> (simp only [xins, xsetK_eq, o_il, o_ll, o_al, o_is, o_ls, o_as, o_inc, o_dup, o_dup2, o_dupx, o_pop, o_i2, o_div, o_i1, o_l2, o_ldiv, o_lsh, o_lcmp, o_i2l, o_l2i, o_l2f, o_l2d, o_f2l, o_d2l, o_f2d, o_dcmp, o_gf, o_pf, o_iald, o_bald, o_lald, o_dald, o_aald, o_iast, o_bast, o_last, o_dast, o_aast, o_alen, o_new, o_newa, o_inv, o_iret, o_lret, o_aret, o_vret, o_ifeq, o_ifne, o_iflt, o_ifge, o_ifgt, o_ifle, o_iceq, o_icne, o_iclt, o_icge, o_icgt, o_icle, o_sw] at h ⊢; (split at h <;> (try (rename_i hc; simp only [hc, if_true, if_false])))) <;> (first | (cases h; done) | exact hK _ _ _ _ h | exact hF _ _ _ _ _ h | exact xev_of (fun _ => h) | exact xsw_ev (fun t r h => hF _ _ _ _ _ h) _ _ h | exact xload_ev (fun x r h => hK _ _ _ _ h) h | exact ci_ev (hC _ _ _) (fun v V r h => hK _ _ _ _ h) h | exact cl_ev (hC _ _ _) (fun v V r h => hK _ _ _ _ h) h | exact cr_ev (hC _ _ _) (fun V r h => hK _ _ _ _ h) h | exact cv_ev (hC _ _ _) (fun V r h => hK _ _ _ _ h) h | exact xif_ev (fun r h => xnew_ev (fun g i V r h => hK _ _ _ _ h) h) h | exact xif_ev (fun r h => hK _ _ _ _ h) h | exact xif_ev (fun r h => xif_ev (fun r h => ci_ev (hC _ _ _) (fun v V r h => hK _ _ _ _ h) h) h) h | exact xif_ev (fun r h => xif_ev (fun r h => cl_ev (hC _ _ _) (fun v V r h => hK _ _ _ _ h) h) h) h | exact xif_ev (fun r h => xif_ev (fun r h => cr_ev (hC _ _ _) (fun V r h => hK _ _ _ _ h) h) h) h | exact xif_ev (fun r h => xif_ev (fun r h => cv_ev (hC _ _ _) (fun V r h => hK _ _ _ _ h) h) h) h | skip) <;> (split at h <;> (try (rename_i hc; simp only [hc, if_true, if_false]))) <;> (first | (cases h; done) | exact hK _ _ _ _ h | exact hF _ _ _ _ _ h | exact xev_of (fun _ => h) | exact xsw_ev (fun t r h => hF _ _ _ _ _ h) _ _ h | exact xload_ev (fun x r h => hK _ _ _ _ h) h | exact ci_ev (hC _ _ _) (fun v V r h => hK _ _ _ _ h) h | exact cl_ev (hC _ _ _) (fun v V r h => hK _ _ _ _ h) h | exact cr_ev (hC _ _ _) (fun V r h => hK _ _ _ _ h) h | exact cv_ev (hC _ _ _) (fun V r h => hK _ _ _ _ h) h | exact xif_ev (fun r h => xnew_ev (fun g i V r h => hK _ _ _ _ h) h) h | exact xif_ev (fun r h => hK _ _ _ _ h) h | exact xif_ev (fun r h => xif_ev (fun r h => ci_ev (hC _ _ _) (fun v V r h => hK _ _ _ _ h) h) h) h | exact xif_ev (fun r h => xif_ev (fun r h => cl_ev (hC _ _ _) (fun v V r h => hK _ _ _ _ h) h) h) h | exact xif_ev (fun r h => xif_ev (fun r h => cr_ev (hC _ _ _) (fun V r h => hK _ _ _ _ h) h) h) h | exact xif_ev (fun r h => xif_ev (fun r h => cv_ev (hC _ _ _) (fun V r h => hK _ _ _ _ h) h) h) h | exact xif_ev (fun r h => xif_ev (fun r h => hK _ _ _ _ h) h) h | skip)
  case if_icmp cnd off => cases cnd <;> (simp only [xins, xsetK_eq, o_il, o_ll, o_al, o_is, o_ls, o_as, o_inc, o_dup, o_dup2, o_dupx, o_pop, o_i2, o_div, o_i1, o_l2, o_ldiv, o_lsh, o_lcmp, o_i2l, o_l2i, o_l2f, o_l2d, o_f2l, o_d2l, o_f2d, o_dcmp, o_gf, o_pf, o_iald, o_bald, o_lald, o_dald, o_aald, o_iast, o_bast, o_last, o_dast, o_aast, o_alen, o_new, o_newa, o_inv, o_iret, o_lret, o_aret, o_vret, o_ifeq, o_ifne, o_iflt, o_ifge, o_ifgt, o_ifle, o_iceq, o_icne, o_iclt, o_icge, o_icgt, o_icle, o_sw] at h ⊢; (split at h <;> (try (rename_i hc; simp only [hc, if_true, if_false])))) <;> (first | (cases h; done) | exact hK _ _ _ _ h | exact hF _ _ _ _ _ h | exact xev_of (fun _ => h) | exact xsw_ev (fun t r h => hF _ _ _ _ _ h) _ _ h | exact xload_ev (fun x r h => hK _ _ _ _ h) h | exact ci_ev (hC _ _ _) (fun v V r h => hK _ _ _ _ h) h | exact cl_ev (hC _ _ _) (fun v V r h => hK _ _ _ _ h) h | exact cr_ev (hC _ _ _) (fun V r h => hK _ _ _ _ h) h | exact cv_ev (hC _ _ _) (fun V r h => hK _ _ _ _ h) h | exact xif_ev (fun r h => xnew_ev (fun g i V r h => hK _ _ _ _ h) h) h | exact xif_ev (fun r h => hK _ _ _ _ h) h | exact xif_ev (fun r h => xif_ev (fun r h => ci_ev (hC _ _ _) (fun v V r h => hK _ _ _ _ h) h) h) h | exact xif_ev (fun r h => xif_ev (fun r h => cl_ev (hC _ _ _) (fun v V r h => hK _ _ _ _ h) h) h) h | exact xif_ev (fun r h => xif_ev (fun r h => cr_ev (hC _ _ _) (fun V r h => hK _ _ _ _ h) h) h) h | exact xif_ev (fun r h => xif_ev (fun r h => cv_ev (hC _ _ _) (fun V r h => hK _ _ _ _ h) h) h) h | skip) <;> (split at h <;> (try (rename_i hc; simp only [hc, if_true, if_false]))) <;> (first | (cases h; done) | exact hK _ _ _ _ h | exact hF _ _ _ _ _ h | exact xev_of (fun _ => h) | exact xsw_ev (fun t r h => hF _ _ _ _ _ h) _ _ h | exact xload_ev (fun x r h => hK _ _ _ _ h) h | exact ci_ev (hC _ _ _) (fun v V r h => hK _ _ _ _ h) h | exact cl_ev (hC _ _ _) (fun v V r h => hK _ _ _ _ h) h | exact cr_ev (hC _ _ _) (fun V r h => hK _ _ _ _ h) h | exact cv_ev (hC _ _ _) (fun V r h => hK _ _ _ _ h) h | exact xif_ev (fun r h => xnew_ev (fun g i V r h => hK _ _ _ _ h) h) h | exact xif_ev (fun r h => hK _ _ _ _ h) h | exact xif_ev (fun r h => xif_ev (fun r h => ci_ev (hC _ _ _) (fun v V r h => hK _ _ _ _ h) h) h) h | exact xif_ev (fun r h => xif_ev (fun r h => cl_ev (hC _ _ _) (fun v V r h => hK _ _ _ _ h) h) h) h | exact xif_ev (fun r h => xif_ev (fun r h => cr_ev (hC _ _ _) (fun V r h => hK _ _ _ _ h) h) h) h | exact xif_ev (fun r h => xif_ev (fun r h => cv_ev (hC _ _ _) (fun V r h => hK _ _ _ _ h) h) h) h | exact xif_ev (fun r h => xif_ev (fun r h => hK _ _ _ _ h) h) h | skip)
  all_goals (simp only [xins, xsetK_eq, o_il, o_ll, o_al, o_is, o_ls, o_as, o_inc, o_dup, o_dup2, o_dupx, o_pop, o_i2, o_div, o_i1, o_l2, o_ldiv, o_lsh, o_lcmp, o_i2l, o_l2i, o_l2f, o_l2d, o_f2l, o_d2l, o_f2d, o_dcmp, o_gf, o_pf, o_iald, o_bald, o_lald, o_dald, o_aald, o_iast, o_bast, o_last, o_dast, o_aast, o_alen, o_new, o_newa, o_inv, o_iret, o_lret, o_aret, o_vret, o_ifeq, o_ifne, o_iflt, o_ifge, o_ifgt, o_ifle, o_iceq, o_icne, o_iclt, o_icge, o_icgt, o_icle, o_sw] at h ⊢)
  all_goals (first | (cases h; done) | exact hK _ _ _ _ h | exact hF _ _ _ _ _ h | exact xev_of (fun _ => h) | exact xsw_ev (fun t r h => hF _ _ _ _ _ h) _ _ h | exact xload_ev (fun x r h => hK _ _ _ _ h) h | exact ci_ev (hC _ _ _) (fun v V r h => hK _ _ _ _ h) h | exact cl_ev (hC _ _ _) (fun v V r h => hK _ _ _ _ h) h | exact cr_ev (hC _ _ _) (fun V r h => hK _ _ _ _ h) h | exact cv_ev (hC _ _ _) (fun V r h => hK _ _ _ _ h) h | exact xif_ev (fun r h => xnew_ev (fun g i V r h => hK _ _ _ _ h) h) h | exact xif_ev (fun r h => hK _ _ _ _ h) h | exact xif_ev (fun r h => xif_ev (fun r h => ci_ev (hC _ _ _) (fun v V r h => hK _ _ _ _ h) h) h) h | exact xif_ev (fun r h => xif_ev (fun r h => cl_ev (hC _ _ _) (fun v V r h => hK _ _ _ _ h) h) h) h | exact xif_ev (fun r h => xif_ev (fun r h => cr_ev (hC _ _ _) (fun V r h => hK _ _ _ _ h) h) h) h | exact xif_ev (fun r h => xif_ev (fun r h => cv_ev (hC _ _ _) (fun V r h => hK _ _ _ _ h) h) h) h | exact xif_ev (fun r h => xif_ev (fun r h => hK _ _ _ _ h) h) h | skip)
  all_goals (first | (split at h <;> (try (rename_i hc; simp only [hc, if_true, if_false]))) | exact xif_ev (fun r h => xif_ev (fun r h => hK _ _ _ _ h) h) h | skip)
  all_goals (first | (cases h; done) | exact hK _ _ _ _ h | exact hF _ _ _ _ _ h | exact xev_of (fun _ => h) | exact xsw_ev (fun t r h => hF _ _ _ _ _ h) _ _ h | exact xload_ev (fun x r h => hK _ _ _ _ h) h | exact ci_ev (hC _ _ _) (fun v V r h => hK _ _ _ _ h) h | exact cl_ev (hC _ _ _) (fun v V r h => hK _ _ _ _ h) h | exact cr_ev (hC _ _ _) (fun V r h => hK _ _ _ _ h) h | exact cv_ev (hC _ _ _) (fun V r h => hK _ _ _ _ h) h | exact xif_ev (fun r h => xnew_ev (fun g i V r h => hK _ _ _ _ h) h) h | exact xif_ev (fun r h => hK _ _ _ _ h) h | exact xif_ev (fun r h => xif_ev (fun r h => ci_ev (hC _ _ _) (fun v V r h => hK _ _ _ _ h) h) h) h | exact xif_ev (fun r h => xif_ev (fun r h => cl_ev (hC _ _ _) (fun v V r h => hK _ _ _ _ h) h) h) h | exact xif_ev (fun r h => xif_ev (fun r h => cr_ev (hC _ _ _) (fun V r h => hK _ _ _ _ h) h) h) h | exact xif_ev (fun r h => xif_ev (fun r h => cv_ev (hC _ _ _) (fun V r h => hK _ _ _ _ h) h) h) h | exact xif_ev (fun r h => xif_ev (fun r h => hK _ _ _ _ h) h) h | skip)
  all_goals (first | (split at h <;> (try (rename_i hc; simp only [hc, if_true, if_false]))) | exact xif_ev (fun r h => xif_ev (fun r h => hK _ _ _ _ h) h) h | skip)
  all_goals (first | (cases h; done) | exact hK _ _ _ _ h | exact hF _ _ _ _ _ h | exact xev_of (fun _ => h) | exact xsw_ev (fun t r h => hF _ _ _ _ _ h) _ _ h | exact xload_ev (fun x r h => hK _ _ _ _ h) h | exact ci_ev (hC _ _ _) (fun v V r h => hK _ _ _ _ h) h | exact cl_ev (hC _ _ _) (fun v V r h => hK _ _ _ _ h) h | exact cr_ev (hC _ _ _) (fun V r h => hK _ _ _ _ h) h | exact cv_ev (hC _ _ _) (fun V r h => hK _ _ _ _ h) h | exact xif_ev (fun r h => xnew_ev (fun g i V r h => hK _ _ _ _ h) h) h | exact xif_ev (fun r h => hK _ _ _ _ h) h | exact xif_ev (fun r h => xif_ev (fun r h => ci_ev (hC _ _ _) (fun v V r h => hK _ _ _ _ h) h) h) h | exact xif_ev (fun r h => xif_ev (fun r h => cl_ev (hC _ _ _) (fun v V r h => hK _ _ _ _ h) h) h) h | exact xif_ev (fun r h => xif_ev (fun r h => cr_ev (hC _ _ _) (fun V r h => hK _ _ _ _ h) h) h) h | exact xif_ev (fun r h => xif_ev (fun r h => cv_ev (hC _ _ _) (fun V r h => hK _ _ _ _ h) h) h) h | exact xif_ev (fun r h => xif_ev (fun r h => hK _ _ _ _ h) h) h | skip)
  all_goals (first | (split at h <;> (try (rename_i hc; simp only [hc, if_true, if_false]))) | exact xif_ev (fun r h => xif_ev (fun r h => hK _ _ _ _ h) h) h | skip)
  all_goals (first | (cases h; done) | exact hK _ _ _ _ h | exact hF _ _ _ _ _ h | exact xev_of (fun _ => h) | exact xsw_ev (fun t r h => hF _ _ _ _ _ h) _ _ h | exact xload_ev (fun x r h => hK _ _ _ _ h) h | exact ci_ev (hC _ _ _) (fun v V r h => hK _ _ _ _ h) h | exact cl_ev (hC _ _ _) (fun v V r h => hK _ _ _ _ h) h | exact cr_ev (hC _ _ _) (fun V r h => hK _ _ _ _ h) h | exact cv_ev (hC _ _ _) (fun V r h => hK _ _ _ _ h) h | exact xif_ev (fun r h => xnew_ev (fun g i V r h => hK _ _ _ _ h) h) h | exact xif_ev (fun r h => hK _ _ _ _ h) h | exact xif_ev (fun r h => xif_ev (fun r h => ci_ev (hC _ _ _) (fun v V r h => hK _ _ _ _ h) h) h) h | exact xif_ev (fun r h => xif_ev (fun r h => cl_ev (hC _ _ _) (fun v V r h => hK _ _ _ _ h) h) h) h | exact xif_ev (fun r h => xif_ev (fun r h => cr_ev (hC _ _ _) (fun V r h => hK _ _ _ _ h) h) h) h | exact xif_ev (fun r h => xif_ev (fun r h => cv_ev (hC _ _ _) (fun V r h => hK _ _ _ _ h) h) h) h | exact xif_ev (fun r h => xif_ev (fun r h => hK _ _ _ _ h) h) h | skip)
  all_goals (first | (split at h <;> (try (rename_i hc; simp only [hc, if_true, if_false]))) | exact xif_ev (fun r h => xif_ev (fun r h => hK _ _ _ _ h) h) h | skip)
  all_goals (first | (cases h; done) | exact hK _ _ _ _ h | exact hF _ _ _ _ _ h | exact xev_of (fun _ => h) | exact xsw_ev (fun t r h => hF _ _ _ _ _ h) _ _ h | exact xload_ev (fun x r h => hK _ _ _ _ h) h | exact ci_ev (hC _ _ _) (fun v V r h => hK _ _ _ _ h) h | exact cl_ev (hC _ _ _) (fun v V r h => hK _ _ _ _ h) h | exact cr_ev (hC _ _ _) (fun V r h => hK _ _ _ _ h) h | exact cv_ev (hC _ _ _) (fun V r h => hK _ _ _ _ h) h | exact xif_ev (fun r h => xnew_ev (fun g i V r h => hK _ _ _ _ h) h) h | exact xif_ev (fun r h => hK _ _ _ _ h) h | exact xif_ev (fun r h => xif_ev (fun r h => ci_ev (hC _ _ _) (fun v V r h => hK _ _ _ _ h) h) h) h | exact xif_ev (fun r h => xif_ev (fun r h => cl_ev (hC _ _ _) (fun v V r h => hK _ _ _ _ h) h) h) h | exact xif_ev (fun r h => xif_ev (fun r h => cr_ev (hC _ _ _) (fun V r h => hK _ _ _ _ h) h) h) h | exact xif_ev (fun r h => xif_ev (fun r h => cv_ev (hC _ _ _) (fun V r h => hK _ _ _ _ h) h) h) h | exact xif_ev (fun r h => xif_ev (fun r h => hK _ _ _ _ h) h) h | skip)
  all_goals (first | exact xload_ev (fun x r h => xite_ev (fun r h => hK _ _ _ _ h) h) h | exact xif_ev (fun r h => xif_ev (fun r h => hK _ _ _ _ h) h) h | skip)
  all_goals (try simp only [hc.2, ne_eq, not_false_eq_true, and_self, if_true])
  all_goals (first | exact xif_ev (fun r h => xif_ev (fun r h => hK _ _ _ _ h) h) h | exact xif_ev (fun r h => xload_ev (fun x r h => hK _ _ _ _ h) h) h | exact xif_ev (fun r h => xif_ev (fun r h => hK _ _ _ _ h) h) h | skip)
theorem xrun_ev (nx : Nat) (hF : ∀ t ls st V r, F t ls st V = some r → xev fun f => F' f t ls st V = some r) (hC : ∀ m as V r, C m as V = some r → xev fun f => C' f m as V = some r) :
    ∀ (l : List XE) (ls st : List XS) (V : XM) (r : XS × XM), xrun w md F C nx l ls st V = some r → xev fun f => xrun w md (F' f) (C' f) nx l ls st V = some r := by
  intro l
  induction l with
  | nil => intro ls st V r h; exact hF _ _ _ _ _ h
  | cons e l ih =>
    intro ls st V r h
    simp only [xrun] at h ⊢
    exact xone_ev hF hC ih h
theorem xmac_ev (B : List XB) (hF : ∀ t ls st V r, F t ls st V = some r → xev fun f => F' f t ls st V = some r) (hC : ∀ m as V r, C m as V = some r → xev fun f => C' f m as V = some r)
    {pc : Nat} {ls st : List XS} {V : XM} {r : XS × XM} (h : xmac w md B F C pc ls st V = some r) : xev fun f => xmac w md B (F' f) (C' f) pc ls st V = some r := by
  unfold xmac at h ⊢
  cases hb : xblk B pc with
  | none => rw [hb] at h; cases h
  | some b =>
    rw [hb] at h
    dsimp only at h ⊢
    simp only [xmkK_eq] at h ⊢
    exact xrun_ev _ (fun t ls st V r h => hF _ _ _ _ _ h) hC _ _ _ _ _ h
end
section
variable {w : XW} {P : Nat → List XB} {ml : Nat → Nat} {md : Bool}
theorem xev_const {p : Prop} (h : xev fun _ => p) : p := h.elim fun f0 a => a f0 (Nat.le_refl _)
theorem xex_succ : ∀ (f d m pc : Nat) (ls st : List XS) (V : XM) (r : XS × XM), xex w P ml md f d m pc ls st V = some r → xex w P ml md (f + 1) d m pc ls st V = some r := by
  intro f
  induction f with
  | zero => intro d m pc ls st V r h; simp only [xex] at h; cases h
  | succ f ih =>
    intro d m pc ls st V r h
    refine xev_const (xmac_ev (P m) (F' := fun _ pc ls st V => xex w P ml md (f + 1) d m pc ls st V) (C' := fun _ => xdn (fun d m as V => xex w P ml md (f + 1) d m 0 (xpad (ml m) (xsl as)) [] V) d) (fun t ls st V r h => xev_of fun _ => ih _ _ _ _ _ _ _ h) (fun m as V r h => xev_of fun _ => ?_) (show xmac w md (P m) _ _ pc ls st V = some r from h))
    cases d with
    | zero => cases h
    | succ d => exact ih _ _ _ _ _ _ _ h
theorem xex_le {f f' : Nat} (hf : f ≤ f') {d m pc : Nat} {ls st : List XS} {V : XM} {r : XS × XM} (h : xex w P ml md f d m pc ls st V = some r) : xex w P ml md f' d m pc ls st V = some r := by
  induction hf with
  | refl => exact h
  | step _ ih => exact xex_succ _ _ _ _ _ _ _ _ ih
end
/-- the run without fuel: what some fuel gives -/
noncomputable def Xx (w : XW) (P : Nat → List XB) (ml : Nat → Nat) (md : Bool) (d m pc : Nat) (ls st : List XS) (V : XM) : XR :=
  @dite XR (∃ (f : Nat) (r : XS × XM), xex w P ml md f d m pc ls st V = some r) (Classical.propDecidable _) (fun h => some h.choose_spec.choose) (fun _ => none)
noncomputable def Xc (w : XW) (P : Nat → List XB) (ml : Nat → Nat) (md : Bool) (d m : Nat) (as : List XS) (V : XM) : XR := xdn (fun d m as V => Xx w P ml md d m 0 (xpad (ml m) (xsl as)) [] V) d m as V
section
variable {w : XW} {P : Nat → List XB} {ml : Nat → Nat} {md : Bool}
theorem Xx_of {f d m pc : Nat} {ls st : List XS} {V : XM} {r : XS × XM} (h : xex w P ml md f d m pc ls st V = some r) : Xx w P ml md d m pc ls st V = some r := by
  have hex : ∃ (f : Nat) (r : XS × XM), xex w P ml md f d m pc ls st V = some r := ⟨f, r, h⟩
  unfold Xx
  rw [dif_pos hex]
  have h1 := hex.choose_spec.choose_spec
  have h2 := xex_le (Nat.le_max_left hex.choose f) h1
  have h3 := xex_le (Nat.le_max_right hex.choose f) h
  exact h2.symm.trans h3
theorem Xx_some {d m pc : Nat} {ls st : List XS} {V : XM} {r : XS × XM} (h : Xx w P ml md d m pc ls st V = some r) : ∃ f, xex w P ml md f d m pc ls st V = some r := by
  unfold Xx at h
  split at h
  · rename_i hex
    cases h
    exact ⟨_, hex.choose_spec.choose_spec⟩
  · cases h
theorem Xx_ev {d m pc : Nat} {ls st : List XS} {V : XM} {r : XS × XM} (h : Xx w P ml md d m pc ls st V = some r) : xev fun f => xex w P ml md f d m pc ls st V = some r := by
  obtain ⟨f, hf⟩ := Xx_some h
  exact ⟨f, fun f' h' => xex_le h' hf⟩
theorem Xc_of {f d m : Nat} {as : List XS} {V : XM} {r : XS × XM} (h : xdn (fun d m as V => xex w P ml md f d m 0 (xpad (ml m) (xsl as)) [] V) d m as V = some r) : Xc w P ml md d m as V = some r := by
  cases d with
  | zero => cases h
  | succ d => exact Xx_of h
theorem Xc_ev {d m : Nat} {as : List XS} {V : XM} {r : XS × XM} (h : Xc w P ml md d m as V = some r) : xev fun f => xdn (fun d m as V => xex w P ml md f d m 0 (xpad (ml m) (xsl as)) [] V) d m as V = some r := by
  cases d with
  | zero => cases h
  | succ d => exact Xx_ev h
/-- THE EQUATION of a run: a block, then on -/
theorem Xx_eq (d m pc : Nat) (ls st : List XS) (V : XM) : Xx w P ml md d m pc ls st V = xmac w md (P m) (Xx w P ml md d m) (Xc w P ml md d) pc ls st V := by
  have key : ∀ r, Xx w P ml md d m pc ls st V = some r ↔ xmac w md (P m) (Xx w P ml md d m) (Xc w P ml md d) pc ls st V = some r := by
    intro r
    constructor
    · intro h
      obtain ⟨f, hf⟩ := Xx_some h
      cases f with
      | zero => simp only [xex] at hf; cases hf
      | succ f => exact xev_const (xmac_ev (P m) (F' := fun _ => Xx w P ml md d m) (C' := fun _ => Xc w P ml md d) (fun t ls st V r h => xev_of fun _ => Xx_of h) (fun m as V r h => xev_of fun _ => Xc_of h) (show xmac w md (P m) _ _ pc ls st V = some r from hf))
    · intro h
      obtain ⟨f, hf⟩ := xmac_ev (P m) (F' := fun f pc ls st V => xex w P ml md f d m pc ls st V) (C' := fun f => xdn (fun d m as V => xex w P ml md f d m 0 (xpad (ml m) (xsl as)) [] V) d) (fun t ls st V r h => Xx_ev h) (fun m as V r h => Xc_ev h) h
      exact Xx_of (f := f + 1) (hf f (Nat.le_refl _))
  cases h1 : Xx w P ml md d m pc ls st V with
  | some r => exact ((key r).mp h1).symm
  | none =>
    cases h2 : xmac w md (P m) (Xx w P ml md d m) (Xc w P ml md d) pc ls st V with
    | none => rfl
    | some r => rw [(key r).mpr h2] at h1; cases h1
/-- several blocks, up to the places where one stops -/
def xes (w : XW) (md : Bool) (B : List XB) (F : Nat → List XS → List XS → XM → XR) (C : Nat → List XS → XM → XR) (stop : List Nat) : Nat → Nat → List XS → List XS → XM → XR
  | 0, pc, ls, st, V => F pc ls st V
  | n + 1, pc, ls, st, V => match xblk B pc with
    | some b => xrun w md (fun t ls st V => xmkK B t ls (fun ls => match xmem stop t with
      | true => F t ls st V
      | false => xes w md B F C stop n t ls st V)) C b.2.2.2 b.2.2.1 ls st V
    | none => none
theorem Xx_es (stop : List Nat) {d m : Nat} {B : List XB} (hB : P m = B) : ∀ (n pc : Nat) (ls st : List XS) (V : XM), Xx w P ml md d m pc ls st V = xes w md B (Xx w P ml md d m) (Xc w P ml md d) stop n pc ls st V := by
  intro n
  induction n with
  | zero => intro pc ls st V; rfl
  | succ n ih =>
    intro pc ls st V
    rw [Xx_eq, hB]
    have hF : (fun (t : Nat) (ls st : List XS) (V : XM) => xmkK B t ls (fun ls => Xx w P ml md d m t ls st V)) = (fun t ls st V => xmkK B t ls (fun ls => match xmem stop t with
      | true => Xx w P ml md d m t ls st V
      | false => xes w md B (Xx w P ml md d m) (Xc w P ml md d) stop n t ls st V)) := by
      funext t ls st V
      rw [xmkK_eq, xmkK_eq]
      cases xmem stop t with
      | true => rfl
      | false => exact ih _ _ _ _
    simp only [xmac, xes]
    rw [hF]
    cases xblk B pc <;> rfl
theorem Xc_es (stop : List Nat) {d m : Nat} {B : List XB} (hB : P m = B) (n : Nat) (as : List XS) (V : XM) : Xc w P ml md (d + 1) m as V = xpadK (ml m) (xsl as) (fun ls => xes w md B (Xx w P ml md d m) (Xc w P ml md d) stop n 0 ls [] V) := by
  rw [xpadK_eq]
  exact Xx_es stop hB n 0 _ [] V
end
end
section
/-! THE PROGRAM as tables, printed by wip/gen: each method its blocks; the world of the cells -/
set_option maxRecDepth 100000 in
def K_X0_init : List XB := [(0, [true], [e1 0 (.aload_n 0) 1 0, ei 1 (.invokespecial 3) 3 0 0 1 9 9, e1 4 (.aload_n 0) 1 0, ec 5 (.bipush 24) 2 24, e1 7 (.newarray .int) 2 1, e3 9 (.putfield 9) 3 10 0 2, e0 12 (.return_) 1], 13)]
set_option maxRecDepth 100000 in
def K_X0_begin : List XB := [(0, [true, false], [e1 0 (.aload_n 0) 1 0, ec 1 (.iconst 0) 1 0, e3 2 (.putfield 15) 3 10 1 0, e1 5 (.aload_n 0) 1 0, ec 6 (.bipush (-9)) 2 (-9), ei 8 (.invokevirtual 19) 3 10 2 2 0 2, e0 11 (.pop) 1, ec 12 (.iconst 1) 1 1, e1 13 (.istore_n 1) 1 1], 14),
  (14, [true, true], [e1 14 (.iload_n 1) 1 1, ec 15 (.iconst 4) 1 4, e1 16 (.if_icmp .gt 15) 3 31, e1 19 (.aload_n 0) 1 0, ec 20 (.iconst 0) 1 0, ei 21 (.invokevirtual 19) 3 10 2 2 0 2, e0 24 (.pop) 1, ek 25 (.iinc 1 1) 3 1 1, e1 28 (.goto (-14)) 3 14], 31),
  (31, [true, false], [e1 31 (.aload_n 0) 1 0, ec 32 (.iconst 4) 1 4, ei 33 (.invokevirtual 19) 3 10 2 2 0 2, e0 36 (.pop) 1, e0 37 (.return_) 1], 38)]
set_option maxRecDepth 100000 in
def K_X0_add : List XB := [(0, [true, true], [e1 0 (.aload_n 0) 1 0, e3 1 (.getfield 9) 3 10 0 2, e1 4 (.aload_n 0) 1 0, e3 5 (.getfield 15) 3 10 1 0, e1 8 (.iload_n 1) 1 1, e0 9 (.iastore) 1, e1 10 (.aload_n 0) 1 0, e0 11 (.dup) 1, e3 12 (.getfield 15) 3 10 1 0, e0 15 (.dup_x1) 1, ec 16 (.iconst 1) 1 1, e0 17 (.iadd) 1, e3 18 (.putfield 15) 3 10 1 0, e1 21 (.ireturn) 1 0], 22)]
set_option maxRecDepth 100000 in
def K_X0_has : List XB := [(0, [true, true], [e1 0 (.iload_n 1) 1 1, e1 1 (.aload_n 0) 1 0, e3 2 (.getfield 15) 3 10 1 0, ei 5 (.invokestatic 23) 3 0 123 2 0 2, e1 8 (.ireturn) 1 1], 9)]
set_option maxRecDepth 100000 in
def K_X0_fits : List XB := [(0, [true, true, true, false, false], [e1 0 (.iload_n 1) 1 1, e1 1 (.istore_n 3) 1 3, ec 2 (.iconst 0) 1 0, e1 3 (.istore 4) 2 4], 5),
  (5, [true, false, true, true, true], [e1 5 (.iload_n 3) 1 3, e1 6 (.iload_n 2) 1 2, e1 7 (.if_icmp .le 23) 3 30, e1 10 (.iload 4) 2 4, ec 12 (.bipush 24) 2 24, e1 14 (.if_icmp .ge 16) 3 30, e1 17 (.aload_n 0) 1 0, e3 18 (.getfield 9) 3 10 0 2, e1 21 (.iload_n 3) 1 3, e0 22 (.iaload) 1, e1 23 (.istore_n 3) 1 3, ek 24 (.iinc 4 1) 3 1 4, e1 27 (.goto (-22)) 3 5], 30),
  (30, [false, false, true, true, false], [e1 30 (.iload_n 3) 1 3, e1 31 (.iload_n 2) 1 2, e1 32 (.if_icmp .ne 7) 3 39, ec 35 (.iconst 1) 1 1, e1 36 (.goto 4) 3 40], 39),
  (39, [false, false, false, false, false], [ec 39 (.iconst 0) 1 0], 40),
  (40, [false, false, false, false, false], [e1 40 (.ireturn) 1 1], 41)]
set_option maxRecDepth 100000 in
def K_X0_baseOf : List XB := [(0, [true, true, false, false], [e1 0 (.iload_n 1) 1 1, e1 1 (.istore_n 2) 1 2, ec 2 (.iconst 0) 1 0, e1 3 (.istore_n 3) 1 3], 4),
  (4, [true, false, true, true], [e1 4 (.iload_n 2) 1 2, ec 5 (.iconst 5) 1 5, e1 6 (.if_icmp .le 22) 3 28, e1 9 (.iload_n 3) 1 3, ec 10 (.bipush 24) 2 24, e1 12 (.if_icmp .ge 16) 3 28, e1 15 (.aload_n 0) 1 0, e3 16 (.getfield 9) 3 10 0 2, e1 19 (.iload_n 2) 1 2, e0 20 (.iaload) 1, e1 21 (.istore_n 2) 1 2, ek 22 (.iinc 3 1) 3 1 3, e1 25 (.goto (-21)) 3 4], 28),
  (28, [false, false, true, false], [e1 28 (.iload_n 2) 1 2, e1 29 (.ireturn) 1 0], 30)]
set_option maxRecDepth 100000 in
def K_X1_init : List XB := [(0, [true, true, true], [e1 0 (.aload_n 0) 1 0, ei 1 (.invokespecial 3) 3 0 0 1 9 9, e1 4 (.aload_n 0) 1 0, ec 5 (.sipush 384) 3 384, e1 8 (.newarray .int) 2 1, e3 10 (.putfield 9) 3 11 2 2, e1 13 (.aload_n 0) 1 0, ec 14 (.bipush 64) 2 64, e1 16 (.newarray .int) 2 1, e3 18 (.putfield 15) 3 11 3 2, e1 21 (.aload_n 0) 1 0, ec 22 (.bipush 64) 2 64, e1 24 (.newarray .int) 2 1, e3 26 (.putfield 18) 3 11 4 2, e1 29 (.aload_n 0) 1 0, ec 30 (.bipush 64) 2 64, e1 32 (.newarray .long) 2 2, e3 34 (.putfield 21) 3 11 5 2, e1 37 (.aload_n 0) 1 0, ec 38 (.bipush 64) 2 64, e1 40 (.newarray .long) 2 2, e3 42 (.putfield 25) 3 11 6 2, e1 45 (.aload_n 0) 1 0, ec 46 (.bipush 64) 2 64, e1 48 (.newarray .int) 2 1, e3 50 (.putfield 28) 3 11 7 2, e1 53 (.aload_n 0) 1 0, ec 54 (.bipush 64) 2 64, e1 56 (.newarray .int) 2 1, e3 58 (.putfield 31) 3 11 8 2, e1 61 (.aload_n 0) 1 0, ec 62 (.bipush 64) 2 64, e1 64 (.newarray .int) 2 1, e3 66 (.putfield 34) 3 11 9 2, e1 69 (.aload_n 0) 1 0, ec 70 (.bipush 64) 2 64, e1 72 (.newarray .int) 2 1, e3 74 (.putfield 37) 3 11 10 2, e1 77 (.aload_n 0) 1 0, ec 78 (.bipush 16) 2 16, e1 80 (.newarray .int) 2 1, e3 82 (.putfield 40) 3 11 11 2, e1 85 (.aload_n 0) 1 0, ec 86 (.bipush 16) 2 16, e1 88 (.newarray .int) 2 1, e3 90 (.putfield 43) 3 11 12 2, e1 93 (.aload_n 0) 1 0, ec 94 (.bipush 16) 2 16, e1 96 (.newarray .boolean) 2 3, e3 98 (.putfield 46) 3 11 13 2, e1 101 (.aload_n 0) 1 0, ec 102 (.bipush 16) 2 16, e1 104 (.newarray .int) 2 1, e3 106 (.putfield 50) 3 11 14 2, e1 109 (.aload_n 0) 1 0, e1 110 (.aload_n 1) 1 1, e3 111 (.putfield 53) 3 11 0 2, e1 114 (.aload_n 0) 1 0, e1 115 (.aload_n 2) 1 2, e3 116 (.putfield 57) 3 11 1 2, e0 119 (.return_) 1], 120)]
set_option maxRecDepth 100000 in
def K_X1_begin : List XB := [(0, [true, true], [e1 0 (.aload_n 0) 1 0, e3 1 (.getfield 15) 3 11 3 2, e1 4 (.iload_n 1) 1 1, ec 5 (.iconst 0) 1 0, e0 6 (.iastore) 1, e1 7 (.aload_n 0) 1 0, e3 8 (.getfield 18) 3 11 4 2, e1 11 (.iload_n 1) 1 1, ec 12 (.bipush (-9)) 2 (-9), e0 14 (.iastore) 1, e1 15 (.aload_n 0) 1 0, e3 16 (.getfield 21) 3 11 5 2, e1 19 (.iload_n 1) 1 1, ec 20 (.lconst 0) 1 0, e0 21 (.lastore) 1, e1 22 (.aload_n 0) 1 0, e3 23 (.getfield 25) 3 11 6 2, e1 26 (.iload_n 1) 1 1, ec 27 (.lconst 0) 1 0, e0 28 (.lastore) 1, e1 29 (.aload_n 0) 1 0, e3 30 (.getfield 28) 3 11 7 2, e1 33 (.iload_n 1) 1 1, ec 34 (.bipush (-9)) 2 (-9), e0 36 (.iastore) 1, e1 37 (.aload_n 0) 1 0, e3 38 (.getfield 31) 3 11 8 2, e1 41 (.iload_n 1) 1 1, ec 42 (.iconst 0) 1 0, e0 43 (.iastore) 1, e1 44 (.aload_n 0) 1 0, e3 45 (.getfield 34) 3 11 9 2, e1 48 (.iload_n 1) 1 1, ec 49 (.iconst 0) 1 0, e0 50 (.iastore) 1, e1 51 (.aload_n 0) 1 0, e3 52 (.getfield 37) 3 11 10 2, e1 55 (.iload_n 1) 1 1, ec 56 (.bipush (-9)) 2 (-9), e0 58 (.iastore) 1, e0 59 (.return_) 1], 60)]
set_option maxRecDepth 100000 in
def K_X1_homeAt : List XB := [(0, [true, true, true], [e1 0 (.iload_n 2) 1 2, e1 1 (.aload_n 0) 1 0, e3 2 (.getfield 15) 3 11 3 2, e1 5 (.iload_n 1) 1 1, e0 6 (.iaload) 1, ei 7 (.invokestatic 61) 3 0 123 2 0 2, e1 10 (.ifCond .eq 17) 3 27, e1 13 (.aload_n 0) 1 0, e3 14 (.getfield 9) 3 11 2 2, e1 17 (.iload_n 1) 1 1, ec 18 (.bipush 6) 2 6, e0 20 (.imul) 1, e1 21 (.iload_n 2) 1 2, e0 22 (.iadd) 1, e0 23 (.iaload) 1, e1 24 (.goto 5) 3 29], 27),
  (27, [false, false, false], [ec 27 (.bipush (-9)) 2 (-9)], 29),
  (29, [false, false, false], [e1 29 (.ireturn) 1 0], 30)]
set_option maxRecDepth 100000 in
def K_X1_isLaid : List XB := [(0, [true, true], [e1 0 (.aload_n 0) 1 0, e3 1 (.getfield 15) 3 11 3 2, e1 4 (.iload_n 1) 1 1, e0 5 (.iaload) 1, e1 6 (.ifCond .le 7) 3 13, ec 9 (.iconst 1) 1 1, e1 10 (.goto 4) 3 14], 13),
  (13, [false, false], [ec 13 (.iconst 0) 1 0], 14),
  (14, [false, false], [e1 14 (.ireturn) 1 1], 15)]
set_option maxRecDepth 100000 in
def K_X1_liesIn : List XB := [(0, [true, true, true, false], [ec 0 (.iconst 0) 1 0, e1 1 (.istore_n 3) 1 3], 2),
  (2, [true, true, true, true], [e1 2 (.iload_n 3) 1 3, e1 3 (.aload_n 0) 1 0, e3 4 (.getfield 15) 3 11 3 2, e1 7 (.iload_n 1) 1 1, e0 8 (.iaload) 1, e1 9 (.if_icmp .ge 26) 3 35, e1 12 (.aload_n 0) 1 0, e3 13 (.getfield 9) 3 11 2 2, e1 16 (.iload_n 1) 1 1, ec 17 (.bipush 6) 2 6, e0 19 (.imul) 1, e1 20 (.iload_n 3) 1 3, e0 21 (.iadd) 1, e0 22 (.iaload) 1, e1 23 (.iload_n 2) 1 2, e1 24 (.if_icmp .ne 5) 3 29, ec 27 (.iconst 1) 1 1, e1 28 (.ireturn) 1 1], 29),
  (29, [true, true, true, true], [ek 29 (.iinc 3 1) 3 1 3, e1 32 (.goto (-30)) 3 2], 35),
  (35, [false, false, false, false], [ec 35 (.iconst 0) 1 0, e1 36 (.ireturn) 1 1], 37)]
set_option maxRecDepth 100000 in
def K_X1_hasAllHomes : List XB := [(0, [true, true], [e1 0 (.aload_n 0) 1 0, e3 1 (.getfield 53) 3 11 0 2, e3 4 (.getfield 65) 3 18 2 2, e1 7 (.iload_n 1) 1 1, e0 8 (.iaload) 1, ec 9 (.iconst 3) 1 3, e1 10 (.if_icmp .ne 18) 3 28, e1 13 (.aload_n 0) 1 0, e3 14 (.getfield 15) 3 11 3 2, e1 17 (.iload_n 1) 1 1, e0 18 (.iaload) 1, ec 19 (.bipush 6) 2 6, e1 21 (.if_icmp .lt 7) 3 28, ec 24 (.iconst 1) 1 1, e1 25 (.goto 4) 3 29], 28),
  (28, [false, false], [ec 28 (.iconst 0) 1 0], 29),
  (29, [false, false], [e1 29 (.ireturn) 1 1], 30)]
set_option maxRecDepth 100000 in
def K_X1_isWithin : List XB := [(0, [true, true, true, false, false], [e1 0 (.iload_n 1) 1 1, e1 1 (.istore_n 3) 1 3, ec 2 (.iconst 0) 1 0, e1 3 (.istore 4) 2 4], 5),
  (5, [true, false, true, true, true], [e1 5 (.iload_n 3) 1 3, e1 6 (.ifCond .lt 30) 3 36, e1 9 (.iload 4) 2 4, ec 11 (.bipush 64) 2 64, e1 13 (.if_icmp .ge 23) 3 36, e1 16 (.iload_n 3) 1 3, e1 17 (.iload_n 2) 1 2, e1 18 (.if_icmp .ne 5) 3 23, ec 21 (.iconst 1) 1 1, e1 22 (.ireturn) 1 1], 23),
  (23, [true, false, true, true, true], [e1 23 (.aload_n 0) 1 0, e1 24 (.iload_n 3) 1 3, ec 25 (.iconst 0) 1 0, ei 26 (.invokevirtual 70) 3 11 8 3 0 3, e1 29 (.istore_n 3) 1 3, ek 30 (.iinc 4 1) 3 1 4, e1 33 (.goto (-28)) 3 5], 36),
  (36, [false, false, false, false, false], [ec 36 (.iconst 0) 1 0, e1 37 (.ireturn) 1 1], 38)]
set_option maxRecDepth 100000 in
def K_X1_lay : List XB := [(0, [true, true, true, true], [e1 0 (.aload_n 0) 1 0, e3 1 (.getfield 9) 3 11 2 2, e1 4 (.iload_n 1) 1 1, ec 5 (.bipush 6) 2 6, e0 7 (.imul) 1, e1 8 (.aload_n 0) 1 0, e3 9 (.getfield 15) 3 11 3 2, e1 12 (.iload_n 1) 1 1, e0 13 (.iaload) 1, e0 14 (.iadd) 1, e1 15 (.iload_n 2) 1 2, e0 16 (.iastore) 1, e1 17 (.aload_n 0) 1 0, e3 18 (.getfield 15) 3 11 3 2, e1 21 (.iload_n 1) 1 1, e0 22 (.dup2) 1, e0 23 (.iaload) 1, ec 24 (.iconst 1) 1 1, e0 25 (.iadd) 1, e0 26 (.iastore) 1, e1 27 (.aload_n 0) 1 0, e3 28 (.getfield 18) 3 11 4 2, e1 31 (.iload_n 1) 1 1, e1 32 (.iload_n 3) 1 3, e0 33 (.iastore) 1, e1 34 (.aload_n 0) 1 0, e3 35 (.getfield 53) 3 11 0 2, e3 38 (.getfield 65) 3 18 2 2, e1 41 (.iload_n 1) 1 1, e0 42 (.iaload) 1, ec 43 (.iconst 3) 1 3, e1 44 (.if_icmp .eq 13) 3 57, e1 47 (.aload_n 0) 1 0, e3 48 (.getfield 31) 3 11 8 2, e1 51 (.iload_n 2) 1 2, e0 52 (.dup2) 1, e0 53 (.iaload) 1, ec 54 (.iconst 1) 1 1, e0 55 (.iadd) 1, e0 56 (.iastore) 1], 57),
  (57, [false, false, false, false], [e0 57 (.return_) 1], 58)]
set_option maxRecDepth 100000 in
def K_X1_lift : List XB := [(0, [true, true], [e1 0 (.aload_n 0) 1 0, e3 1 (.getfield 31) 3 11 8 2, e1 4 (.aload_n 0) 1 0, e3 5 (.getfield 9) 3 11 2 2, e1 8 (.iload_n 1) 1 1, ec 9 (.bipush 6) 2 6, e0 11 (.imul) 1, e0 12 (.iaload) 1, e0 13 (.dup2) 1, e0 14 (.iaload) 1, ec 15 (.iconst 1) 1 1, e0 16 (.isub) 1, e0 17 (.iastore) 1, e1 18 (.aload_n 0) 1 0, e3 19 (.getfield 15) 3 11 3 2, e1 22 (.iload_n 1) 1 1, ec 23 (.iconst 0) 1 0, e0 24 (.iastore) 1, e1 25 (.aload_n 0) 1 0, e3 26 (.getfield 18) 3 11 4 2, e1 29 (.iload_n 1) 1 1, ec 30 (.bipush (-9)) 2 (-9), e0 32 (.iastore) 1, e0 33 (.return_) 1], 34)]
set_option maxRecDepth 100000 in
def K_X1_againstPut : List XB := [(0, [true, true, true, false], [e1 0 (.aload_n 0) 1 0, e3 1 (.getfield 53) 3 11 0 2, e1 4 (.iload_n 1) 1 1, ei 5 (.invokevirtual 74) 3 18 99 2 0 2, e1 8 (.istore_n 3) 1 3, e1 9 (.iload_n 3) 1 3, e1 10 (.ifCond .eq 18) 3 28, e1 13 (.aload_n 0) 1 0, e1 14 (.iload_n 1) 1 1, ei 15 (.invokevirtual 78) 3 11 9 2 0 2, e1 18 (.ifCond .eq 10) 3 28, e1 21 (.aload_n 0) 1 0, e3 22 (.getfield 18) 3 11 4 2, e1 25 (.iload_n 1) 1 1, e0 26 (.iaload) 1, e1 27 (.ireturn) 1 0], 28),
  (28, [true, true, true, true], [e1 28 (.aload_n 0) 1 0, e3 29 (.getfield 21) 3 11 5 2, e1 32 (.iload_n 1) 1 1, e0 33 (.laload) 1, e1 34 (.iload_n 2) 1 2, ei 35 (.invokestatic 81) 3 0 186 1 1 1, e0 38 (.land) 1, ec 39 (.lconst 0) 1 0, e0 40 (.lcmp) 1, e1 41 (.ifCond .eq 16) 3 57, e1 44 (.aload_n 0) 1 0, e3 45 (.getfield 57) 3 11 1 2, ec 48 (.iconst 1) 1 1, e1 49 (.iload_n 1) 1 1, e1 50 (.iload_n 2) 1 2, ec 51 (.bipush (-9)) 2 (-9), ei 53 (.invokevirtual 85) 3 14 65 5 0 6, e1 56 (.ireturn) 1 0], 57),
  (57, [true, true, true, true], [e1 57 (.aload_n 0) 1 0, e3 58 (.getfield 28) 3 11 7 2, e1 61 (.iload_n 1) 1 1, e0 62 (.iaload) 1, e1 63 (.ifCond .lt 26) 3 89, e1 66 (.aload_n 0) 1 0, e3 67 (.getfield 25) 3 11 6 2, e1 70 (.iload_n 1) 1 1, e0 71 (.laload) 1, e1 72 (.iload_n 2) 1 2, ei 73 (.invokestatic 81) 3 0 186 1 1 1, e0 76 (.land) 1, ec 77 (.lconst 0) 1 0, e0 78 (.lcmp) 1, e1 79 (.ifCond .ne 10) 3 89, e1 82 (.aload_n 0) 1 0, e3 83 (.getfield 28) 3 11 7 2, e1 86 (.iload_n 1) 1 1, e0 87 (.iaload) 1, e1 88 (.ireturn) 1 0], 89),
  (89, [true, true, true, true], [e1 89 (.iload_n 3) 1 3, e1 90 (.ifCond .eq 18) 3 108, e1 93 (.aload_n 0) 1 0, e1 94 (.iload_n 2) 1 2, ei 95 (.invokevirtual 91) 3 11 16 2 0 2, e1 98 (.ifCond .eq 10) 3 108, e1 101 (.aload_n 0) 1 0, e3 102 (.getfield 37) 3 11 10 2, e1 105 (.iload_n 2) 1 2, e0 106 (.iaload) 1, e1 107 (.ireturn) 1 0], 108),
  (108, [true, true, true, false], [e1 108 (.aload_n 0) 1 0, e1 109 (.iload_n 1) 1 1, e1 110 (.iload_n 2) 1 2, ei 111 (.invokevirtual 94) 3 11 17 3 0 5, e1 114 (.ireturn) 1 0], 115)]
set_option maxRecDepth 100000 in
def K_X1_isCrowded : List XB := [(0, [true, true], [e1 0 (.aload_n 0) 1 0, e1 1 (.iload_n 1) 1 1, ei 2 (.invokevirtual 97) 3 11 29 2 0 2, e1 5 (.ifCond .eq 22) 3 27, e1 8 (.aload_n 0) 1 0, e3 9 (.getfield 31) 3 11 8 2, e1 12 (.iload_n 1) 1 1, e0 13 (.iaload) 1, e1 14 (.aload_n 0) 1 0, e3 15 (.getfield 34) 3 11 9 2, e1 18 (.iload_n 1) 1 1, e0 19 (.iaload) 1, e1 20 (.if_icmp .lt 7) 3 27, ec 23 (.iconst 1) 1 1, e1 24 (.goto 4) 3 28], 27),
  (27, [false, false], [ec 27 (.iconst 0) 1 0], 28),
  (28, [false, false], [e1 28 (.ireturn) 1 1], 29)]
set_option maxRecDepth 100000 in
def K_X1_againstPairs : List XB := [(0, [true, true, true, false, false], [ec 0 (.iconst 0) 1 0, e1 1 (.istore_n 3) 1 3], 2),
  (2, [true, true, true, true, false], [e1 2 (.iload_n 3) 1 3, e1 3 (.aload_n 0) 1 0, e3 4 (.getfield 100) 3 11 15 0, e1 7 (.if_icmp .ge 63) 3 70, e1 10 (.aload_n 0) 1 0, e1 11 (.iload_n 3) 1 3, e1 12 (.iload_n 1) 1 1, ei 13 (.invokevirtual 104) 3 11 18 3 0 3, e1 16 (.istore 4) 2 4, e1 18 (.iload 4) 2 4, e1 20 (.ifCond .lt 44) 3 64, e1 23 (.aload_n 0) 1 0, e1 24 (.iload 4) 2 4, ei 26 (.invokevirtual 78) 3 11 9 2 0 2, e1 29 (.ifCond .eq 35) 3 64, e1 32 (.aload_n 0) 1 0, e1 33 (.iload 4) 2 4, ec 35 (.iconst 0) 1 0, ei 36 (.invokevirtual 70) 3 11 8 3 0 3, e1 39 (.iload_n 2) 1 2, e1 40 (.if_icmp .ne 7) 3 47, ec 43 (.iconst 1) 1 1, e1 44 (.goto 4) 3 48], 47),
  (47, [true, true, true, true, false], [ec 47 (.iconst 0) 1 0], 48),
  (48, [true, true, true, true, false], [e1 48 (.aload_n 0) 1 0, e3 49 (.getfield 46) 3 11 13 2, e1 52 (.iload_n 3) 1 3, e0 53 (.baload) 1, e1 54 (.if_icmp .eq 10) 3 64, e1 57 (.aload_n 0) 1 0, e3 58 (.getfield 50) 3 11 14 2, e1 61 (.iload_n 3) 1 3, e0 62 (.iaload) 1, e1 63 (.ireturn) 1 0], 64),
  (64, [true, true, true, true, false], [ek 64 (.iinc 3 1) 3 1 3, e1 67 (.goto (-65)) 3 2], 70),
  (70, [false, false, false, false, false], [ec 70 (.bipush (-9)) 2 (-9), e1 72 (.ireturn) 1 0], 73)]
set_option maxRecDepth 100000 in
def K_X1_partner : List XB := [(0, [true, true, true], [e1 0 (.aload_n 0) 1 0, e3 1 (.getfield 40) 3 11 11 2, e1 4 (.iload_n 1) 1 1, e0 5 (.iaload) 1, e1 6 (.iload_n 2) 1 2, e1 7 (.if_icmp .ne 10) 3 17, e1 10 (.aload_n 0) 1 0, e3 11 (.getfield 43) 3 11 12 2, e1 14 (.iload_n 1) 1 1, e0 15 (.iaload) 1, e1 16 (.ireturn) 1 0], 17),
  (17, [true, true, true], [e1 17 (.aload_n 0) 1 0, e3 18 (.getfield 43) 3 11 12 2, e1 21 (.iload_n 1) 1 1, e0 22 (.iaload) 1, e1 23 (.iload_n 2) 1 2, e1 24 (.if_icmp .ne 12) 3 36, e1 27 (.aload_n 0) 1 0, e3 28 (.getfield 40) 3 11 11 2, e1 31 (.iload_n 1) 1 1, e0 32 (.iaload) 1, e1 33 (.goto 5) 3 38], 36),
  (36, [false, false, false], [ec 36 (.bipush (-9)) 2 (-9)], 38),
  (38, [false, false, false], [e1 38 (.ireturn) 1 0], 39)]
set_option maxRecDepth 100000 in
def K_X1_againstBar : List XB := [(0, [true, true, true], [e1 0 (.aload_n 0) 1 0, e1 1 (.iload_n 1) 1 1, e1 2 (.iload_n 2) 1 2, ei 3 (.invokevirtual 107) 3 11 10 3 0 4, e1 6 (.ifCond .eq 16) 3 22, e1 9 (.aload_n 0) 1 0, e3 10 (.getfield 57) 3 11 1 2, ec 13 (.iconst 0) 1 0, e1 14 (.iload_n 1) 1 1, e1 15 (.iload_n 2) 1 2, ec 16 (.bipush (-9)) 2 (-9), ei 18 (.invokevirtual 85) 3 14 65 5 0 6, e1 21 (.ireturn) 1 0], 22),
  (22, [true, true, true], [e1 22 (.aload_n 0) 1 0, e3 23 (.getfield 28) 3 11 7 2, e1 26 (.iload_n 1) 1 1, e0 27 (.iaload) 1, e1 28 (.ifCond .lt 32) 3 60, e1 31 (.aload_n 0) 1 0, e3 32 (.getfield 25) 3 11 6 2, e1 35 (.iload_n 1) 1 1, e0 36 (.laload) 1, e1 37 (.iload_n 2) 1 2, ei 38 (.invokestatic 81) 3 0 186 1 1 1, ec 41 (.ldc2_w 110) 3 (-1), e0 44 (.lxor) 1, e0 45 (.land) 1, ec 46 (.lconst 0) 1 0, e0 47 (.lcmp) 1, e1 48 (.ifCond .ne 12) 3 60, e1 51 (.aload_n 0) 1 0, e3 52 (.getfield 28) 3 11 7 2, e1 55 (.iload_n 1) 1 1, e0 56 (.iaload) 1, e1 57 (.goto 5) 3 62], 60),
  (60, [false, false, false], [ec 60 (.bipush (-9)) 2 (-9)], 62),
  (62, [false, false, false], [e1 62 (.ireturn) 1 0], 63)]
set_option maxRecDepth 100000 in
def K_X1_shut : List XB := [(0, [true, true, true], [e1 0 (.aload_n 0) 1 0, e3 1 (.getfield 21) 3 11 5 2, e1 4 (.iload_n 1) 1 1, e0 5 (.dup2) 1, e0 6 (.laload) 1, e1 7 (.iload_n 2) 1 2, ei 8 (.invokestatic 81) 3 0 186 1 1 1, e0 11 (.lor) 1, e0 12 (.lastore) 1, e1 13 (.aload_n 0) 1 0, e3 14 (.getfield 25) 3 11 6 2, e1 17 (.iload_n 1) 1 1, e0 18 (.dup2) 1, e0 19 (.laload) 1, e1 20 (.iload_n 2) 1 2, ei 21 (.invokestatic 81) 3 0 186 1 1 1, ec 24 (.ldc2_w 110) 3 (-1), e0 27 (.lxor) 1, e0 28 (.land) 1, e0 29 (.lastore) 1, e0 30 (.return_) 1], 31)]
set_option maxRecDepth 100000 in
def K_X1_againstAmong : List XB := [(0, [true, true, true, false], [e1 0 (.aload_n 0) 1 0, e1 1 (.iload_n 1) 1 1, ei 2 (.invokevirtual 78) 3 11 9 2 0 2, e1 5 (.ifCond .eq 26) 3 31, e1 8 (.lload_n 2) 1 2, e1 9 (.aload_n 0) 1 0, e1 10 (.iload_n 1) 1 1, ec 11 (.iconst 0) 1 0, ei 12 (.invokevirtual 70) 3 11 8 3 0 3, ei 15 (.invokestatic 81) 3 0 186 1 1 1, e0 18 (.land) 1, ec 19 (.lconst 0) 1 0, e0 20 (.lcmp) 1, e1 21 (.ifCond .ne 10) 3 31, e1 24 (.aload_n 0) 1 0, e3 25 (.getfield 18) 3 11 4 2, e1 28 (.iload_n 1) 1 1, e0 29 (.iaload) 1, e1 30 (.ireturn) 1 0], 31),
  (31, [true, true, true, false], [e1 31 (.aload_n 0) 1 0, e3 32 (.getfield 28) 3 11 7 2, e1 35 (.iload_n 1) 1 1, e0 36 (.iaload) 1, e1 37 (.ifCond .lt 23) 3 60, e1 40 (.lload_n 2) 1 2, e1 41 (.aload_n 0) 1 0, e3 42 (.getfield 25) 3 11 6 2, e1 45 (.iload_n 1) 1 1, e0 46 (.laload) 1, e0 47 (.land) 1, ec 48 (.lconst 0) 1 0, e0 49 (.lcmp) 1, e1 50 (.ifCond .ne 10) 3 60, e1 53 (.aload_n 0) 1 0, e3 54 (.getfield 28) 3 11 7 2, e1 57 (.iload_n 1) 1 1, e0 58 (.iaload) 1, e1 59 (.ireturn) 1 0], 60),
  (60, [true, true, true, false], [e1 60 (.lload_n 2) 1 2, e1 61 (.aload_n 0) 1 0, e3 62 (.getfield 21) 3 11 5 2, e1 65 (.iload_n 1) 1 1, e0 66 (.laload) 1, ec 67 (.ldc2_w 110) 3 (-1), e0 70 (.lxor) 1, e0 71 (.land) 1, ec 72 (.lconst 0) 1 0, e0 73 (.lcmp) 1, e1 74 (.ifCond .ne 12) 3 86, e1 77 (.aload_n 0) 1 0, e1 78 (.iload_n 1) 1 1, e1 79 (.lload_n 2) 1 2, ei 80 (.invokevirtual 112) 3 11 22 3 0 5, e1 83 (.goto 5) 3 88], 86),
  (86, [false, false, false, false], [ec 86 (.bipush (-9)) 2 (-9)], 88),
  (88, [false, false, false, false], [e1 88 (.ireturn) 1 0], 89)]
set_option maxRecDepth 100000 in
def K_X1_earliestBarInto : List XB := [(0, [true, true, true, false, false], [ec 0 (.iconst 0) 1 0, e1 1 (.istore 4) 2 4], 3),
  (3, [true, true, true, false, true], [e1 3 (.iload 4) 2 4, e1 5 (.aload_n 0) 1 0, e3 6 (.getfield 57) 3 11 1 2, e3 9 (.getfield 116) 3 14 4 0, e1 12 (.if_icmp .ge 60) 3 72, e1 15 (.aload_n 0) 1 0, e3 16 (.getfield 57) 3 11 1 2, e3 19 (.getfield 119) 3 14 0 2, e1 22 (.iload 4) 2 4, e0 24 (.iaload) 1, ec 25 (.iconst 1) 1 1, e1 26 (.if_icmp .ne 40) 3 66, e1 29 (.aload_n 0) 1 0, e3 30 (.getfield 57) 3 11 1 2, e3 33 (.getfield 122) 3 14 1 2, e1 36 (.iload 4) 2 4, e0 38 (.iaload) 1, e1 39 (.iload_n 1) 1 1, e1 40 (.if_icmp .ne 26) 3 66, e1 43 (.lload_n 2) 1 2, e1 44 (.aload_n 0) 1 0, e3 45 (.getfield 57) 3 11 1 2, e3 48 (.getfield 125) 3 14 2 2, e1 51 (.iload 4) 2 4, e0 53 (.iaload) 1, ei 54 (.invokestatic 81) 3 0 186 1 1 1, e0 57 (.land) 1, ec 58 (.lconst 0) 1 0, e0 59 (.lcmp) 1, e1 60 (.ifCond .eq 6) 3 66, e1 63 (.iload 4) 2 4, e1 65 (.ireturn) 1 0], 66),
  (66, [true, true, true, false, true], [ek 66 (.iinc 4 1) 3 1 4, e1 69 (.goto (-66)) 3 3], 72),
  (72, [false, false, false, false, false], [ec 72 (.bipush (-9)) 2 (-9), e1 74 (.ireturn) 1 0], 75)]
set_option maxRecDepth 100000 in
def K_X1_narrow : List XB := [(0, [true, true, true, false, true, false, false], [e1 0 (.aload_n 0) 1 0, e3 1 (.getfield 28) 3 11 7 2, e1 4 (.iload_n 1) 1 1, e0 5 (.iaload) 1, e1 6 (.ifCond .lt 12) 3 18, e1 9 (.aload_n 0) 1 0, e3 10 (.getfield 25) 3 11 6 2, e1 13 (.iload_n 1) 1 1, e0 14 (.laload) 1, e1 15 (.goto 6) 3 21], 18),
  (18, [true, true, true, false, true, false, false], [ec 18 (.ldc2_w 110) 3 (-1)], 21),
  (21, [true, true, true, false, true, false, false], [e1 21 (.lstore 5) 2 5, e1 23 (.aload_n 0) 1 0, e3 24 (.getfield 25) 3 11 6 2, e1 27 (.iload_n 1) 1 1, e1 28 (.lload_n 2) 1 2, e1 29 (.lload 5) 2 5, e0 31 (.land) 1, e1 32 (.aload_n 0) 1 0, e3 33 (.getfield 21) 3 11 5 2, e1 36 (.iload_n 1) 1 1, e0 37 (.laload) 1, ec 38 (.ldc2_w 110) 3 (-1), e0 41 (.lxor) 1, e0 42 (.land) 1, e0 43 (.lastore) 1, e1 44 (.aload_n 0) 1 0, e3 45 (.getfield 28) 3 11 7 2, e1 48 (.iload_n 1) 1 1, e1 49 (.iload 4) 2 4, e0 51 (.iastore) 1, e0 52 (.return_) 1], 53)]
set_option maxRecDepth 100000 in
def K_X1_setOf : List XB := [(0, [true, true], [e1 0 (.aload_n 0) 1 0, e3 1 (.getfield 25) 3 11 6 2, e1 4 (.iload_n 1) 1 1, e0 5 (.laload) 1, e0 6 (.lreturn) 1], 7)]
set_option maxRecDepth 100000 in
def K_X1_isUnsettled : List XB := [(0, [true, true], [e1 0 (.aload_n 0) 1 0, e3 1 (.getfield 28) 3 11 7 2, e1 4 (.iload_n 1) 1 1, e0 5 (.iaload) 1, e1 6 (.ifCond .lt 15) 3 21, e1 9 (.aload_n 0) 1 0, e1 10 (.iload_n 1) 1 1, ei 11 (.invokevirtual 78) 3 11 9 2 0 2, e1 14 (.ifCond .ne 7) 3 21, ec 17 (.iconst 1) 1 1, e1 18 (.goto 4) 3 22], 21),
  (21, [false, false], [ec 21 (.iconst 0) 1 0], 22),
  (22, [false, false], [e1 22 (.ireturn) 1 1], 23)]
set_option maxRecDepth 100000 in
def K_X1_unsettled : List XB := [(0, [true, false, false], [ec 0 (.iconst 0) 1 0, e1 1 (.istore_n 1) 1 1, ec 2 (.iconst 0) 1 0, e1 3 (.istore_n 2) 1 2], 4),
  (4, [true, true, true], [e1 4 (.iload_n 2) 1 2, e1 5 (.aload_n 0) 1 0, e3 6 (.getfield 53) 3 11 0 2, e3 9 (.getfield 128) 3 18 7 0, e1 12 (.if_icmp .ge 20) 3 32, e1 15 (.aload_n 0) 1 0, e1 16 (.iload_n 2) 1 2, ei 17 (.invokevirtual 129) 3 11 25 2 0 2, e1 20 (.ifCond .eq 6) 3 26, ek 23 (.iinc 1 1) 3 1 1], 26),
  (26, [true, true, true], [ek 26 (.iinc 2 1) 3 1 2, e1 29 (.goto (-25)) 3 4], 32),
  (32, [false, true, false], [e1 32 (.iload_n 1) 1 1, e1 33 (.ireturn) 1 0], 34)]
set_option maxRecDepth 100000 in
def K_X1_againstPairing : List XB := [(0, [true, true, true, true, false], [ec 0 (.iconst 0) 1 0, e1 1 (.istore 4) 2 4], 3),
  (3, [true, true, true, true, true], [e1 3 (.iload 4) 2 4, e1 5 (.aload_n 0) 1 0, e3 6 (.getfield 100) 3 11 15 0, e1 9 (.if_icmp .ge 39) 3 48, e1 12 (.aload_n 0) 1 0, e1 13 (.iload 4) 2 4, e1 15 (.iload_n 1) 1 1, ei 16 (.invokevirtual 104) 3 11 18 3 0 3, e1 19 (.iload_n 2) 1 2, e1 20 (.if_icmp .ne 22) 3 42, e1 23 (.aload_n 0) 1 0, e3 24 (.getfield 46) 3 11 13 2, e1 27 (.iload 4) 2 4, e0 29 (.baload) 1, e1 30 (.iload_n 3) 1 3, e1 31 (.if_icmp .eq 11) 3 42, e1 34 (.aload_n 0) 1 0, e3 35 (.getfield 50) 3 11 14 2, e1 38 (.iload 4) 2 4, e0 40 (.iaload) 1, e1 41 (.ireturn) 1 0], 42),
  (42, [true, true, true, true, true], [ek 42 (.iinc 4 1) 3 1 4, e1 45 (.goto (-42)) 3 3], 48),
  (48, [true, true, true, true, false], [e1 48 (.aload_n 0) 1 0, e1 49 (.iload_n 1) 1 1, ei 50 (.invokevirtual 78) 3 11 9 2 0 2, e1 53 (.ifCond .eq 51) 3 104, e1 56 (.aload_n 0) 1 0, e1 57 (.iload_n 2) 1 2, ei 58 (.invokevirtual 78) 3 11 9 2 0 2, e1 61 (.ifCond .eq 43) 3 104, e1 64 (.aload_n 0) 1 0, e1 65 (.iload_n 1) 1 1, ec 66 (.iconst 0) 1 0, ei 67 (.invokevirtual 70) 3 11 8 3 0 3, e1 70 (.aload_n 0) 1 0, e1 71 (.iload_n 2) 1 2, ec 72 (.iconst 0) 1 0, ei 73 (.invokevirtual 70) 3 11 8 3 0 3, e1 76 (.if_icmp .ne 7) 3 83, ec 79 (.iconst 1) 1 1, e1 80 (.goto 4) 3 84], 83),
  (83, [true, true, true, true, false], [ec 83 (.iconst 0) 1 0], 84),
  (84, [true, true, true, true, false], [e1 84 (.iload_n 3) 1 3, e1 85 (.if_icmp .eq 19) 3 104, e1 88 (.aload_n 0) 1 0, e3 89 (.getfield 18) 3 11 4 2, e1 92 (.iload_n 1) 1 1, e0 93 (.iaload) 1, e1 94 (.aload_n 0) 1 0, e3 95 (.getfield 18) 3 11 4 2, e1 98 (.iload_n 2) 1 2, e0 99 (.iaload) 1, ei 100 (.invokestatic 132) 3 0 0 2 8 9, e1 103 (.ireturn) 1 0], 104),
  (104, [false, false, false, false, false], [ec 104 (.bipush (-9)) 2 (-9), e1 106 (.ireturn) 1 0], 107)]
set_option maxRecDepth 100000 in
def K_X1_addPair : List XB := [(0, [true, true, true, true, true], [e1 0 (.aload_n 0) 1 0, e3 1 (.getfield 40) 3 11 11 2, e1 4 (.aload_n 0) 1 0, e3 5 (.getfield 100) 3 11 15 0, e1 8 (.iload_n 1) 1 1, e0 9 (.iastore) 1, e1 10 (.aload_n 0) 1 0, e3 11 (.getfield 43) 3 11 12 2, e1 14 (.aload_n 0) 1 0, e3 15 (.getfield 100) 3 11 15 0, e1 18 (.iload_n 2) 1 2, e0 19 (.iastore) 1, e1 20 (.aload_n 0) 1 0, e3 21 (.getfield 46) 3 11 13 2, e1 24 (.aload_n 0) 1 0, e3 25 (.getfield 100) 3 11 15 0, e1 28 (.iload_n 3) 1 3, e0 29 (.bastore) 1, e1 30 (.aload_n 0) 1 0, e3 31 (.getfield 50) 3 11 14 2, e1 34 (.aload_n 0) 1 0, e3 35 (.getfield 100) 3 11 15 0, e1 38 (.iload 4) 2 4, e0 40 (.iastore) 1, e1 41 (.aload_n 0) 1 0, e0 42 (.dup) 1, e3 43 (.getfield 100) 3 11 15 0, ec 46 (.iconst 1) 1 1, e0 47 (.iadd) 1, e3 48 (.putfield 100) 3 11 15 0, e0 51 (.return_) 1], 52)]
set_option maxRecDepth 100000 in
def K_X1_hasMost : List XB := [(0, [true, true], [e1 0 (.aload_n 0) 1 0, e3 1 (.getfield 37) 3 11 10 2, e1 4 (.iload_n 1) 1 1, e0 5 (.iaload) 1, e1 6 (.ifCond .lt 7) 3 13, ec 9 (.iconst 1) 1 1, e1 10 (.goto 4) 3 14], 13),
  (13, [false, false], [ec 13 (.iconst 0) 1 0], 14),
  (14, [false, false], [e1 14 (.ireturn) 1 1], 15)]
set_option maxRecDepth 100000 in
def K_X1_tellMost : List XB := [(0, [true, true, true, true], [e1 0 (.aload_n 0) 1 0, e3 1 (.getfield 34) 3 11 9 2, e1 4 (.iload_n 1) 1 1, e1 5 (.iload_n 2) 1 2, e0 6 (.iastore) 1, e1 7 (.aload_n 0) 1 0, e3 8 (.getfield 37) 3 11 10 2, e1 11 (.iload_n 1) 1 1, e1 12 (.iload_n 3) 1 3, e0 13 (.iastore) 1, e0 14 (.return_) 1], 15)]
set_option maxRecDepth 100000 in
def K_X1_putBehind : List XB := [(0, [true, true, true, false, false], [ec 0 (.iconst 0) 1 0, e1 1 (.istore_n 3) 1 3, ec 2 (.iconst 0) 1 0, e1 3 (.istore 4) 2 4], 5),
  (5, [true, true, true, true, true], [e1 5 (.iload 4) 2 4, e1 7 (.aload_n 0) 1 0, e3 8 (.getfield 57) 3 11 1 2, e3 11 (.getfield 116) 3 14 4 0, e1 14 (.if_icmp .ge 69) 3 83, e1 17 (.aload_n 0) 1 0, e3 18 (.getfield 57) 3 11 1 2, e3 21 (.getfield 119) 3 14 0 2, e1 24 (.iload 4) 2 4, e0 26 (.iaload) 1, e1 27 (.ifCond .ne 50) 3 77, e1 30 (.aload_n 0) 1 0, e3 31 (.getfield 57) 3 11 1 2, e3 34 (.getfield 125) 3 14 2 2, e1 37 (.iload 4) 2 4, e0 39 (.iaload) 1, e1 40 (.iload_n 1) 1 1, e1 41 (.if_icmp .ne 36) 3 77, e1 44 (.aload_n 0) 1 0, e3 45 (.getfield 53) 3 11 0 2, e3 48 (.getfield 65) 3 18 2 2, e1 51 (.aload_n 0) 1 0, e3 52 (.getfield 57) 3 11 1 2, e3 55 (.getfield 122) 3 14 1 2, e1 58 (.iload 4) 2 4, e0 60 (.iaload) 1, e0 61 (.iaload) 1, ec 62 (.iconst 3) 1 3, e1 63 (.if_icmp .eq 14) 3 77, e1 66 (.iload_n 3) 1 3, e1 67 (.iload_n 2) 1 2, e1 68 (.if_icmp .ne 6) 3 74, e1 71 (.iload 4) 2 4, e1 73 (.ireturn) 1 0], 74),
  (74, [true, true, true, true, true], [ek 74 (.iinc 3 1) 3 1 3], 77),
  (77, [true, true, true, true, true], [ek 77 (.iinc 4 1) 3 1 4, e1 80 (.goto (-75)) 3 5], 83),
  (83, [false, false, false, false, false], [ec 83 (.bipush (-9)) 2 (-9), e1 85 (.ireturn) 1 0], 86)]
set_option maxRecDepth 100000 in
def K_X1_bulk : List XB := [(0, [true, true], [e1 0 (.aload_n 0) 1 0, e3 1 (.getfield 53) 3 11 0 2, e3 4 (.getfield 65) 3 18 2 2, e1 7 (.iload_n 1) 1 1, e0 8 (.iaload) 1, es 9 (.tableswitch 67 1 5 #[35, 41, 53, 55, 55]) 35 1 76 [44, 50, 62, 64, 64]], 44),
  (44, [true, true], [e1 44 (.aload_n 0) 1 0, e1 45 (.iload_n 1) 1 1, ei 46 (.invokevirtual 137) 3 11 34 2 0 4, e1 49 (.ireturn) 1 0], 50),
  (50, [true, true], [ec 50 (.iconst 2) 1 2, e1 51 (.aload_n 0) 1 0, e3 52 (.getfield 53) 3 11 0 2, e3 55 (.getfield 141) 3 18 3 2, e1 58 (.iload_n 1) 1 1, e0 59 (.iaload) 1, e0 60 (.imul) 1, e1 61 (.ireturn) 1 0], 62),
  (62, [false, false], [ec 62 (.iconst 0) 1 0, e1 63 (.ireturn) 1 0], 64),
  (64, [true, true], [e1 64 (.aload_n 0) 1 0, e1 65 (.iload_n 1) 1 1, ei 66 (.invokevirtual 144) 3 11 33 2 0 2, e1 69 (.aload_n 0) 1 0, e1 70 (.iload_n 1) 1 1, ei 71 (.invokevirtual 137) 3 11 34 2 0 4, e0 74 (.iadd) 1, e1 75 (.ireturn) 1 0], 76),
  (76, [true, true], [e1 76 (.aload_n 0) 1 0, e1 77 (.iload_n 1) 1 1, ei 78 (.invokevirtual 144) 3 11 33 2 0 2, e1 81 (.ireturn) 1 0], 82)]
set_option maxRecDepth 100000 in
def K_X1_bulkAlone : List XB := [(0, [true, true], [e1 0 (.aload_n 0) 1 0, e3 1 (.getfield 53) 3 11 0 2, e3 4 (.getfield 141) 3 18 3 2, e1 7 (.iload_n 1) 1 1, e0 8 (.iaload) 1, e1 9 (.aload_n 0) 1 0, e3 10 (.getfield 53) 3 11 0 2, e3 13 (.getfield 65) 3 18 2 2, e1 16 (.iload_n 1) 1 1, e0 17 (.iaload) 1, ec 18 (.iconst 5) 1 5, e1 19 (.if_icmp .ne 8) 3 27, ec 22 (.bipush 10) 2 10, e1 24 (.goto 4) 3 28], 27),
  (27, [false, false], [ec 27 (.iconst 0) 1 0], 28),
  (28, [false, false], [e0 28 (.iadd) 1, e1 29 (.ireturn) 1 0], 30)]
set_option maxRecDepth 100000 in
def K_X1_load : List XB := [(0, [true, true, false, false], [ec 0 (.iconst 0) 1 0, e1 1 (.istore_n 2) 1 2, ec 2 (.iconst 0) 1 0, e1 3 (.istore_n 3) 1 3], 4),
  (4, [true, true, true, true], [e1 4 (.iload_n 3) 1 3, e1 5 (.aload_n 0) 1 0, e3 6 (.getfield 53) 3 11 0 2, e3 9 (.getfield 128) 3 18 7 0, e1 12 (.if_icmp .ge 52) 3 64, e1 15 (.aload_n 0) 1 0, e3 16 (.getfield 53) 3 11 0 2, e3 19 (.getfield 65) 3 18 2 2, e1 22 (.iload_n 3) 1 3, e0 23 (.iaload) 1, ec 24 (.iconst 3) 1 3, e1 25 (.if_icmp .eq 33) 3 58, e1 28 (.aload_n 0) 1 0, e1 29 (.iload_n 3) 1 3, ei 30 (.invokevirtual 78) 3 11 9 2 0 2, e1 33 (.ifCond .eq 25) 3 58, e1 36 (.aload_n 0) 1 0, e1 37 (.aload_n 0) 1 0, e1 38 (.iload_n 3) 1 3, ec 39 (.iconst 0) 1 0, ei 40 (.invokevirtual 70) 3 11 8 3 0 3, e1 43 (.iload_n 1) 1 1, ei 44 (.invokevirtual 147) 3 11 12 3 0 5, e1 47 (.ifCond .eq 11) 3 58, e1 50 (.iload_n 2) 1 2, e1 51 (.aload_n 0) 1 0, e1 52 (.iload_n 3) 1 3, ei 53 (.invokevirtual 144) 3 11 33 2 0 2, e0 56 (.iadd) 1, e1 57 (.istore_n 2) 1 2], 58),
  (58, [true, true, true, true], [ek 58 (.iinc 3 1) 3 1 3, e1 61 (.goto (-57)) 3 4], 64),
  (64, [false, false, true, false], [e1 64 (.iload_n 2) 1 2, e1 65 (.ireturn) 1 0], 66)]
set_option maxRecDepth 100000 in
def K_X2_init : List XB := [(0, [true, true, true, true], [e1 0 (.aload_n 0) 1 0, ei 1 (.invokespecial 3) 3 0 0 1 9 9, e1 4 (.aload_n 0) 1 0, ec 5 (.bipush 8) 2 8, e1 7 (.newarray .int) 2 1, e3 9 (.putfield 9) 3 12 3 2, e1 12 (.aload_n 0) 1 0, ec 13 (.sipush 512) 3 512, e1 16 (.newarray .long) 2 2, e3 18 (.putfield 15) 3 12 4 2, e1 21 (.aload_n 0) 1 0, ec 22 (.bipush 64) 2 64, e1 24 (.newarray .long) 2 2, e3 26 (.putfield 19) 3 12 5 2, e1 29 (.aload_n 0) 1 0, e1 30 (.aload_n 1) 1 1, e3 31 (.putfield 22) 3 12 0 2, e1 34 (.aload_n 0) 1 0, e1 35 (.aload_n 2) 1 2, e3 36 (.putfield 26) 3 12 1 2, e1 39 (.aload_n 0) 1 0, e1 40 (.aload_n 3) 1 3, e3 41 (.putfield 30) 3 12 2 2, e0 44 (.return_) 1], 45)]
set_option maxRecDepth 100000 in
def K_X2_add : List XB := [(0, [true, true, false], [e1 0 (.aload_n 0) 1 0, e3 1 (.getfield 9) 3 12 3 2, e1 4 (.aload_n 0) 1 0, e3 5 (.getfield 34) 3 12 6 0, e1 8 (.iload_n 1) 1 1, e0 9 (.iastore) 1, ec 10 (.iconst 0) 1 0, e1 11 (.istore_n 2) 1 2], 12),
  (12, [true, true, true], [e1 12 (.iload_n 2) 1 2, ec 13 (.bipush 64) 2 64, e1 15 (.if_icmp .ge 36) 3 51, e1 18 (.aload_n 0) 1 0, e3 19 (.getfield 15) 3 12 4 2, e1 22 (.aload_n 0) 1 0, e3 23 (.getfield 34) 3 12 6 0, ec 26 (.bipush 64) 2 64, e0 28 (.imul) 1, e1 29 (.iload_n 2) 1 2, e0 30 (.iadd) 1, e1 31 (.iload_n 1) 1 1, ec 32 (.iconst 5) 1 5, e1 33 (.if_icmp .ne 10) 3 43, e1 36 (.iload_n 2) 1 2, ei 37 (.invokestatic 38) 3 0 186 1 1 1, e1 40 (.goto 4) 3 44], 43),
  (43, [true, true, true], [ec 43 (.lconst 0) 1 0], 44),
  (44, [true, true, true], [e0 44 (.lastore) 1, ek 45 (.iinc 2 1) 3 1 2, e1 48 (.goto (-36)) 3 12], 51),
  (51, [true, false, false], [e1 51 (.aload_n 0) 1 0, e0 52 (.dup) 1, e3 53 (.getfield 34) 3 12 6 0, e0 56 (.dup_x1) 1, ec 57 (.iconst 1) 1 1, e0 58 (.iadd) 1, e3 59 (.putfield 34) 3 12 6 0, e1 62 (.ireturn) 1 0], 63)]
set_option maxRecDepth 100000 in
def K_X2_has : List XB := [(0, [true, true], [e1 0 (.iload_n 1) 1 1, e1 1 (.aload_n 0) 1 0, e3 2 (.getfield 34) 3 12 6 0, ei 5 (.invokestatic 42) 3 0 123 2 0 2, e1 8 (.ireturn) 1 1], 9)]
set_option maxRecDepth 100000 in
def K_X2_rowOf : List XB := [(0, [true, true, true], [e1 0 (.aload_n 0) 1 0, e3 1 (.getfield 15) 3 12 4 2, e1 4 (.iload_n 1) 1 1, ec 5 (.bipush 64) 2 64, e0 7 (.imul) 1, e1 8 (.iload_n 2) 1 2, e0 9 (.iadd) 1, e0 10 (.laload) 1, e0 11 (.lreturn) 1], 12)]
set_option maxRecDepth 100000 in
def K_X2_holds : List XB := [(0, [true, true, true, true], [e1 0 (.aload_n 0) 1 0, e1 1 (.iload_n 1) 1 1, e1 2 (.iload_n 2) 1 2, ei 3 (.invokevirtual 46) 3 12 38 3 1 3, e1 6 (.iload_n 3) 1 3, ei 7 (.invokestatic 38) 3 0 186 1 1 1, e0 10 (.land) 1, ec 11 (.lconst 0) 1 0, e0 12 (.lcmp) 1, e1 13 (.ifCond .eq 7) 3 20, ec 16 (.iconst 1) 1 1, e1 17 (.goto 4) 3 21], 20),
  (20, [false, false, false, false], [ec 20 (.iconst 0) 1 0], 21),
  (21, [false, false, false, false], [e1 21 (.ireturn) 1 1], 22)]
set_option maxRecDepth 100000 in
def K_X2_join : List XB := [(0, [true, true, true, true, false], [e1 0 (.iload_n 1) 1 1, ec 1 (.bipush 64) 2 64, e0 3 (.imul) 1, e1 4 (.istore 4) 2 4, e1 6 (.aload_n 0) 1 0, e3 7 (.getfield 9) 3 12 3 2, e1 10 (.iload_n 1) 1 1, e0 11 (.iaload) 1, ec 12 (.iconst 5) 1 5, e1 13 (.if_icmp .ne 15) 3 28, e1 16 (.aload_n 0) 1 0, e3 17 (.getfield 15) 3 12 4 2, e1 20 (.iload 4) 2 4, e1 22 (.iload_n 2) 1 2, e1 23 (.iload_n 3) 1 3, ei 24 (.invokestatic 50) 3 0 41 4 3 7, e0 27 (.return_) 1], 28),
  (28, [true, true, true, true, true], [e1 28 (.aload_n 0) 1 0, e3 29 (.getfield 15) 3 12 4 2, e1 32 (.iload 4) 2 4, e1 34 (.iload_n 2) 1 2, e0 35 (.iadd) 1, e0 36 (.dup2) 1, e0 37 (.laload) 1, e1 38 (.iload_n 3) 1 3, ei 39 (.invokestatic 38) 3 0 186 1 1 1, e0 42 (.lor) 1, e0 43 (.lastore) 1, e1 44 (.aload_n 0) 1 0, e3 45 (.getfield 9) 3 12 3 2, e1 48 (.iload_n 1) 1 1, e0 49 (.iaload) 1, ec 50 (.iconst 4) 1 4, e1 51 (.if_icmp .ne 19) 3 70, e1 54 (.aload_n 0) 1 0, e3 55 (.getfield 15) 3 12 4 2, e1 58 (.iload 4) 2 4, e1 60 (.iload_n 3) 1 3, e0 61 (.iadd) 1, e0 62 (.dup2) 1, e0 63 (.laload) 1, e1 64 (.iload_n 2) 1 2, ei 65 (.invokestatic 38) 3 0 186 1 1 1, e0 68 (.lor) 1, e0 69 (.lastore) 1], 70),
  (70, [false, false, false, false, false], [e0 70 (.return_) 1], 71)]
set_option maxRecDepth 100000 in
def K_X2_merge : List XB := [(0, [true, true, true, true, false, false, false], [e1 0 (.aload_n 0) 1 0, e1 1 (.iload_n 1) 1 1, e1 2 (.iload_n 2) 1 2, e0 3 (.iadd) 1, e0 4 (.laload) 1, e1 5 (.aload_n 0) 1 0, e1 6 (.iload_n 1) 1 1, e1 7 (.iload_n 3) 1 3, e0 8 (.iadd) 1, e0 9 (.laload) 1, e0 10 (.lor) 1, e1 11 (.lstore 4) 2 4, ec 13 (.iconst 0) 1 0, e1 14 (.istore 6) 2 6], 16),
  (16, [true, true, false, false, true, false, true], [e1 16 (.iload 6) 2 6, ec 18 (.bipush 64) 2 64, e1 20 (.if_icmp .ge 30) 3 50, e1 23 (.lload 4) 2 4, e1 25 (.iload 6) 2 6, ei 27 (.invokestatic 38) 3 0 186 1 1 1, e0 30 (.land) 1, ec 31 (.lconst 0) 1 0, e0 32 (.lcmp) 1, e1 33 (.ifCond .eq 11) 3 44, e1 36 (.aload_n 0) 1 0, e1 37 (.iload_n 1) 1 1, e1 38 (.iload 6) 2 6, e0 40 (.iadd) 1, e1 41 (.lload 4) 2 4, e0 43 (.lastore) 1], 44),
  (44, [true, true, false, false, true, false, true], [ek 44 (.iinc 6 1) 3 1 6, e1 47 (.goto (-31)) 3 16], 50),
  (50, [false, false, false, false, false, false, false], [e0 50 (.return_) 1], 51)]
set_option maxRecDepth 100000 in
def K_X2_againstRelate : List XB := [(0, [true, true, true, true, false, false, false], [e1 0 (.aload_n 0) 1 0, e3 1 (.getfield 9) 3 12 3 2, e1 4 (.iload_n 1) 1 1, e0 5 (.iaload) 1, e1 6 (.istore 4) 2 4, e1 8 (.aload_n 0) 1 0, e1 9 (.iload_n 1) 1 1, e1 10 (.iload_n 2) 1 2, e1 11 (.iload_n 3) 1 3, ei 12 (.invokevirtual 54) 3 12 43 4 0 14, e1 15 (.istore 5) 2 5, e1 17 (.iload 5) 2 5, e1 19 (.ifCond .lt 6) 3 25, e1 22 (.iload 5) 2 5, e1 24 (.ireturn) 1 0], 25),
  (25, [true, true, true, true, true, false, false], [e1 25 (.iload 4) 2 4, e1 27 (.ifCond .eq 9) 3 36, e1 30 (.iload 4) 2 4, ec 32 (.iconst 2) 1 2, e1 33 (.if_icmp .ne 21) 3 54], 36),
  (36, [true, true, true, true, true, false, false], [e1 36 (.aload_n 0) 1 0, e1 37 (.iload_n 1) 1 1, e1 38 (.iload_n 2) 1 2, ec 39 (.bipush (-9)) 2 (-9), ei 41 (.invokevirtual 58) 3 12 44 4 0 5, e1 44 (.istore 6) 2 6, e1 46 (.iload 6) 2 6, e1 48 (.ifCond .lt 6) 3 54, e1 51 (.iload 6) 2 6, e1 53 (.ireturn) 1 0], 54),
  (54, [true, true, false, true, true, false, false], [e1 54 (.iload 4) 2 4, e1 56 (.ifCond .eq 9) 3 65, e1 59 (.iload 4) 2 4, ec 61 (.iconst 1) 1 1, e1 62 (.if_icmp .ne 14) 3 76], 65),
  (65, [true, true, false, true, false, false, false], [e1 65 (.aload_n 0) 1 0, e1 66 (.iload_n 1) 1 1, ec 67 (.bipush (-9)) 2 (-9), e1 69 (.iload_n 3) 1 3, ei 70 (.invokevirtual 58) 3 12 44 4 0 5, e1 73 (.goto 5) 3 78], 76),
  (76, [false, false, false, false, false, false, false], [ec 76 (.bipush (-9)) 2 (-9)], 78),
  (78, [false, false, false, false, false, false, false], [e1 78 (.ireturn) 1 0], 79)]
set_option maxRecDepth 100000 in
def K_X2_earliestDeny : List XB := [(0, [true, true, true, true, false, false, false, false, false, false, false, false, false, false], [e1 0 (.iload_n 2) 1 2, ei 1 (.invokestatic 38) 3 0 186 1 1 1, e1 4 (.lstore 4) 2 4, e1 6 (.iload_n 3) 1 3, ei 7 (.invokestatic 38) 3 0 186 1 1 1, e1 10 (.lstore 6) 2 6, e1 12 (.aload_n 0) 1 0, e3 13 (.getfield 9) 3 12 3 2, e1 16 (.iload_n 1) 1 1, e0 17 (.iaload) 1, ec 18 (.iconst 5) 1 5, e1 19 (.if_icmp .ne 19) 3 38, e1 22 (.aload_n 0) 1 0, e1 23 (.iload_n 1) 1 1, e1 24 (.iload_n 2) 1 2, ei 25 (.invokevirtual 46) 3 12 38 3 1 3, e1 28 (.lstore 4) 2 4, e1 30 (.aload_n 0) 1 0, e1 31 (.iload_n 1) 1 1, e1 32 (.iload_n 3) 1 3, ei 33 (.invokevirtual 46) 3 12 38 3 1 3, e1 36 (.lstore 6) 2 6], 38),
  (38, [true, true, false, false, true, false, true, false, false, false, false, false, false, false], [e1 38 (.aload_n 0) 1 0, e3 39 (.getfield 9) 3 12 3 2, e1 42 (.iload_n 1) 1 1, e0 43 (.iaload) 1, ec 44 (.iconst 5) 1 5, e1 45 (.if_icmp .eq 13) 3 58, e1 48 (.aload_n 0) 1 0, e3 49 (.getfield 9) 3 12 3 2, e1 52 (.iload_n 1) 1 1, e0 53 (.iaload) 1, ec 54 (.iconst 4) 1 4, e1 55 (.if_icmp .ne 7) 3 62], 58),
  (58, [true, true, false, false, true, false, true, false, false, false, false, false, false, false], [ec 58 (.iconst 1) 1 1, e1 59 (.goto 4) 3 63], 62),
  (62, [true, true, false, false, true, false, true, false, false, false, false, false, false, false], [ec 62 (.iconst 0) 1 0], 63),
  (63, [true, true, false, false, true, false, true, false, false, false, false, false, false, false], [e1 63 (.istore 8) 2 8, ec 65 (.iconst 0) 1 0, e1 66 (.istore 9) 2 9], 68),
  (68, [true, true, false, false, true, false, true, false, true, true, false, false, false, false], [e1 68 (.iload 9) 2 9, e1 70 (.aload_n 0) 1 0, e3 71 (.getfield 26) 3 12 1 2, e3 74 (.getfield 61) 3 14 4 0, e1 77 (.if_icmp .ge 116) 3 193, e1 80 (.aload_n 0) 1 0, e3 81 (.getfield 26) 3 12 1 2, e3 84 (.getfield 64) 3 14 0 2, e1 87 (.iload 9) 2 9, e0 89 (.iaload) 1, ec 90 (.bipush 7) 2 7, e1 92 (.if_icmp .ne 95) 3 187, e1 95 (.aload_n 0) 1 0, e3 96 (.getfield 26) 3 12 1 2, e3 99 (.getfield 67) 3 14 1 2, e1 102 (.iload 9) 2 9, e0 104 (.iaload) 1, e1 105 (.iload_n 1) 1 1, e1 106 (.if_icmp .ne 81) 3 187, e1 109 (.aload_n 0) 1 0, e3 110 (.getfield 26) 3 12 1 2, e3 113 (.getfield 70) 3 14 2 2, e1 116 (.iload 9) 2 9, e0 118 (.iaload) 1, ei 119 (.invokestatic 38) 3 0 186 1 1 1, e1 122 (.lstore 10) 2 10, e1 124 (.aload_n 0) 1 0, e3 125 (.getfield 26) 3 12 1 2, e3 128 (.getfield 73) 3 14 3 2, e1 131 (.iload 9) 2 9, e0 133 (.iaload) 1, ei 134 (.invokestatic 38) 3 0 186 1 1 1, e1 137 (.lstore 12) 2 12, e1 139 (.lload 10) 2 10, e1 141 (.lload 4) 2 4, e0 143 (.land) 1, ec 144 (.lconst 0) 1 0, e0 145 (.lcmp) 1, e1 146 (.ifCond .eq 13) 3 159, e1 149 (.lload 12) 2 12, e1 151 (.lload 6) 2 6, e0 153 (.land) 1, ec 154 (.lconst 0) 1 0, e0 155 (.lcmp) 1, e1 156 (.ifCond .ne 28) 3 184], 159),
  (159, [true, true, false, false, true, false, true, false, true, true, true, false, true, false], [e1 159 (.iload 8) 2 8, e1 161 (.ifCond .eq 26) 3 187, e1 164 (.lload 10) 2 10, e1 166 (.lload 6) 2 6, e0 168 (.land) 1, ec 169 (.lconst 0) 1 0, e0 170 (.lcmp) 1, e1 171 (.ifCond .eq 16) 3 187, e1 174 (.lload 12) 2 12, e1 176 (.lload 4) 2 4, e0 178 (.land) 1, ec 179 (.lconst 0) 1 0, e0 180 (.lcmp) 1, e1 181 (.ifCond .eq 6) 3 187], 184),
  (184, [false, false, false, false, false, false, false, false, false, true, false, false, false, false], [e1 184 (.iload 9) 2 9, e1 186 (.ireturn) 1 0], 187),
  (187, [true, true, false, false, true, false, true, false, true, true, false, false, false, false], [ek 187 (.iinc 9 1) 3 1 9, e1 190 (.goto (-122)) 3 68], 193),
  (193, [false, false, false, false, false, false, false, false, false, false, false, false, false, false], [ec 193 (.bipush (-9)) 2 (-9), e1 195 (.ireturn) 1 0], 196)]
set_option maxRecDepth 100000 in
def K_X2_earliestRelate : List XB := [(0, [true, true, true, true, false], [ec 0 (.iconst 0) 1 0, e1 1 (.istore 4) 2 4], 3),
  (3, [true, true, true, true, true], [e1 3 (.iload 4) 2 4, e1 5 (.aload_n 0) 1 0, e3 6 (.getfield 26) 3 12 1 2, e3 9 (.getfield 61) 3 14 4 0, e1 12 (.if_icmp .ge 81) 3 93, e1 15 (.aload_n 0) 1 0, e3 16 (.getfield 26) 3 12 1 2, e3 19 (.getfield 64) 3 14 0 2, e1 22 (.iload 4) 2 4, e0 24 (.iaload) 1, ec 25 (.bipush 6) 2 6, e1 27 (.if_icmp .ne 60) 3 87, e1 30 (.aload_n 0) 1 0, e3 31 (.getfield 26) 3 12 1 2, e3 34 (.getfield 67) 3 14 1 2, e1 37 (.iload 4) 2 4, e0 39 (.iaload) 1, e1 40 (.iload_n 1) 1 1, e1 41 (.if_icmp .ne 46) 3 87, e1 44 (.iload_n 2) 1 2, ec 45 (.bipush (-9)) 2 (-9), e1 47 (.if_icmp .eq 17) 3 64, e1 50 (.aload_n 0) 1 0, e3 51 (.getfield 26) 3 12 1 2, e3 54 (.getfield 70) 3 14 2 2, e1 57 (.iload 4) 2 4, e0 59 (.iaload) 1, e1 60 (.iload_n 2) 1 2, e1 61 (.if_icmp .ne 26) 3 87], 64),
  (64, [true, true, true, true, true], [e1 64 (.iload_n 3) 1 3, ec 65 (.bipush (-9)) 2 (-9), e1 67 (.if_icmp .eq 17) 3 84, e1 70 (.aload_n 0) 1 0, e3 71 (.getfield 26) 3 12 1 2, e3 74 (.getfield 73) 3 14 3 2, e1 77 (.iload 4) 2 4, e0 79 (.iaload) 1, e1 80 (.iload_n 3) 1 3, e1 81 (.if_icmp .ne 6) 3 87], 84),
  (84, [false, false, false, false, true], [e1 84 (.iload 4) 2 4, e1 86 (.ireturn) 1 0], 87),
  (87, [true, true, true, true, true], [ek 87 (.iinc 4 1) 3 1 4, e1 90 (.goto (-87)) 3 3], 93),
  (93, [false, false, false, false, false], [ec 93 (.bipush (-9)) 2 (-9), e1 95 (.ireturn) 1 0], 96)]
set_option maxRecDepth 100000 in
def K_X2_heldBy : List XB := [(0, [true, true, true, true, false], [e1 0 (.aload_n 0) 1 0, e3 1 (.getfield 9) 3 12 3 2, e1 4 (.iload_n 1) 1 1, e0 5 (.iaload) 1, ec 6 (.iconst 5) 1 5, e1 7 (.if_icmp .ne 11) 3 18, e1 10 (.aload_n 0) 1 0, e1 11 (.iload_n 1) 1 1, e1 12 (.iload_n 2) 1 2, e1 13 (.iload_n 3) 1 3, ei 14 (.invokevirtual 76) 3 12 46 4 0 5, e1 17 (.ireturn) 1 0], 18),
  (18, [true, true, true, true, false], [e1 18 (.aload_n 0) 1 0, e1 19 (.iload_n 1) 1 1, e1 20 (.iload_n 2) 1 2, e1 21 (.iload_n 3) 1 3, ei 22 (.invokevirtual 58) 3 12 44 4 0 5, e1 25 (.istore 4) 2 4, e1 27 (.iload 4) 2 4, e1 29 (.ifCond .lt 8) 3 37, e1 32 (.iload 4) 2 4, e1 34 (.goto 10) 3 44], 37),
  (37, [true, true, true, true, false], [e1 37 (.aload_n 0) 1 0, e1 38 (.iload_n 1) 1 1, e1 39 (.iload_n 3) 1 3, e1 40 (.iload_n 2) 1 2, ei 41 (.invokevirtual 58) 3 12 44 4 0 5], 44),
  (44, [false, false, false, false, false], [e1 44 (.ireturn) 1 0], 45)]
set_option maxRecDepth 100000 in
def K_X2_togetherBy : List XB := [(0, [true, true, true, true, false], [ec 0 (.iconst 0) 1 0, e1 1 (.istore 4) 2 4], 3),
  (3, [true, true, true, true, true], [e1 3 (.iload 4) 2 4, ec 5 (.bipush 64) 2 64, e1 7 (.if_icmp .ge 21) 3 28, e1 10 (.aload_n 0) 1 0, e3 11 (.getfield 19) 3 12 5 2, e1 14 (.iload 4) 2 4, e1 16 (.iload 4) 2 4, ei 18 (.invokestatic 38) 3 0 186 1 1 1, e0 21 (.lastore) 1, ek 22 (.iinc 4 1) 3 1 4, e1 25 (.goto (-22)) 3 3], 28),
  (28, [true, true, true, true, false], [ec 28 (.iconst 0) 1 0, e1 29 (.istore 4) 2 4], 31),
  (31, [true, true, true, true, true], [e1 31 (.iload 4) 2 4, e1 33 (.aload_n 0) 1 0, e3 34 (.getfield 26) 3 12 1 2, e3 37 (.getfield 61) 3 14 4 0, e1 40 (.if_icmp .ge 85) 3 125, e1 43 (.aload_n 0) 1 0, e3 44 (.getfield 26) 3 12 1 2, e3 47 (.getfield 64) 3 14 0 2, e1 50 (.iload 4) 2 4, e0 52 (.iaload) 1, ec 53 (.bipush 6) 2 6, e1 55 (.if_icmp .ne 64) 3 119, e1 58 (.aload_n 0) 1 0, e3 59 (.getfield 26) 3 12 1 2, e3 62 (.getfield 67) 3 14 1 2, e1 65 (.iload 4) 2 4, e0 67 (.iaload) 1, e1 68 (.iload_n 1) 1 1, e1 69 (.if_icmp .ne 50) 3 119, e1 72 (.aload_n 0) 1 0, e3 73 (.getfield 19) 3 12 5 2, ec 76 (.iconst 0) 1 0, e1 77 (.aload_n 0) 1 0, e3 78 (.getfield 26) 3 12 1 2, e3 81 (.getfield 70) 3 14 2 2, e1 84 (.iload 4) 2 4, e0 86 (.iaload) 1, e1 87 (.aload_n 0) 1 0, e3 88 (.getfield 26) 3 12 1 2, e3 91 (.getfield 73) 3 14 3 2, e1 94 (.iload 4) 2 4, e0 96 (.iaload) 1, ei 97 (.invokestatic 50) 3 0 41 4 3 7, e1 100 (.aload_n 0) 1 0, e3 101 (.getfield 19) 3 12 5 2, e1 104 (.iload_n 2) 1 2, e0 105 (.laload) 1, e1 106 (.iload_n 3) 1 3, ei 107 (.invokestatic 38) 3 0 186 1 1 1, e0 110 (.land) 1, ec 111 (.lconst 0) 1 0, e0 112 (.lcmp) 1, e1 113 (.ifCond .eq 6) 3 119, e1 116 (.iload 4) 2 4, e1 118 (.ireturn) 1 0], 119),
  (119, [true, true, true, true, true], [ek 119 (.iinc 4 1) 3 1 4, e1 122 (.goto (-91)) 3 31], 125),
  (125, [false, false, false, false, false], [ec 125 (.bipush (-9)) 2 (-9), e1 127 (.ireturn) 1 0], 128)]
set_option maxRecDepth 100000 in
def K_X2_walkFrom : List XB := [(0, [true, true, true, false, false, false, false, false], [e1 0 (.aload_n 0) 1 0, e3 1 (.getfield 30) 3 12 2 2, e1 4 (.iload_n 2) 1 2, ei 5 (.invokevirtual 79) 3 20 117 2 3 3, ec 8 (.iconst 0) 1 0, e1 9 (.istore_n 3) 1 3], 10),
  (10, [true, true, false, true, false, false, false, false], [e1 10 (.iload_n 3) 1 3, e1 11 (.aload_n 0) 1 0, e3 12 (.getfield 30) 3 12 2 2, e3 15 (.getfield 85) 3 20 3 0, e1 18 (.if_icmp .ge 76) 3 94, e1 21 (.aload_n 0) 1 0, e3 22 (.getfield 30) 3 12 2 2, e3 25 (.getfield 86) 3 20 2 2, e1 28 (.iload_n 3) 1 3, e0 29 (.iaload) 1, e1 30 (.istore 4) 2 4, e1 32 (.aload_n 0) 1 0, e1 33 (.iload_n 1) 1 1, e1 34 (.iload 4) 2 4, ei 36 (.invokevirtual 46) 3 12 38 3 1 3, e1 39 (.lstore 5) 2 5, ec 41 (.iconst 0) 1 0, e1 42 (.istore 7) 2 7], 44),
  (44, [true, true, false, true, true, true, false, true], [e1 44 (.iload 7) 2 7, e1 46 (.aload_n 0) 1 0, e3 47 (.getfield 22) 3 12 0 2, e3 50 (.getfield 89) 3 18 7 0, e1 53 (.if_icmp .ge 35) 3 88, e1 56 (.lload 5) 2 5, e1 58 (.iload 7) 2 7, ei 60 (.invokestatic 38) 3 0 186 1 1 1, e0 63 (.land) 1, ec 64 (.lconst 0) 1 0, e0 65 (.lcmp) 1, e1 66 (.ifCond .eq 16) 3 82, e1 69 (.aload_n 0) 1 0, e3 70 (.getfield 30) 3 12 2 2, e1 73 (.iload 4) 2 4, e1 75 (.iload 7) 2 7, e1 77 (.iload 7) 2 7, ei 79 (.invokevirtual 92) 3 20 118 4 3 4], 82),
  (82, [true, true, false, true, true, true, false, true], [ek 82 (.iinc 7 1) 3 1 7, e1 85 (.goto (-41)) 3 44], 88),
  (88, [true, true, false, true, false, false, false, false], [ek 88 (.iinc 3 1) 3 1 3, e1 91 (.goto (-81)) 3 10], 94),
  (94, [true, false, false, false, false, false, false, false], [e1 94 (.aload_n 0) 1 0, e3 95 (.getfield 30) 3 12 2 2, e0 98 (.areturn) 1], 99)]
set_option maxRecDepth 100000 in
def K_X2_couples : List XB := [(0, [true, true, false, false], [ec 0 (.iconst 0) 1 0, e1 1 (.istore_n 2) 1 2, ec 2 (.iconst 0) 1 0, e1 3 (.istore_n 3) 1 3], 4),
  (4, [true, true, true, true], [e1 4 (.iload_n 3) 1 3, e1 5 (.aload_n 0) 1 0, e3 6 (.getfield 22) 3 12 0 2, e3 9 (.getfield 89) 3 18 7 0, e1 12 (.if_icmp .ge 30) 3 42, e1 15 (.iload_n 2) 1 2, e1 16 (.aload_n 0) 1 0, e1 17 (.iload_n 1) 1 1, e1 18 (.iload_n 3) 1 3, ei 19 (.invokevirtual 46) 3 12 38 3 1 3, e1 22 (.iload_n 3) 1 3, ei 23 (.invokestatic 38) 3 0 186 1 1 1, ec 26 (.ldc2_w 96) 3 (-1), e0 29 (.lxor) 1, e0 30 (.land) 1, ei 31 (.invokestatic 98) 3 0 308 1 0 2, e0 34 (.iadd) 1, e1 35 (.istore_n 2) 1 2, ek 36 (.iinc 3 1) 3 1 3, e1 39 (.goto (-35)) 3 4], 42),
  (42, [false, false, true, false], [e1 42 (.iload_n 2) 1 2, e1 43 (.ireturn) 1 0], 44)]
set_option maxRecDepth 100000 in
def K_X3_init : List XB := [(0, [true, true, true], [e1 0 (.aload_n 0) 1 0, ei 1 (.invokespecial 3) 3 0 0 1 9 9, e1 4 (.aload_n 0) 1 0, ec 5 (.sipush 512) 3 512, e1 8 (.newarray .int) 2 1, e3 10 (.putfield 9) 3 13 2 2, e1 13 (.aload_n 0) 1 0, ec 14 (.sipush 512) 3 512, e1 17 (.newarray .int) 2 1, e3 19 (.putfield 15) 3 13 3 2, e1 22 (.aload_n 0) 1 0, ec 23 (.sipush 512) 3 512, e1 26 (.newarray .int) 2 1, e3 28 (.putfield 18) 3 13 4 2, e1 31 (.aload_n 0) 1 0, ec 32 (.sipush 512) 3 512, e1 35 (.newarray .int) 2 1, e3 37 (.putfield 21) 3 13 5 2, e1 40 (.aload_n 0) 1 0, ec 41 (.bipush 64) 2 64, e1 43 (.newarray .int) 2 1, e3 45 (.putfield 24) 3 13 6 2, e1 48 (.aload_n 0) 1 0, e1 49 (.aload_n 1) 1 1, e3 50 (.putfield 27) 3 13 0 2, e1 53 (.aload_n 0) 1 0, e1 54 (.aload_n 2) 1 2, e3 55 (.putfield 31) 3 13 1 2, e0 58 (.return_) 1], 59)]
set_option maxRecDepth 100000 in
def K_X3_begin : List XB := [(0, [true, true, false], [ec 0 (.iconst 0) 1 0, e1 1 (.istore_n 2) 1 2], 2),
  (2, [true, true, true], [e1 2 (.iload_n 2) 1 2, ec 3 (.bipush 8) 2 8, e1 5 (.if_icmp .ge 26) 3 31, e1 8 (.aload_n 0) 1 0, e1 9 (.iload_n 1) 1 1, ec 10 (.bipush 8) 2 8, e0 12 (.imul) 1, e1 13 (.iload_n 2) 1 2, e0 14 (.iadd) 1, ec 15 (.iconst 0) 1 0, ec 16 (.bipush (-9)) 2 (-9), ec 18 (.bipush (-9)) 2 (-9), ec 20 (.bipush (-9)) 2 (-9), ei 22 (.invokevirtual 35) 3 13 51 6 3 6, ek 25 (.iinc 2 1) 3 1 2, e1 28 (.goto (-26)) 3 2], 31),
  (31, [true, true, false], [e1 31 (.aload_n 0) 1 0, e3 32 (.getfield 24) 3 13 6 2, e1 35 (.iload_n 1) 1 1, ec 36 (.bipush (-9)) 2 (-9), e0 38 (.iastore) 1, e0 39 (.return_) 1], 40)]
set_option maxRecDepth 100000 in
def K_X3_write : List XB := [(0, [true, true, true, true, true, true], [e1 0 (.aload_n 0) 1 0, e3 1 (.getfield 9) 3 13 2 2, e1 4 (.iload_n 1) 1 1, e1 5 (.iload_n 2) 1 2, e0 6 (.iastore) 1, e1 7 (.aload_n 0) 1 0, e3 8 (.getfield 15) 3 13 3 2, e1 11 (.iload_n 1) 1 1, e1 12 (.iload_n 3) 1 3, e0 13 (.iastore) 1, e1 14 (.aload_n 0) 1 0, e3 15 (.getfield 18) 3 13 4 2, e1 18 (.iload_n 1) 1 1, e1 19 (.iload 4) 2 4, e0 21 (.iastore) 1, e1 22 (.aload_n 0) 1 0, e3 23 (.getfield 21) 3 13 5 2, e1 26 (.iload_n 1) 1 1, e1 27 (.iload 5) 2 5, e0 29 (.iastore) 1, e0 30 (.return_) 1], 31)]
set_option maxRecDepth 100000 in
def K_X3_sortOf : List XB := [(0, [true, true, true], [e1 0 (.aload_n 0) 1 0, e3 1 (.getfield 9) 3 13 2 2, e1 4 (.iload_n 1) 1 1, ec 5 (.bipush 8) 2 8, e0 7 (.imul) 1, e1 8 (.iload_n 2) 1 2, e0 9 (.iadd) 1, e0 10 (.iaload) 1, e1 11 (.ireturn) 1 0], 12)]
set_option maxRecDepth 100000 in
def K_X3_leadsTo : List XB := [(0, [true, true, true], [e1 0 (.aload_n 0) 1 0, e3 1 (.getfield 15) 3 13 3 2, e1 4 (.iload_n 1) 1 1, ec 5 (.bipush 8) 2 8, e0 7 (.imul) 1, e1 8 (.iload_n 2) 1 2, e0 9 (.iadd) 1, e0 10 (.iaload) 1, e1 11 (.ireturn) 1 0], 12)]
set_option maxRecDepth 100000 in
def K_X3_isTold : List XB := [(0, [true, true, true], [e1 0 (.aload_n 0) 1 0, e1 1 (.iload_n 1) 1 1, e1 2 (.iload_n 2) 1 2, ei 3 (.invokevirtual 39) 3 13 52 3 0 3, ec 6 (.iconst 2) 1 2, e1 7 (.if_icmp .lt 7) 3 14, ec 10 (.iconst 1) 1 1, e1 11 (.goto 4) 3 15], 14),
  (14, [false, false, false], [ec 14 (.iconst 0) 1 0], 15),
  (15, [false, false, false], [e1 15 (.ireturn) 1 1], 16)]
set_option maxRecDepth 100000 in
def K_X3_toldIn : List XB := [(0, [true, true, true], [e1 0 (.aload_n 0) 1 0, e3 1 (.getfield 21) 3 13 5 2, e1 4 (.iload_n 1) 1 1, ec 5 (.bipush 8) 2 8, e0 7 (.imul) 1, e1 8 (.iload_n 2) 1 2, e0 9 (.iadd) 1, e0 10 (.iaload) 1, e1 11 (.ireturn) 1 0], 12)]
set_option maxRecDepth 100000 in
def K_X3_opposite : List XB := [(0, [true], [e1 0 (.iload_n 0) 1 0, ec 1 (.iconst 1) 1 1, e0 2 (.ixor) 1, e1 3 (.ireturn) 1 0], 4)]
set_option maxRecDepth 100000 in
def K_X3_tellExit : List XB := [(0, [true, true, true, true, true], [e1 0 (.aload_n 0) 1 0, e1 1 (.iload_n 1) 1 1, ec 2 (.bipush 8) 2 8, e0 4 (.imul) 1, e1 5 (.iload_n 2) 1 2, e0 6 (.iadd) 1, e1 7 (.iload_n 3) 1 3, ec 8 (.bipush (-9)) 2 (-9), e1 10 (.if_icmp .ne 7) 3 17, ec 13 (.iconst 4) 1 4, e1 14 (.goto 4) 3 18], 17),
  (17, [true, true, true, true, true], [ec 17 (.iconst 2) 1 2], 18),
  (18, [true, true, true, true, true], [e1 18 (.iload_n 3) 1 3, ec 19 (.bipush (-9)) 2 (-9), e1 21 (.iload 4) 2 4, ei 23 (.invokevirtual 35) 3 13 51 6 3 6, e1 26 (.iload_n 3) 1 3, ec 27 (.bipush (-9)) 2 (-9), e1 29 (.if_icmp .eq 34) 3 63, e1 32 (.aload_n 0) 1 0, e1 33 (.iload_n 3) 1 3, e1 34 (.iload_n 2) 1 2, ei 35 (.invokestatic 43) 3 0 56 1 0 1, ei 38 (.invokevirtual 39) 3 13 52 3 0 3, e1 41 (.ifCond .ne 22) 3 63, e1 44 (.aload_n 0) 1 0, e1 45 (.iload_n 3) 1 3, ec 46 (.bipush 8) 2 8, e0 48 (.imul) 1, e1 49 (.iload_n 2) 1 2, ei 50 (.invokestatic 43) 3 0 56 1 0 1, e0 53 (.iadd) 1, ec 54 (.iconst 1) 1 1, e1 55 (.iload_n 1) 1 1, ec 56 (.bipush (-9)) 2 (-9), ec 58 (.bipush (-9)) 2 (-9), ei 60 (.invokevirtual 35) 3 13 51 6 3 6], 63),
  (63, [false, false, false, false, false], [e0 63 (.return_) 1], 64)]
set_option maxRecDepth 100000 in
def K_X3_againstDoor : List XB := [(0, [true, true, true, true, true, false], [e1 0 (.aload_n 0) 1 0, e3 1 (.getfield 24) 3 13 6 2, e1 4 (.iload_n 1) 1 1, e0 5 (.iaload) 1, e1 6 (.ifCond .lt 10) 3 16, e1 9 (.aload_n 0) 1 0, e3 10 (.getfield 24) 3 13 6 2, e1 13 (.iload_n 1) 1 1, e0 14 (.iaload) 1, e1 15 (.ireturn) 1 0], 16),
  (16, [true, false, true, true, true, false], [e1 16 (.aload_n 0) 1 0, e1 17 (.iload_n 2) 1 2, e1 18 (.iload_n 3) 1 3, ei 19 (.invokevirtual 47) 3 13 55 3 0 3, e1 22 (.istore 5) 2 5, e1 24 (.iload 5) 2 5, e1 26 (.ifCond .lt 8) 3 34, e1 29 (.iload 5) 2 5, e1 31 (.goto 13) 3 44], 34),
  (34, [true, false, false, true, true, false], [e1 34 (.aload_n 0) 1 0, e1 35 (.iload 4) 2 4, e1 37 (.iload_n 3) 1 3, ei 38 (.invokestatic 43) 3 0 56 1 0 1, ei 41 (.invokevirtual 47) 3 13 55 3 0 3], 44),
  (44, [false, false, false, false, false, false], [e1 44 (.ireturn) 1 0], 45)]
set_option maxRecDepth 100000 in
def K_X3_tellDoor : List XB := [(0, [true, true, true, true, true, true], [e1 0 (.aload_n 0) 1 0, e3 1 (.getfield 24) 3 13 6 2, e1 4 (.iload_n 1) 1 1, e1 5 (.iload 5) 2 5, e0 7 (.iastore) 1, e1 8 (.aload_n 0) 1 0, e1 9 (.iload_n 2) 1 2, ec 10 (.bipush 8) 2 8, e0 12 (.imul) 1, e1 13 (.iload_n 3) 1 3, e0 14 (.iadd) 1, ec 15 (.iconst 3) 1 3, e1 16 (.iload 4) 2 4, e1 18 (.iload_n 1) 1 1, e1 19 (.iload 5) 2 5, ei 21 (.invokevirtual 35) 3 13 51 6 3 6, e1 24 (.aload_n 0) 1 0, e1 25 (.iload 4) 2 4, ec 27 (.bipush 8) 2 8, e0 29 (.imul) 1, e1 30 (.iload_n 3) 1 3, ei 31 (.invokestatic 43) 3 0 56 1 0 1, e0 34 (.iadd) 1, ec 35 (.iconst 3) 1 3, e1 36 (.iload_n 2) 1 2, e1 37 (.iload_n 1) 1 1, e1 38 (.iload 5) 2 5, ei 40 (.invokevirtual 35) 3 13 51 6 3 6, e0 43 (.return_) 1], 44)]
set_option maxRecDepth 100000 in
def K_X3_isPassable : List XB := [(0, [true, true, true, true, false], [e1 0 (.aload_n 0) 1 0, e3 1 (.getfield 18) 3 13 4 2, e1 4 (.iload_n 1) 1 1, ec 5 (.bipush 8) 2 8, e0 7 (.imul) 1, e1 8 (.iload_n 2) 1 2, e0 9 (.iadd) 1, e0 10 (.iaload) 1, e1 11 (.istore 4) 2 4, e1 13 (.aload_n 0) 1 0, e1 14 (.iload_n 1) 1 1, e1 15 (.iload_n 2) 1 2, ei 16 (.invokevirtual 50) 3 13 53 3 0 3, e1 19 (.ifCond .lt 29) 3 48, e1 22 (.iload_n 3) 1 3, e1 23 (.ifCond .ne 21) 3 44, e1 26 (.iload 4) 2 4, e1 28 (.ifCond .lt 16) 3 44, e1 31 (.aload_n 0) 1 0, e3 32 (.getfield 27) 3 13 0 2, e3 35 (.getfield 53) 3 18 6 2, e1 38 (.iload 4) 2 4, e0 40 (.baload) 1, e1 41 (.ifCond .eq 7) 3 48], 44),
  (44, [false, false, false, false, false], [ec 44 (.iconst 1) 1 1, e1 45 (.goto 4) 3 49], 48),
  (48, [false, false, false, false, false], [ec 48 (.iconst 0) 1 0], 49),
  (49, [false, false, false, false, false], [e1 49 (.ireturn) 1 1], 50)]
set_option maxRecDepth 100000 in
def K_X3_walkFrom : List XB := [(0, [true, true, true, false, false, false], [e1 0 (.aload_n 0) 1 0, e3 1 (.getfield 31) 3 13 1 2, e1 4 (.iload_n 1) 1 1, ei 5 (.invokevirtual 59) 3 20 117 2 3 3, ec 8 (.iconst 0) 1 0, e1 9 (.istore_n 3) 1 3], 10),
  (10, [true, false, true, true, false, false], [e1 10 (.iload_n 3) 1 3, e1 11 (.aload_n 0) 1 0, e3 12 (.getfield 31) 3 13 1 2, e3 15 (.getfield 65) 3 20 3 0, e1 18 (.if_icmp .ge 67) 3 85, e1 21 (.aload_n 0) 1 0, e3 22 (.getfield 31) 3 13 1 2, e3 25 (.getfield 69) 3 20 2 2, e1 28 (.iload_n 3) 1 3, e0 29 (.iaload) 1, e1 30 (.istore 4) 2 4, ec 32 (.iconst 0) 1 0, e1 33 (.istore 5) 2 5], 35),
  (35, [true, false, true, true, true, true], [e1 35 (.iload 5) 2 5, ec 37 (.bipush 8) 2 8, e1 39 (.if_icmp .ge 40) 3 79, e1 42 (.aload_n 0) 1 0, e1 43 (.iload 4) 2 4, e1 45 (.iload 5) 2 5, e1 47 (.iload_n 2) 1 2, ei 48 (.invokevirtual 72) 3 13 60 4 0 5, e1 51 (.ifCond .eq 22) 3 73, e1 54 (.aload_n 0) 1 0, e3 55 (.getfield 31) 3 13 1 2, e1 58 (.iload 4) 2 4, e1 60 (.aload_n 0) 1 0, e1 61 (.iload 4) 2 4, e1 63 (.iload 5) 2 5, ei 65 (.invokevirtual 50) 3 13 53 3 0 3, e1 68 (.iload 5) 2 5, ei 70 (.invokevirtual 76) 3 20 118 4 3 4], 73),
  (73, [true, false, true, true, true, true], [ek 73 (.iinc 5 1) 3 1 5, e1 76 (.goto (-41)) 3 35], 79),
  (79, [true, false, true, true, false, false], [ek 79 (.iinc 3 1) 3 1 3, e1 82 (.goto (-72)) 3 10], 85),
  (85, [true, false, false, false, false, false], [e1 85 (.aload_n 0) 1 0, e3 86 (.getfield 31) 3 13 1 2, e0 89 (.areturn) 1], 90)]
set_option maxRecDepth 100000 in
def K_X4_init : List XB := [(0, [true], [e1 0 (.aload_n 0) 1 0, ei 1 (.invokespecial 3) 3 0 0 1 9 9, e1 4 (.aload_n 0) 1 0, ec 5 (.sipush 300) 3 300, e1 8 (.newarray .int) 2 1, e3 10 (.putfield 9) 3 14 0 2, e1 13 (.aload_n 0) 1 0, ec 14 (.sipush 300) 3 300, e1 17 (.newarray .int) 2 1, e3 19 (.putfield 15) 3 14 1 2, e1 22 (.aload_n 0) 1 0, ec 23 (.sipush 300) 3 300, e1 26 (.newarray .int) 2 1, e3 28 (.putfield 18) 3 14 2 2, e1 31 (.aload_n 0) 1 0, ec 32 (.sipush 300) 3 300, e1 35 (.newarray .int) 2 1, e3 37 (.putfield 21) 3 14 3 2, e0 40 (.return_) 1], 41)]
set_option maxRecDepth 100000 in
def K_X4_areFull : List XB := [(0, [true], [e1 0 (.aload_n 0) 1 0, e3 1 (.getfield 24) 3 14 4 0, ec 4 (.sipush 300) 3 300, e1 7 (.if_icmp .lt 7) 3 14, ec 10 (.iconst 1) 1 1, e1 11 (.goto 4) 3 15], 14),
  (14, [false], [ec 14 (.iconst 0) 1 0], 15),
  (15, [false], [e1 15 (.ireturn) 1 1], 16)]
set_option maxRecDepth 100000 in
def K_X4_add : List XB := [(0, [true, true, true, true, true], [e1 0 (.aload_n 0) 1 0, e3 1 (.getfield 9) 3 14 0 2, e1 4 (.aload_n 0) 1 0, e3 5 (.getfield 24) 3 14 4 0, e1 8 (.iload_n 1) 1 1, e0 9 (.iastore) 1, e1 10 (.aload_n 0) 1 0, e3 11 (.getfield 15) 3 14 1 2, e1 14 (.aload_n 0) 1 0, e3 15 (.getfield 24) 3 14 4 0, e1 18 (.iload_n 2) 1 2, e0 19 (.iastore) 1, e1 20 (.aload_n 0) 1 0, e3 21 (.getfield 18) 3 14 2 2, e1 24 (.aload_n 0) 1 0, e3 25 (.getfield 24) 3 14 4 0, e1 28 (.iload_n 3) 1 3, e0 29 (.iastore) 1, e1 30 (.aload_n 0) 1 0, e3 31 (.getfield 21) 3 14 3 2, e1 34 (.aload_n 0) 1 0, e3 35 (.getfield 24) 3 14 4 0, e1 38 (.iload 4) 2 4, e0 40 (.iastore) 1, e1 41 (.aload_n 0) 1 0, e0 42 (.dup) 1, e3 43 (.getfield 24) 3 14 4 0, e0 46 (.dup_x1) 1, ec 47 (.iconst 1) 1 1, e0 48 (.iadd) 1, e3 49 (.putfield 24) 3 14 4 0, e1 52 (.ireturn) 1 0], 53)]
set_option maxRecDepth 100000 in
def K_X4_earliest : List XB := [(0, [true, true, true, true, true, false], [ec 0 (.iconst 0) 1 0, e1 1 (.istore 5) 2 5], 3),
  (3, [true, true, true, true, true, true], [e1 3 (.iload 5) 2 5, e1 5 (.aload_n 0) 1 0, e3 6 (.getfield 24) 3 14 4 0, e1 9 (.if_icmp .ge 57) 3 66, e1 12 (.aload_n 0) 1 0, e3 13 (.getfield 9) 3 14 0 2, e1 16 (.iload 5) 2 5, e0 18 (.iaload) 1, e1 19 (.iload_n 1) 1 1, e1 20 (.if_icmp .ne 40) 3 60, e1 23 (.aload_n 0) 1 0, e3 24 (.getfield 15) 3 14 1 2, e1 27 (.iload 5) 2 5, e0 29 (.iaload) 1, e1 30 (.iload_n 2) 1 2, e1 31 (.if_icmp .ne 29) 3 60, e1 34 (.aload_n 0) 1 0, e3 35 (.getfield 18) 3 14 2 2, e1 38 (.iload 5) 2 5, e0 40 (.iaload) 1, e1 41 (.iload_n 3) 1 3, e1 42 (.if_icmp .ne 18) 3 60, e1 45 (.aload_n 0) 1 0, e3 46 (.getfield 21) 3 14 3 2, e1 49 (.iload 5) 2 5, e0 51 (.iaload) 1, e1 52 (.iload 4) 2 4, e1 54 (.if_icmp .ne 6) 3 60, e1 57 (.iload 5) 2 5, e1 59 (.ireturn) 1 0], 60),
  (60, [true, true, true, true, true, true], [ek 60 (.iinc 5 1) 3 1 5, e1 63 (.goto (-60)) 3 3], 66),
  (66, [false, false, false, false, false, false], [ec 66 (.bipush (-9)) 2 (-9), e1 68 (.ireturn) 1 0], 69)]
set_option maxRecDepth 100000 in
def K_X5_init : List XB := [(0, [true, true, true], [e1 0 (.aload_n 0) 1 0, ei 1 (.invokespecial 3) 3 0 0 1 9 9, e1 4 (.aload_n 0) 1 0, ec 5 (.bipush 7) 2 7, e1 7 (.newarray .int) 2 1, e3 9 (.putfield 9) 3 15 2 2, e1 12 (.aload_n 0) 1 0, e1 13 (.aload_n 1) 1 1, e3 14 (.putfield 15) 3 15 0 2, e1 17 (.aload_n 0) 1 0, e1 18 (.aload_n 2) 1 2, e3 19 (.putfield 19) 3 15 1 2, e0 22 (.return_) 1], 23)]
set_option maxRecDepth 100000 in
def K_X5_ways : List XB := [(0, [true, false, false], [ec 0 (.iconst 1) 1 1, e1 1 (.istore_n 1) 1 1, ec 2 (.iconst 0) 1 0, e1 3 (.istore_n 2) 1 2], 4),
  (4, [true, true, true], [e1 4 (.iload_n 2) 1 2, e1 5 (.aload_n 0) 1 0, e3 6 (.getfield 15) 3 15 0 2, e3 9 (.getfield 23) 3 18 7 0, e1 12 (.if_icmp .ge 41) 3 53, e1 15 (.iload_n 1) 1 1, ec 16 (.sipush 3000) 3 3000, e1 19 (.if_icmp .gt 34) 3 53, e1 22 (.aload_n 0) 1 0, e3 23 (.getfield 19) 3 15 1 2, e1 26 (.iload_n 2) 1 2, ei 27 (.invokevirtual 29) 3 11 25 2 0 2, e1 30 (.ifCond .eq 17) 3 47, e1 33 (.iload_n 1) 1 1, e1 34 (.aload_n 0) 1 0, e3 35 (.getfield 19) 3 15 1 2, e1 38 (.iload_n 2) 1 2, ei 39 (.invokevirtual 35) 3 11 24 2 1 2, ei 42 (.invokestatic 39) 3 0 308 1 0 2, e0 45 (.imul) 1, e1 46 (.istore_n 1) 1 1], 47),
  (47, [true, true, true], [ek 47 (.iinc 2 1) 3 1 2, e1 50 (.goto (-46)) 3 4], 53),
  (53, [false, true, false], [e1 53 (.iload_n 1) 1 1, e1 54 (.ireturn) 1 0], 55)]
set_option maxRecDepth 100000 in
def K_X5_thingAt : List XB := [(0, [true, true], [e1 0 (.aload_n 0) 1 0, e3 1 (.getfield 9) 3 15 2 2, e1 4 (.iload_n 1) 1 1, e0 5 (.iaload) 1, e1 6 (.ireturn) 1 0], 7)]
set_option maxRecDepth 100000 in
def K_X5_takeLeastWay : List XB := [(0, [true, true, false], [e1 0 (.aload_n 0) 1 0, ec 1 (.iconst 0) 1 0, e3 2 (.putfield 45) 3 15 3 0, ec 5 (.iconst 0) 1 0, e1 6 (.istore_n 2) 1 2], 7),
  (7, [true, true, true], [e1 7 (.iload_n 2) 1 2, e1 8 (.aload_n 0) 1 0, e3 9 (.getfield 15) 3 15 0 2, e3 12 (.getfield 23) 3 18 7 0, e1 15 (.if_icmp .ge 46) 3 61, e1 18 (.aload_n 0) 1 0, e3 19 (.getfield 45) 3 15 3 0, ec 22 (.bipush 7) 2 7, e1 24 (.if_icmp .ge 37) 3 61, e1 27 (.aload_n 0) 1 0, e3 28 (.getfield 19) 3 15 1 2, e1 31 (.iload_n 2) 1 2, ei 32 (.invokevirtual 29) 3 11 25 2 0 2, e1 35 (.ifCond .eq 20) 3 55, e1 38 (.aload_n 0) 1 0, e3 39 (.getfield 9) 3 15 2 2, e1 42 (.aload_n 0) 1 0, e0 43 (.dup) 1, e3 44 (.getfield 45) 3 15 3 0, e0 47 (.dup_x1) 1, ec 48 (.iconst 1) 1 1, e0 49 (.iadd) 1, e3 50 (.putfield 45) 3 15 3 0, e1 53 (.iload_n 2) 1 2, e0 54 (.iastore) 1], 55),
  (55, [true, true, true], [ek 55 (.iinc 2 1) 3 1 2, e1 58 (.goto (-51)) 3 7], 61),
  (61, [true, true, false], [e1 61 (.aload_n 0) 1 0, ec 62 (.iconst 0) 1 0, e1 63 (.iload_n 1) 1 1, ei 64 (.invokevirtual 46) 3 15 70 3 0 7, e1 67 (.ireturn) 1 1], 68)]
set_option maxRecDepth 100000 in
def K_X5_layFrom : List XB := [(0, [true, true, true, false, false, false, false], [e1 0 (.iload_n 1) 1 1, e1 1 (.aload_n 0) 1 0, e3 2 (.getfield 45) 3 15 3 0, e1 5 (.if_icmp .lt 5) 3 10, ec 8 (.iconst 1) 1 1, e1 9 (.ireturn) 1 1], 10),
  (10, [true, true, true, false, false, false, false], [e1 10 (.aload_n 0) 1 0, e3 11 (.getfield 9) 3 15 2 2, e1 14 (.iload_n 1) 1 1, e0 15 (.iaload) 1, e1 16 (.istore_n 3) 1 3, e1 17 (.aload_n 0) 1 0, e3 18 (.getfield 19) 3 15 1 2, e1 21 (.iload_n 3) 1 3, ei 22 (.invokevirtual 35) 3 11 24 2 1 2, e1 25 (.lstore 4) 2 4, ec 27 (.iconst 0) 1 0, e1 28 (.istore 6) 2 6], 30),
  (30, [true, true, true, true, true, false, true], [e1 30 (.iload 6) 2 6, e1 32 (.aload_n 0) 1 0, e3 33 (.getfield 15) 3 15 0 2, e3 36 (.getfield 23) 3 18 7 0, e1 39 (.if_icmp .ge 66) 3 105, e1 42 (.lload 4) 2 4, e1 44 (.iload 6) 2 6, ei 46 (.invokestatic 50) 3 0 186 1 1 1, e0 49 (.land) 1, ec 50 (.lconst 0) 1 0, e0 51 (.lcmp) 1, e1 52 (.ifCond .eq 47) 3 99, e1 55 (.aload_n 0) 1 0, e1 56 (.iload_n 3) 1 3, e1 57 (.iload 6) 2 6, ei 59 (.invokevirtual 53) 3 15 71 3 0 3, e1 62 (.ifCond .eq 37) 3 99, e1 65 (.aload_n 0) 1 0, e3 66 (.getfield 19) 3 15 1 2, e1 69 (.iload_n 3) 1 3, e1 70 (.iload 6) 2 6, e1 72 (.iload_n 2) 1 2, e1 73 (.iload_n 1) 1 1, e0 74 (.iadd) 1, ei 75 (.invokevirtual 56) 3 11 13 4 3 4, e1 78 (.aload_n 0) 1 0, e1 79 (.iload_n 1) 1 1, ec 80 (.iconst 1) 1 1, e0 81 (.iadd) 1, e1 82 (.iload_n 2) 1 2, ei 83 (.invokevirtual 46) 3 15 70 3 0 7, e1 86 (.ifCond .eq 5) 3 91, ec 89 (.iconst 1) 1 1, e1 90 (.ireturn) 1 1], 91),
  (91, [true, true, true, true, true, false, true], [e1 91 (.aload_n 0) 1 0, e3 92 (.getfield 19) 3 15 1 2, e1 95 (.iload_n 3) 1 3, ei 96 (.invokevirtual 60) 3 11 14 2 3 2], 99),
  (99, [true, true, true, true, true, false, true], [ek 99 (.iinc 6 1) 3 1 6, e1 102 (.goto (-72)) 3 30], 105),
  (105, [false, false, false, false, false, false, false], [ec 105 (.iconst 0) 1 0, e1 106 (.ireturn) 1 1], 107)]
set_option maxRecDepth 100000 in
def K_X5_lets : List XB := [(0, [true, true, true], [e1 0 (.aload_n 0) 1 0, e3 1 (.getfield 19) 3 15 1 2, e1 4 (.iload_n 2) 1 2, e1 5 (.iload_n 1) 1 1, ei 6 (.invokevirtual 64) 3 11 12 3 0 5, e1 9 (.ifCond .ne 30) 3 39, e1 12 (.aload_n 0) 1 0, e3 13 (.getfield 19) 3 15 1 2, e1 16 (.iload_n 2) 1 2, ei 17 (.invokevirtual 67) 3 11 16 2 0 2, e1 20 (.ifCond .ne 19) 3 39, e1 23 (.aload_n 0) 1 0, e3 24 (.getfield 19) 3 15 1 2, e1 27 (.iload_n 1) 1 1, e1 28 (.iload_n 2) 1 2, ei 29 (.invokevirtual 70) 3 11 17 3 0 5, e1 32 (.ifCond .ge 7) 3 39, ec 35 (.iconst 1) 1 1, e1 36 (.goto 4) 3 40], 39),
  (39, [false, false, false], [ec 39 (.iconst 0) 1 0], 40),
  (40, [false, false, false], [e1 40 (.ireturn) 1 1], 41)]
set_option maxRecDepth 100000 in
def K_X6_init : List XB := [(0, [true], [e1 0 (.aload_n 0) 1 0, ei 1 (.invokespecial 3) 3 0 0 1 9 9, e1 4 (.aload_n 0) 1 0, ec 5 (.bipush 16) 2 16, e1 7 (.newarray .int) 2 1, e3 9 (.putfield 9) 3 16 0 2, e0 12 (.return_) 1], 13)]
set_option maxRecDepth 100000 in
def K_X6_begin : List XB := [(0, [true, true, true, false], [e1 0 (.aload_n 0) 1 0, e1 1 (.iload_n 1) 1 1, e3 2 (.putfield 15) 3 16 1 0, e1 5 (.aload_n 0) 1 0, e1 6 (.iload_n 2) 1 2, e3 7 (.putfield 19) 3 16 2 0, ec 10 (.iconst 0) 1 0, e1 11 (.istore_n 3) 1 3], 12),
  (12, [true, false, false, true], [e1 12 (.iload_n 3) 1 3, ec 13 (.bipush 16) 2 16, e1 15 (.if_icmp .ge 17) 3 32, e1 18 (.aload_n 0) 1 0, e3 19 (.getfield 9) 3 16 0 2, e1 22 (.iload_n 3) 1 3, ec 23 (.bipush (-9)) 2 (-9), e0 25 (.iastore) 1, ek 26 (.iinc 3 1) 3 1 3, e1 29 (.goto (-17)) 3 12], 32),
  (32, [false, false, false, false], [e0 32 (.return_) 1], 33)]
set_option maxRecDepth 100000 in
def K_X6_spans : List XB := [(0, [true, true, true], [e1 0 (.iload_n 1) 1 1, e1 1 (.ifCond .lt 29) 3 30, e1 4 (.iload_n 2) 1 2, e1 5 (.ifCond .lt 25) 3 30, e1 8 (.iload_n 1) 1 1, e1 9 (.aload_n 0) 1 0, e3 10 (.getfield 19) 3 16 2 0, e1 13 (.if_icmp .gt 17) 3 30, e1 16 (.iload_n 2) 1 2, e1 17 (.aload_n 0) 1 0, e3 18 (.getfield 19) 3 16 2 0, e1 21 (.iload_n 1) 1 1, e0 22 (.isub) 1, e1 23 (.if_icmp .gt 7) 3 30, ec 26 (.iconst 1) 1 1, e1 27 (.goto 4) 3 31], 30),
  (30, [false, false, false], [ec 30 (.iconst 0) 1 0], 31),
  (31, [false, false, false], [e1 31 (.ireturn) 1 1], 32)]
set_option maxRecDepth 100000 in
def K_X7_init : List XB := [(0, [true], [e1 0 (.aload_n 0) 1 0, ei 1 (.invokespecial 3) 3 0 0 1 9 9, e1 4 (.aload_n 0) 1 0, ec 5 (.bipush 80) 2 80, e1 7 (.newarray .long) 2 2, e3 9 (.putfield 9) 3 17 0 2, e1 12 (.aload_n 0) 1 0, ec 13 (.bipush 80) 2 80, e1 15 (.newarray .boolean) 2 3, e3 17 (.putfield 15) 3 17 1 2, e1 20 (.aload_n 0) 1 0, ec 21 (.iconst 5) 1 5, e1 22 (.newarray .int) 2 1, e3 24 (.putfield 19) 3 17 2 2, e1 27 (.aload_n 0) 1 0, ec 28 (.bipush 16) 2 16, e1 30 (.newarray .int) 2 1, e3 32 (.putfield 23) 3 17 3 2, e0 35 (.return_) 1], 36)]
set_option maxRecDepth 100000 in
def K_X7_begin : List XB := [(0, [true, true, true, true, false, false], [e1 0 (.aload_n 0) 1 0, e1 1 (.iload_n 1) 1 1, e3 2 (.putfield 26) 3 17 4 0, e1 5 (.aload_n 0) 1 0, e1 6 (.iload_n 2) 1 2, e3 7 (.putfield 30) 3 17 5 0, e1 10 (.iload_n 3) 1 3, e1 11 (.istore 4) 2 4, ec 13 (.iconst 0) 1 0, e1 14 (.istore 5) 2 5], 16),
  (16, [true, false, true, false, true, true], [e1 16 (.iload 5) 2 5, e1 18 (.iload_n 2) 1 2, e1 19 (.if_icmp .ge 28) 3 47, e1 22 (.aload_n 0) 1 0, e3 23 (.getfield 19) 3 17 2 2, e1 26 (.iload 5) 2 5, e1 28 (.iload 4) 2 4, ec 30 (.bipush 10) 2 10, e0 32 (.irem) 1, e0 33 (.iastore) 1, e1 34 (.iload 4) 2 4, ec 36 (.bipush 10) 2 10, e0 38 (.idiv) 1, e1 39 (.istore 4) 2 4, ek 41 (.iinc 5 1) 3 1 5, e1 44 (.goto (-28)) 3 16], 47),
  (47, [true, false, false, false, false, false], [ec 47 (.iconst 0) 1 0, e1 48 (.istore 5) 2 5], 50),
  (50, [true, false, false, false, false, true], [e1 50 (.iload 5) 2 5, ec 52 (.bipush 80) 2 80, e1 54 (.if_icmp .ge 17) 3 71, e1 57 (.aload_n 0) 1 0, e3 58 (.getfield 15) 3 17 1 2, e1 61 (.iload 5) 2 5, ec 63 (.iconst 0) 1 0, e0 64 (.bastore) 1, ek 65 (.iinc 5 1) 3 1 5, e1 68 (.goto (-18)) 3 50], 71),
  (71, [false, false, false, false, false, false], [e0 71 (.return_) 1], 72)]
set_option maxRecDepth 100000 in
def K_X7_hasCell : List XB := [(0, [true, true, true], [e1 0 (.iload_n 1) 1 1, e1 1 (.aload_n 0) 1 0, e3 2 (.getfield 26) 3 17 4 0, ei 5 (.invokestatic 33) 3 0 123 2 0 2, e1 8 (.ifCond .eq 18) 3 26, e1 11 (.iload_n 2) 1 2, e1 12 (.aload_n 0) 1 0, e3 13 (.getfield 30) 3 17 5 0, ei 16 (.invokestatic 33) 3 0 123 2 0 2, e1 19 (.ifCond .eq 7) 3 26, ec 22 (.iconst 1) 1 1, e1 23 (.goto 4) 3 27], 26),
  (26, [false, false, false], [ec 26 (.iconst 0) 1 0], 27),
  (27, [false, false, false], [e1 27 (.ireturn) 1 1], 28)]
set_option maxRecDepth 100000 in
def K_X7_isBlank : List XB := [(0, [true, true, true], [e1 0 (.aload_n 0) 1 0, e3 1 (.getfield 15) 3 17 1 2, e1 4 (.iload_n 1) 1 1, ec 5 (.iconst 5) 1 5, e0 6 (.imul) 1, e1 7 (.iload_n 2) 1 2, e0 8 (.iadd) 1, e0 9 (.baload) 1, e1 10 (.ifCond .ne 7) 3 17, ec 13 (.iconst 1) 1 1, e1 14 (.goto 4) 3 18], 17),
  (17, [false, false, false], [ec 17 (.iconst 0) 1 0], 18),
  (18, [false, false, false], [e1 18 (.ireturn) 1 1], 19)]
set_option maxRecDepth 100000 in
def K_X7_told : List XB := [(0, [true, true, true], [e1 0 (.aload_n 0) 1 0, e3 1 (.getfield 9) 3 17 0 2, e1 4 (.iload_n 1) 1 1, ec 5 (.iconst 5) 1 5, e0 6 (.imul) 1, e1 7 (.iload_n 2) 1 2, e0 8 (.iadd) 1, e0 9 (.laload) 1, e0 10 (.lreturn) 1], 11)]
set_option maxRecDepth 100000 in
def K_X7_write : List XB := [(0, [true, true, true, true, false], [e1 0 (.aload_n 0) 1 0, e3 1 (.getfield 9) 3 17 0 2, e1 4 (.iload_n 1) 1 1, ec 5 (.iconst 5) 1 5, e0 6 (.imul) 1, e1 7 (.iload_n 2) 1 2, e0 8 (.iadd) 1, e1 9 (.aload_n 0) 1 0, e3 10 (.getfield 19) 3 17 2 2, e1 13 (.iload_n 2) 1 2, e0 14 (.iaload) 1, e1 15 (.lload_n 3) 1 3, ei 16 (.invokestatic 37) 3 0 187 2 1 3, e0 19 (.lastore) 1, e1 20 (.aload_n 0) 1 0, e3 21 (.getfield 15) 3 17 1 2, e1 24 (.iload_n 1) 1 1, ec 25 (.iconst 5) 1 5, e0 26 (.imul) 1, e1 27 (.iload_n 2) 1 2, e0 28 (.iadd) 1, ec 29 (.iconst 1) 1 1, e0 30 (.bastore) 1, e0 31 (.return_) 1], 32)]
set_option maxRecDepth 100000 in
def K_X7_wipe : List XB := [(0, [true, true, true, false], [e1 0 (.aload_n 0) 1 0, e3 1 (.getfield 15) 3 17 1 2, e1 4 (.iload_n 1) 1 1, ec 5 (.iconst 5) 1 5, e0 6 (.imul) 1, e1 7 (.iload_n 2) 1 2, e0 8 (.iadd) 1, e0 9 (.baload) 1, e1 10 (.istore_n 3) 1 3, e1 11 (.aload_n 0) 1 0, e3 12 (.getfield 15) 3 17 1 2, e1 15 (.iload_n 1) 1 1, ec 16 (.iconst 5) 1 5, e0 17 (.imul) 1, e1 18 (.iload_n 2) 1 2, e0 19 (.iadd) 1, ec 20 (.iconst 0) 1 0, e0 21 (.bastore) 1, e1 22 (.iload_n 3) 1 3, e1 23 (.ireturn) 1 1], 24)]
set_option maxRecDepth 100000 in
def K_X7_rowWith : List XB := [(0, [true, true, true, false, true, false], [e1 0 (.iload 4) 2 4, e1 2 (.istore 5) 2 5], 4),
  (4, [true, true, true, false, false, true], [e1 4 (.iload 5) 2 5, e1 6 (.aload_n 0) 1 0, e3 7 (.getfield 26) 3 17 4 0, e1 10 (.if_icmp .ge 34) 3 44, e1 13 (.aload_n 0) 1 0, e1 14 (.iload 5) 2 5, e1 16 (.iload_n 1) 1 1, ei 17 (.invokevirtual 41) 3 17 78 3 0 3, e1 20 (.ifCond .ne 18) 3 38, e1 23 (.aload_n 0) 1 0, e1 24 (.iload 5) 2 5, e1 26 (.iload_n 1) 1 1, ei 27 (.invokevirtual 44) 3 17 79 3 1 3, e1 30 (.lload_n 2) 1 2, e0 31 (.lcmp) 1, e1 32 (.ifCond .ne 6) 3 38, e1 35 (.iload 5) 2 5, e1 37 (.ireturn) 1 0], 38),
  (38, [true, true, true, false, false, true], [ek 38 (.iinc 5 1) 3 1 5, e1 41 (.goto (-37)) 3 4], 44),
  (44, [false, false, false, false, false, false], [ec 44 (.bipush (-9)) 2 (-9), e1 46 (.ireturn) 1 0], 47)]
set_option maxRecDepth 100000 in
def K_X7_order : List XB := [(0, [true, true, true, false, false], [ec 0 (.iconst 0) 1 0, e1 1 (.istore_n 3) 1 3], 2),
  (2, [true, true, true, true, false], [e1 2 (.iload_n 3) 1 3, e1 3 (.aload_n 0) 1 0, e3 4 (.getfield 26) 3 17 4 0, e1 7 (.if_icmp .ge 16) 3 23, e1 10 (.aload_n 0) 1 0, e3 11 (.getfield 23) 3 17 3 2, e1 14 (.iload_n 3) 1 3, e1 15 (.iload_n 3) 1 3, e0 16 (.iastore) 1, ek 17 (.iinc 3 1) 3 1 3, e1 20 (.goto (-18)) 3 2], 23),
  (23, [true, true, true, false, false], [ec 23 (.iconst 1) 1 1, e1 24 (.istore_n 3) 1 3], 25),
  (25, [true, true, true, true, false], [e1 25 (.iload_n 3) 1 3, e1 26 (.aload_n 0) 1 0, e3 27 (.getfield 26) 3 17 4 0, e1 30 (.if_icmp .ge 48) 3 78, e1 33 (.iload_n 3) 1 3, e1 34 (.istore 4) 2 4], 36),
  (36, [true, true, true, true, true], [e1 36 (.iload 4) 2 4, e1 38 (.ifCond .le 34) 3 72, e1 41 (.aload_n 0) 1 0, e1 42 (.iload 4) 2 4, e1 44 (.iload 4) 2 4, ec 46 (.iconst 1) 1 1, e0 47 (.isub) 1, e1 48 (.iload_n 1) 1 1, e1 49 (.iload_n 2) 1 2, ei 50 (.invokevirtual 48) 3 17 84 5 0 5, e1 53 (.ifCond .eq 19) 3 72, e1 56 (.aload_n 0) 1 0, e1 57 (.iload 4) 2 4, e1 59 (.iload 4) 2 4, ec 61 (.iconst 1) 1 1, e0 62 (.isub) 1, ei 63 (.invokevirtual 52) 3 17 85 3 3 10, ek 66 (.iinc 4 (-1)) 3 (-1) 4, e1 69 (.goto (-33)) 3 36], 72),
  (72, [true, true, true, true, false], [ek 72 (.iinc 3 1) 3 1 3, e1 75 (.goto (-50)) 3 25], 78),
  (78, [true, false, false, false, false], [ec 78 (.iconst 0) 1 0, e1 79 (.istore_n 3) 1 3, ec 80 (.iconst 0) 1 0, e1 81 (.istore 4) 2 4], 83),
  (83, [true, false, false, true, true], [e1 83 (.iload 4) 2 4, e1 85 (.aload_n 0) 1 0, e3 86 (.getfield 26) 3 17 4 0, e1 89 (.if_icmp .ge 24) 3 113, e1 92 (.aload_n 0) 1 0, e3 93 (.getfield 23) 3 17 3 2, e1 96 (.iload 4) 2 4, e0 98 (.iaload) 1, e1 99 (.iload 4) 2 4, e1 101 (.if_icmp .eq 6) 3 107, ek 104 (.iinc 3 1) 3 1 3], 107),
  (107, [true, false, false, true, true], [ek 107 (.iinc 4 1) 3 1 4, e1 110 (.goto (-27)) 3 83], 113),
  (113, [false, false, false, true, false], [e1 113 (.iload_n 3) 1 3, e1 114 (.ireturn) 1 0], 115)]
set_option maxRecDepth 100000 in
def K_X7_isAhead : List XB := [(0, [true, true, true, true, true], [e1 0 (.aload_n 0) 1 0, e1 1 (.iload_n 1) 1 1, e1 2 (.iload_n 3) 1 3, ei 3 (.invokevirtual 41) 3 17 78 3 0 3, e1 6 (.ifCond .eq 5) 3 11, ec 9 (.iconst 0) 1 0, e1 10 (.ireturn) 1 1], 11),
  (11, [true, true, true, true, true], [e1 11 (.aload_n 0) 1 0, e1 12 (.iload_n 2) 1 2, e1 13 (.iload_n 3) 1 3, ei 14 (.invokevirtual 41) 3 17 78 3 0 3, e1 17 (.ifCond .eq 5) 3 22, ec 20 (.iconst 1) 1 1, e1 21 (.ireturn) 1 1], 22),
  (22, [true, true, true, true, true], [e1 22 (.iload 4) 2 4, e1 24 (.ifCond .eq 27) 3 51, e1 27 (.aload_n 0) 1 0, e1 28 (.iload_n 1) 1 1, e1 29 (.iload_n 3) 1 3, ei 30 (.invokevirtual 44) 3 17 79 3 1 3, e1 33 (.aload_n 0) 1 0, e1 34 (.iload_n 2) 1 2, e1 35 (.iload_n 3) 1 3, ei 36 (.invokevirtual 44) 3 17 79 3 1 3, e0 39 (.lcmp) 1, e1 40 (.ifCond .le 7) 3 47, ec 43 (.iconst 1) 1 1, e1 44 (.goto 28) 3 72], 47),
  (47, [false, false, false, false, false], [ec 47 (.iconst 0) 1 0, e1 48 (.goto 24) 3 72], 51),
  (51, [true, true, true, true, false], [e1 51 (.aload_n 0) 1 0, e1 52 (.iload_n 1) 1 1, e1 53 (.iload_n 3) 1 3, ei 54 (.invokevirtual 44) 3 17 79 3 1 3, e1 57 (.aload_n 0) 1 0, e1 58 (.iload_n 2) 1 2, e1 59 (.iload_n 3) 1 3, ei 60 (.invokevirtual 44) 3 17 79 3 1 3, e0 63 (.lcmp) 1, e1 64 (.ifCond .ge 7) 3 71, ec 67 (.iconst 1) 1 1, e1 68 (.goto 4) 3 72], 71),
  (71, [false, false, false, false, false], [ec 71 (.iconst 0) 1 0], 72),
  (72, [false, false, false, false, false], [e1 72 (.ireturn) 1 1], 73)]
set_option maxRecDepth 100000 in
def K_X7_swap : List XB := [(0, [true, true, true, false, false, false, false, false, false, false], [e1 0 (.aload_n 0) 1 0, e3 1 (.getfield 23) 3 17 3 2, e1 4 (.iload_n 1) 1 1, e0 5 (.iaload) 1, e1 6 (.istore_n 3) 1 3, e1 7 (.aload_n 0) 1 0, e3 8 (.getfield 23) 3 17 3 2, e1 11 (.iload_n 1) 1 1, e1 12 (.aload_n 0) 1 0, e3 13 (.getfield 23) 3 17 3 2, e1 16 (.iload_n 2) 1 2, e0 17 (.iaload) 1, e0 18 (.iastore) 1, e1 19 (.aload_n 0) 1 0, e3 20 (.getfield 23) 3 17 3 2, e1 23 (.iload_n 2) 1 2, e1 24 (.iload_n 3) 1 3, e0 25 (.iastore) 1, ec 26 (.iconst 0) 1 0, e1 27 (.istore 4) 2 4], 29),
  (29, [true, true, true, false, true, false, false, false, false, false], [e1 29 (.iload 4) 2 4, e1 31 (.aload_n 0) 1 0, e3 32 (.getfield 30) 3 17 5 0, e1 35 (.if_icmp .ge 89) 3 124, e1 38 (.iload_n 1) 1 1, ec 39 (.iconst 5) 1 5, e0 40 (.imul) 1, e1 41 (.iload 4) 2 4, e0 43 (.iadd) 1, e1 44 (.istore 5) 2 5, e1 46 (.iload_n 2) 1 2, ec 47 (.iconst 5) 1 5, e0 48 (.imul) 1, e1 49 (.iload 4) 2 4, e0 51 (.iadd) 1, e1 52 (.istore 6) 2 6, e1 54 (.aload_n 0) 1 0, e3 55 (.getfield 9) 3 17 0 2, e1 58 (.iload 5) 2 5, e0 60 (.laload) 1, e1 61 (.lstore 7) 2 7, e1 63 (.aload_n 0) 1 0, e3 64 (.getfield 15) 3 17 1 2, e1 67 (.iload 5) 2 5, e0 69 (.baload) 1, e1 70 (.istore 9) 2 9, e1 72 (.aload_n 0) 1 0, e3 73 (.getfield 9) 3 17 0 2, e1 76 (.iload 5) 2 5, e1 78 (.aload_n 0) 1 0, e3 79 (.getfield 9) 3 17 0 2, e1 82 (.iload 6) 2 6, e0 84 (.laload) 1, e0 85 (.lastore) 1, e1 86 (.aload_n 0) 1 0, e3 87 (.getfield 15) 3 17 1 2, e1 90 (.iload 5) 2 5, e1 92 (.aload_n 0) 1 0, e3 93 (.getfield 15) 3 17 1 2, e1 96 (.iload 6) 2 6, e0 98 (.baload) 1, e0 99 (.bastore) 1, e1 100 (.aload_n 0) 1 0, e3 101 (.getfield 9) 3 17 0 2, e1 104 (.iload 6) 2 6, e1 106 (.lload 7) 2 7, e0 108 (.lastore) 1, e1 109 (.aload_n 0) 1 0, e3 110 (.getfield 15) 3 17 1 2, e1 113 (.iload 6) 2 6, e1 115 (.iload 9) 2 9, e0 117 (.bastore) 1, ek 118 (.iinc 4 1) 3 1 4, e1 121 (.goto (-92)) 3 29], 124),
  (124, [false, false, false, false, false, false, false, false, false, false], [e0 124 (.return_) 1], 125)]
set_option maxRecDepth 100000 in
def K_X7_sum : List XB := [(0, [true, true, false, false, false], [ec 0 (.lconst 0) 1 0, e1 1 (.lstore_n 2) 1 2, ec 2 (.iconst 0) 1 0, e1 3 (.istore 4) 2 4], 5),
  (5, [true, true, true, false, true], [e1 5 (.iload 4) 2 4, e1 7 (.aload_n 0) 1 0, e3 8 (.getfield 26) 3 17 4 0, e1 11 (.if_icmp .ge 29) 3 40, e1 14 (.aload_n 0) 1 0, e1 15 (.iload 4) 2 4, e1 17 (.iload_n 1) 1 1, ei 18 (.invokevirtual 41) 3 17 78 3 0 3, e1 21 (.ifCond .ne 13) 3 34, e1 24 (.lload_n 2) 1 2, e1 25 (.aload_n 0) 1 0, e1 26 (.iload 4) 2 4, e1 28 (.iload_n 1) 1 1, ei 29 (.invokevirtual 44) 3 17 79 3 1 3, e0 32 (.ladd) 1, e1 33 (.lstore_n 2) 1 2], 34),
  (34, [true, true, true, false, true], [ek 34 (.iinc 4 1) 3 1 4, e1 37 (.goto (-32)) 3 5], 40),
  (40, [false, false, true, false, false], [e1 40 (.lload_n 2) 1 2, e0 41 (.lreturn) 1], 42)]
set_option maxRecDepth 100000 in
def K_X7_filledIn : List XB := [(0, [true, true, false, false], [ec 0 (.iconst 0) 1 0, e1 1 (.istore_n 2) 1 2, ec 2 (.iconst 0) 1 0, e1 3 (.istore_n 3) 1 3], 4),
  (4, [true, true, true, true], [e1 4 (.iload_n 3) 1 3, e1 5 (.aload_n 0) 1 0, e3 6 (.getfield 26) 3 17 4 0, e1 9 (.if_icmp .ge 21) 3 30, e1 12 (.aload_n 0) 1 0, e1 13 (.iload_n 3) 1 3, e1 14 (.iload_n 1) 1 1, ei 15 (.invokevirtual 41) 3 17 78 3 0 3, e1 18 (.ifCond .ne 6) 3 24, ek 21 (.iinc 2 1) 3 1 2], 24),
  (24, [true, true, true, true], [ek 24 (.iinc 3 1) 3 1 3, e1 27 (.goto (-23)) 3 4], 30),
  (30, [false, false, true, false], [e1 30 (.iload_n 2) 1 2, e1 31 (.ireturn) 1 0], 32)]
set_option maxRecDepth 100000 in
def K_X8_init : List XB := [(0, [true, true], [e1 0 (.aload_n 0) 1 0, ei 1 (.invokespecial 3) 3 0 0 1 9 9, e1 4 (.aload_n 0) 1 0, ec 5 (.bipush 64) 2 64, e1 7 (.newarray .int) 2 1, e3 9 (.putfield 9) 3 18 1 2, e1 12 (.aload_n 0) 1 0, ec 13 (.bipush 64) 2 64, e1 15 (.newarray .int) 2 1, e3 17 (.putfield 15) 3 18 2 2, e1 20 (.aload_n 0) 1 0, ec 21 (.bipush 64) 2 64, e1 23 (.newarray .int) 2 1, e3 25 (.putfield 18) 3 18 3 2, e1 28 (.aload_n 0) 1 0, ec 29 (.bipush 64) 2 64, e1 31 (.newarray .int) 2 1, e3 33 (.putfield 21) 3 18 4 2, e1 36 (.aload_n 0) 1 0, ec 37 (.bipush 64) 2 64, e1 39 (.newarray .int) 2 1, e3 41 (.putfield 24) 3 18 5 2, e1 44 (.aload_n 0) 1 0, ec 45 (.bipush 64) 2 64, e1 47 (.newarray .boolean) 2 3, e3 49 (.putfield 27) 3 18 6 2, e1 52 (.aload_n 0) 1 0, e1 53 (.aload_n 1) 1 1, e3 54 (.putfield 31) 3 18 0 2, e0 57 (.return_) 1], 58)]
set_option maxRecDepth 100000 in
def K_X8_add : List XB := [(0, [true, true, true], [e1 0 (.aload_n 0) 1 0, e3 1 (.getfield 9) 3 18 1 2, e1 4 (.aload_n 0) 1 0, e3 5 (.getfield 35) 3 18 7 0, e1 8 (.iload_n 1) 1 1, e0 9 (.iastore) 1, e1 10 (.aload_n 0) 1 0, e3 11 (.getfield 15) 3 18 2 2, e1 14 (.aload_n 0) 1 0, e3 15 (.getfield 35) 3 18 7 0, e1 18 (.aload_n 0) 1 0, e3 19 (.getfield 31) 3 18 0 2, e1 22 (.iload_n 1) 1 1, ei 23 (.invokevirtual 39) 3 10 5 2 0 4, e0 26 (.iastore) 1, e1 27 (.aload_n 0) 1 0, e3 28 (.getfield 18) 3 18 3 2, e1 31 (.aload_n 0) 1 0, e3 32 (.getfield 35) 3 18 7 0, e1 35 (.iload_n 2) 1 2, e0 36 (.iastore) 1, e1 37 (.aload_n 0) 1 0, e3 38 (.getfield 21) 3 18 4 2, e1 41 (.aload_n 0) 1 0, e3 42 (.getfield 35) 3 18 7 0, e1 45 (.iload_n 2) 1 2, e0 46 (.iastore) 1, e1 47 (.aload_n 0) 1 0, e3 48 (.getfield 24) 3 18 5 2, e1 51 (.aload_n 0) 1 0, e3 52 (.getfield 35) 3 18 7 0, e1 55 (.iload_n 2) 1 2, e0 56 (.iastore) 1, e1 57 (.aload_n 0) 1 0, e3 58 (.getfield 27) 3 18 6 2, e1 61 (.aload_n 0) 1 0, e3 62 (.getfield 35) 3 18 7 0, ec 65 (.iconst 0) 1 0, e0 66 (.bastore) 1, e1 67 (.aload_n 0) 1 0, e0 68 (.dup) 1, e3 69 (.getfield 35) 3 18 7 0, e0 72 (.dup_x1) 1, ec 73 (.iconst 1) 1 1, e0 74 (.iadd) 1, e3 75 (.putfield 35) 3 18 7 0, e1 78 (.ireturn) 1 0], 79)]
set_option maxRecDepth 100000 in
def K_X8_has : List XB := [(0, [true, true, false], [e1 0 (.lload_n 1) 1 1, ec 1 (.lconst 0) 1 0, e0 2 (.lcmp) 1, e1 3 (.ifCond .lt 17) 3 20, e1 6 (.lload_n 1) 1 1, e1 7 (.aload_n 0) 1 0, e3 8 (.getfield 35) 3 18 7 0, e0 11 (.i2l) 1, e0 12 (.lcmp) 1, e1 13 (.ifCond .ge 7) 3 20, ec 16 (.iconst 1) 1 1, e1 17 (.goto 4) 3 21], 20),
  (20, [false, false, false], [ec 20 (.iconst 0) 1 0], 21),
  (21, [false, false, false], [e1 21 (.ireturn) 1 1], 22)]
set_option maxRecDepth 100000 in
def K_X8_all : List XB := [(0, [true], [e1 0 (.aload_n 0) 1 0, e3 1 (.getfield 35) 3 18 7 0, ec 4 (.bipush 64) 2 64, e1 6 (.if_icmp .lt 9) 3 15, ec 9 (.ldc2_w 45) 3 (-1), e1 12 (.goto 12) 3 24], 15),
  (15, [true], [e1 15 (.aload_n 0) 1 0, e3 16 (.getfield 35) 3 18 7 0, ei 19 (.invokestatic 47) 3 0 186 1 1 1, ec 22 (.lconst 1) 1 1, e0 23 (.lsub) 1], 24),
  (24, [false], [e0 24 (.lreturn) 1], 25)]
set_option maxRecDepth 100000 in
def K_X8_holders : List XB := [(0, [true, false, false, false], [ec 0 (.lconst 0) 1 0, e1 1 (.lstore_n 1) 1 1, ec 2 (.iconst 0) 1 0, e1 3 (.istore_n 3) 1 3], 4),
  (4, [true, true, false, true], [e1 4 (.iload_n 3) 1 3, e1 5 (.aload_n 0) 1 0, e3 6 (.getfield 35) 3 18 7 0, e1 9 (.if_icmp .ge 24) 3 33, e1 12 (.aload_n 0) 1 0, e1 13 (.iload_n 3) 1 3, ei 14 (.invokevirtual 51) 3 18 96 2 0 2, e1 17 (.ifCond .eq 10) 3 27, e1 20 (.lload_n 1) 1 1, e1 21 (.iload_n 3) 1 3, ei 22 (.invokestatic 47) 3 0 186 1 1 1, e0 25 (.lor) 1, e1 26 (.lstore_n 1) 1 1], 27),
  (27, [true, true, false, true], [ek 27 (.iinc 3 1) 3 1 3, e1 30 (.goto (-26)) 3 4], 33),
  (33, [false, true, false, false], [e1 33 (.lload_n 1) 1 1, e0 34 (.lreturn) 1], 35)]
set_option maxRecDepth 100000 in
def K_X8_isRoom : List XB := [(0, [true, true], [e1 0 (.aload_n 0) 1 0, e1 1 (.iload_n 1) 1 1, e0 2 (.i2l) 1, ei 3 (.invokevirtual 55) 3 18 90 2 0 3, e1 6 (.ifCond .eq 17) 3 23, e1 9 (.aload_n 0) 1 0, e3 10 (.getfield 15) 3 18 2 2, e1 13 (.iload_n 1) 1 1, e0 14 (.iaload) 1, ec 15 (.iconst 1) 1 1, e1 16 (.if_icmp .ne 7) 3 23, ec 19 (.iconst 1) 1 1, e1 20 (.goto 4) 3 24], 23),
  (23, [false, false], [ec 23 (.iconst 0) 1 0], 24),
  (24, [false, false], [e1 24 (.ireturn) 1 1], 25)]
set_option maxRecDepth 100000 in
def K_X8_haveRoom : List XB := [(0, [true, false], [ec 0 (.iconst 0) 1 0, e1 1 (.istore_n 1) 1 1], 2),
  (2, [true, true], [e1 2 (.iload_n 1) 1 1, e1 3 (.aload_n 0) 1 0, e3 4 (.getfield 35) 3 18 7 0, e1 7 (.if_icmp .ge 21) 3 28, e1 10 (.aload_n 0) 1 0, e3 11 (.getfield 15) 3 18 2 2, e1 14 (.iload_n 1) 1 1, e0 15 (.iaload) 1, ec 16 (.iconst 1) 1 1, e1 17 (.if_icmp .ne 5) 3 22, ec 20 (.iconst 1) 1 1, e1 21 (.ireturn) 1 1], 22),
  (22, [true, true], [ek 22 (.iinc 1 1) 3 1 1, e1 25 (.goto (-23)) 3 2], 28),
  (28, [false, false], [ec 28 (.iconst 0) 1 0, e1 29 (.ireturn) 1 1], 30)]
set_option maxRecDepth 100000 in
def K_X8_isCarrier : List XB := [(0, [true, true], [e1 0 (.aload_n 0) 1 0, e3 1 (.getfield 15) 3 18 2 2, e1 4 (.iload_n 1) 1 1, e0 5 (.iaload) 1, ec 6 (.iconst 4) 1 4, e1 7 (.if_icmp .eq 13) 3 20, e1 10 (.aload_n 0) 1 0, e3 11 (.getfield 15) 3 18 2 2, e1 14 (.iload_n 1) 1 1, e0 15 (.iaload) 1, ec 16 (.iconst 5) 1 5, e1 17 (.if_icmp .ne 7) 3 24], 20),
  (20, [false, false], [ec 20 (.iconst 1) 1 1, e1 21 (.goto 4) 3 25], 24),
  (24, [false, false], [ec 24 (.iconst 0) 1 0], 25),
  (25, [false, false], [e1 25 (.ireturn) 1 1], 26)]
set_option maxRecDepth 100000 in
def K_X8_isHolder : List XB := [(0, [true, true], [e1 0 (.aload_n 0) 1 0, e3 1 (.getfield 15) 3 18 2 2, e1 4 (.iload_n 1) 1 1, e0 5 (.iaload) 1, ec 6 (.iconst 1) 1 1, e1 7 (.if_icmp .eq 11) 3 18, e1 10 (.aload_n 0) 1 0, e1 11 (.iload_n 1) 1 1, ei 12 (.invokevirtual 59) 3 18 95 2 0 2, e1 15 (.ifCond .eq 7) 3 22], 18),
  (18, [false, false], [ec 18 (.iconst 1) 1 1, e1 19 (.goto 4) 3 23], 22),
  (22, [false, false], [ec 22 (.iconst 0) 1 0], 23),
  (23, [false, false], [e1 23 (.ireturn) 1 1], 24)]
set_option maxRecDepth 100000 in
def K_X8_hasLid : List XB := [(0, [true, true], [e1 0 (.aload_n 0) 1 0, e3 1 (.getfield 15) 3 18 2 2, e1 4 (.iload_n 1) 1 1, e0 5 (.iaload) 1, ec 6 (.iconst 2) 1 2, e1 7 (.if_icmp .eq 11) 3 18, e1 10 (.aload_n 0) 1 0, e1 11 (.iload_n 1) 1 1, ei 12 (.invokevirtual 59) 3 18 95 2 0 2, e1 15 (.ifCond .eq 7) 3 22], 18),
  (18, [false, false], [ec 18 (.iconst 1) 1 1, e1 19 (.goto 4) 3 23], 22),
  (22, [false, false], [ec 22 (.iconst 0) 1 0], 23),
  (23, [false, false], [e1 23 (.ireturn) 1 1], 24)]
set_option maxRecDepth 100000 in
def K_X8_isFixed : List XB := [(0, [true, true], [e1 0 (.aload_n 0) 1 0, e3 1 (.getfield 15) 3 18 2 2, e1 4 (.iload_n 1) 1 1, e0 5 (.iaload) 1, ec 6 (.iconst 1) 1 1, e1 7 (.if_icmp .eq 13) 3 20, e1 10 (.aload_n 0) 1 0, e3 11 (.getfield 15) 3 18 2 2, e1 14 (.iload_n 1) 1 1, e0 15 (.iaload) 1, ec 16 (.iconst 2) 1 2, e1 17 (.if_icmp .ne 7) 3 24], 20),
  (20, [false, false], [ec 20 (.iconst 1) 1 1, e1 21 (.goto 4) 3 25], 24),
  (24, [false, false], [ec 24 (.iconst 0) 1 0], 25),
  (25, [false, false], [e1 25 (.ireturn) 1 1], 26)]
set_option maxRecDepth 100000 in
def K_X8_liesInOne : List XB := [(0, [true, true], [e1 0 (.aload_n 0) 1 0, e1 1 (.iload_n 1) 1 1, ei 2 (.invokevirtual 62) 3 18 98 2 0 2, e1 5 (.ifCond .ne 17) 3 22, e1 8 (.aload_n 0) 1 0, e3 9 (.getfield 15) 3 18 2 2, e1 12 (.iload_n 1) 1 1, e0 13 (.iaload) 1, ec 14 (.iconst 3) 1 3, e1 15 (.if_icmp .eq 7) 3 22, ec 18 (.iconst 1) 1 1, e1 19 (.goto 4) 3 23], 22),
  (22, [false, false], [ec 22 (.iconst 0) 1 0], 23),
  (23, [false, false], [e1 23 (.ireturn) 1 1], 24)]
set_option maxRecDepth 100000 in
def K_X8_mayLieIn : List XB := [(0, [true, true, true], [e1 0 (.aload_n 0) 1 0, e1 1 (.iload_n 1) 1 1, ei 2 (.invokevirtual 62) 3 18 98 2 0 2, e1 5 (.ifCond .ne 36) 3 41, e1 8 (.aload_n 0) 1 0, e3 9 (.getfield 15) 3 18 2 2, e1 12 (.iload_n 1) 1 1, e0 13 (.iaload) 1, ec 14 (.iconst 3) 1 3, e1 15 (.if_icmp .ne 14) 3 29, e1 18 (.aload_n 0) 1 0, e1 19 (.iload_n 2) 1 2, ei 20 (.invokevirtual 65) 3 18 93 2 0 2, e1 23 (.ifCond .eq 18) 3 41, e1 26 (.goto 11) 3 37], 29),
  (29, [true, false, true], [e1 29 (.aload_n 0) 1 0, e1 30 (.iload_n 2) 1 2, ei 31 (.invokevirtual 51) 3 18 96 2 0 2, e1 34 (.ifCond .eq 7) 3 41], 37),
  (37, [false, false, false], [ec 37 (.iconst 1) 1 1, e1 38 (.goto 4) 3 42], 41),
  (41, [false, false, false], [ec 41 (.iconst 0) 1 0], 42),
  (42, [false, false, false], [e1 42 (.ireturn) 1 1], 43)]
set_option maxRecDepth 100000 in
def K_X8_worth : List XB := [(0, [true, true, false], [ec 0 (.iconst 3) 1 3, e1 1 (.aload_n 0) 1 0, e3 2 (.getfield 18) 3 18 3 2, e1 5 (.iload_n 1) 1 1, e0 6 (.iaload) 1, e0 7 (.imul) 1, ec 8 (.iconst 1) 1 1, e0 9 (.iadd) 1, e1 10 (.istore_n 2) 1 2, e1 11 (.aload_n 0) 1 0, e3 12 (.getfield 15) 3 18 2 2, e1 15 (.iload_n 1) 1 1, e0 16 (.iaload) 1, es 17 (.tableswitch 53 1 5 #[47, 35, 44, 53, 40]) 35 1 70 [64, 52, 61, 70, 57]], 52),
  (52, [false, false, true], [e1 52 (.iload_n 2) 1 2, ec 53 (.bipush 100) 2 100, e0 55 (.iadd) 1, e1 56 (.ireturn) 1 0], 57),
  (57, [false, false, true], [ec 57 (.iconst 2) 1 2, e1 58 (.iload_n 2) 1 2, e0 59 (.imul) 1, e1 60 (.ireturn) 1 0], 61),
  (61, [false, false, true], [e1 61 (.iload_n 2) 1 2, e0 62 (.ineg) 1, e1 63 (.ireturn) 1 0], 64),
  (64, [false, false, true], [e1 64 (.iload_n 2) 1 2, ec 65 (.sipush 1000) 3 1000, e0 68 (.iadd) 1, e1 69 (.ireturn) 1 0], 70),
  (70, [false, false, true], [e1 70 (.iload_n 2) 1 2, e1 71 (.ireturn) 1 0], 72)]
set_option maxRecDepth 100000 in
def K_X8_lid : List XB := [(0, [true, true], [e1 0 (.aload_n 0) 1 0, e3 1 (.getfield 15) 3 18 2 2, e1 4 (.iload_n 1) 1 1, e0 5 (.iaload) 1, ec 6 (.iconst 2) 1 2, e1 7 (.if_icmp .ne 28) 3 35, ec 10 (.bipush 10) 2 10, e1 12 (.aload_n 0) 1 0, e3 13 (.getfield 24) 3 18 5 2, e1 16 (.iload_n 1) 1 1, e0 17 (.iaload) 1, e0 18 (.imul) 1, e1 19 (.aload_n 0) 1 0, e3 20 (.getfield 27) 3 18 6 2, e1 23 (.iload_n 1) 1 1, e0 24 (.baload) 1, e1 25 (.ifCond .eq 7) 3 32, ec 28 (.iconst 1) 1 1, e1 29 (.goto 4) 3 33], 32),
  (32, [false, false], [ec 32 (.iconst 0) 1 0], 33),
  (33, [false, false], [e0 33 (.iadd) 1, e1 34 (.ireturn) 1 0], 35),
  (35, [true, true], [e1 35 (.aload_n 0) 1 0, e3 36 (.getfield 24) 3 18 5 2, e1 39 (.iload_n 1) 1 1, e0 40 (.iaload) 1, e1 41 (.aload_n 0) 1 0, e3 42 (.getfield 27) 3 18 6 2, e1 45 (.iload_n 1) 1 1, e0 46 (.baload) 1, e1 47 (.ifCond .eq 9) 3 56, ec 50 (.sipush 1000) 3 1000, e1 53 (.goto 4) 3 57], 56),
  (56, [false, false], [ec 56 (.iconst 0) 1 0], 57),
  (57, [false, false], [e0 57 (.iadd) 1, e1 58 (.ireturn) 1 0], 59)]
set_option maxRecDepth 100000 in
def K_X9_init : List XB := [(0, [true, true, true], [e1 0 (.aload_n 0) 1 0, ei 1 (.invokespecial 3) 3 0 0 1 9 9, e1 4 (.aload_n 0) 1 0, ec 5 (.bipush 12) 2 12, e1 7 (.newarray .int) 2 1, e3 9 (.putfield 9) 3 19 2 2, e1 12 (.aload_n 0) 1 0, ec 13 (.bipush 12) 2 12, e1 15 (.newarray .int) 2 1, e3 17 (.putfield 15) 3 19 3 2, e1 20 (.aload_n 0) 1 0, ec 21 (.bipush 12) 2 12, e1 23 (.newarray .int) 2 1, e3 25 (.putfield 18) 3 19 4 2, e1 28 (.aload_n 0) 1 0, ec 29 (.sipush 288) 3 288, e1 32 (.newarray .long) 2 2, e3 34 (.putfield 21) 3 19 5 2, e1 37 (.aload_n 0) 1 0, ec 38 (.sipush 288) 3 288, e1 41 (.newarray .boolean) 2 3, e3 43 (.putfield 25) 3 19 6 2, e1 46 (.aload_n 0) 1 0, ec 47 (.sipush 768) 3 768, e1 50 (.newarray .long) 2 2, e3 52 (.putfield 29) 3 19 7 2, e1 55 (.aload_n 0) 1 0, ec 56 (.sipush 768) 3 768, e1 59 (.newarray .int) 2 1, e3 61 (.putfield 32) 3 19 8 2, e1 64 (.aload_n 0) 1 0, e1 65 (.aload_n 1) 1 1, e3 66 (.putfield 35) 3 19 0 2, e1 69 (.aload_n 0) 1 0, e1 70 (.aload_n 2) 1 2, e3 71 (.putfield 39) 3 19 1 2, e0 74 (.return_) 1], 75)]
set_option maxRecDepth 100000 in
def K_X9_add : List XB := [(0, [true, true, true, true, false], [e1 0 (.aload_n 0) 1 0, e3 1 (.getfield 9) 3 19 2 2, e1 4 (.aload_n 0) 1 0, e3 5 (.getfield 43) 3 19 9 0, e1 8 (.iload_n 1) 1 1, e0 9 (.iastore) 1, e1 10 (.aload_n 0) 1 0, e3 11 (.getfield 15) 3 19 3 2, e1 14 (.aload_n 0) 1 0, e3 15 (.getfield 43) 3 19 9 0, e1 18 (.iload_n 2) 1 2, e0 19 (.iastore) 1, e1 20 (.aload_n 0) 1 0, e3 21 (.getfield 18) 3 19 4 2, e1 24 (.aload_n 0) 1 0, e3 25 (.getfield 43) 3 19 9 0, e1 28 (.iload_n 3) 1 3, e0 29 (.iastore) 1, ec 30 (.iconst 0) 1 0, e1 31 (.istore 4) 2 4], 33),
  (33, [true, false, false, false, true], [e1 33 (.iload 4) 2 4, ec 35 (.bipush 24) 2 24, e1 37 (.if_icmp .ge 25) 3 62, e1 40 (.aload_n 0) 1 0, e3 41 (.getfield 25) 3 19 6 2, e1 44 (.aload_n 0) 1 0, e3 45 (.getfield 43) 3 19 9 0, ec 48 (.bipush 24) 2 24, e0 50 (.imul) 1, e1 51 (.iload 4) 2 4, e0 53 (.iadd) 1, ec 54 (.iconst 0) 1 0, e0 55 (.bastore) 1, ek 56 (.iinc 4 1) 3 1 4, e1 59 (.goto (-26)) 3 33], 62),
  (62, [true, false, false, false, false], [ec 62 (.iconst 0) 1 0, e1 63 (.istore 4) 2 4], 65),
  (65, [true, false, false, false, true], [e1 65 (.iload 4) 2 4, ec 67 (.bipush 64) 2 64, e1 69 (.if_icmp .ge 49) 3 118, e1 72 (.aload_n 0) 1 0, e3 73 (.getfield 29) 3 19 7 2, e1 76 (.aload_n 0) 1 0, e3 77 (.getfield 43) 3 19 9 0, ec 80 (.bipush 64) 2 64, e0 82 (.imul) 1, e1 83 (.iload 4) 2 4, e0 85 (.iadd) 1, e1 86 (.aload_n 0) 1 0, e1 87 (.aload_n 0) 1 0, e3 88 (.getfield 43) 3 19 9 0, ei 91 (.invokevirtual 47) 3 19 106 2 1 2, e0 94 (.lastore) 1, e1 95 (.aload_n 0) 1 0, e3 96 (.getfield 32) 3 19 8 2, e1 99 (.aload_n 0) 1 0, e3 100 (.getfield 43) 3 19 9 0, ec 103 (.bipush 64) 2 64, e0 105 (.imul) 1, e1 106 (.iload 4) 2 4, e0 108 (.iadd) 1, ec 109 (.bipush (-9)) 2 (-9), e0 111 (.iastore) 1, ek 112 (.iinc 4 1) 3 1 4, e1 115 (.goto (-50)) 3 65], 118),
  (118, [true, false, false, false, false], [e1 118 (.aload_n 0) 1 0, e0 119 (.dup) 1, e3 120 (.getfield 43) 3 19 9 0, e0 123 (.dup_x1) 1, ec 124 (.iconst 1) 1 1, e0 125 (.iadd) 1, e3 126 (.putfield 43) 3 19 9 0, e1 129 (.ireturn) 1 0], 130)]
set_option maxRecDepth 100000 in
def K_X9_has : List XB := [(0, [true, true], [e1 0 (.iload_n 1) 1 1, e1 1 (.aload_n 0) 1 0, e3 2 (.getfield 43) 3 19 9 0, ei 5 (.invokestatic 51) 3 0 123 2 0 2, e1 8 (.ireturn) 1 1], 9)]
set_option maxRecDepth 100000 in
def K_X9_emptyCell : List XB := [(0, [true, true], [e1 0 (.aload_n 0) 1 0, e3 1 (.getfield 15) 3 19 3 2, e1 4 (.iload_n 1) 1 1, e0 5 (.iaload) 1, ec 6 (.bipush 8) 2 8, e1 8 (.if_icmp .ne 9) 3 17, ec 11 (.ldc2_w 55) 3 (-9), e1 14 (.goto 4) 3 18], 17),
  (17, [false, false], [ec 17 (.lconst 0) 1 0], 18),
  (18, [false, false], [e0 18 (.lreturn) 1], 19)]
set_option maxRecDepth 100000 in
def K_X9_knows : List XB := [(0, [true, true, true, false], [e1 0 (.aload_n 0) 1 0, e3 1 (.getfield 15) 3 19 3 2, e1 4 (.iload_n 1) 1 1, e0 5 (.iaload) 1, ec 6 (.bipush 8) 2 8, e1 8 (.if_icmp .ne 22) 3 30, e1 11 (.lload_n 2) 1 2, ec 12 (.ldc2_w 55) 3 (-9), e0 15 (.lcmp) 1, e1 16 (.ifCond .eq 14) 3 30, e1 19 (.aload_n 0) 1 0, e3 20 (.getfield 39) 3 19 1 2, e1 23 (.lload_n 2) 1 2, ei 24 (.invokevirtual 57) 3 18 90 2 0 3, e1 27 (.ifCond .eq 7) 3 34], 30),
  (30, [false, false, false, false], [ec 30 (.iconst 1) 1 1, e1 31 (.goto 4) 3 35], 34),
  (34, [false, false, false, false], [ec 34 (.iconst 0) 1 0], 35),
  (35, [false, false, false, false], [e1 35 (.ireturn) 1 1], 36)]
set_option maxRecDepth 100000 in
def K_X9_takes : List XB := [(0, [true, true, true, false], [e1 0 (.aload_n 0) 1 0, e3 1 (.getfield 15) 3 19 3 2, e1 4 (.iload_n 1) 1 1, e0 5 (.iaload) 1, ec 6 (.bipush 8) 2 8, e1 8 (.if_icmp .ne 40) 3 48, e1 11 (.aload_n 0) 1 0, e3 12 (.getfield 39) 3 19 1 2, e1 15 (.lload_n 2) 1 2, ei 16 (.invokevirtual 57) 3 18 90 2 0 3, e1 19 (.ifCond .eq 29) 3 48, e1 22 (.aload_n 0) 1 0, e3 23 (.getfield 35) 3 19 0 2, e1 26 (.aload_n 0) 1 0, e3 27 (.getfield 39) 3 19 1 2, e3 30 (.getfield 63) 3 18 2 2, e1 33 (.lload_n 2) 1 2, e0 34 (.l2i) 1, e0 35 (.iaload) 1, e1 36 (.aload_n 0) 1 0, e3 37 (.getfield 18) 3 19 4 2, e1 40 (.iload_n 1) 1 1, e0 41 (.iaload) 1, ei 42 (.invokevirtual 66) 3 10 4 3 0 5, e1 45 (.ifCond .eq 7) 3 52], 48),
  (48, [false, false, false, false], [ec 48 (.iconst 1) 1 1, e1 49 (.goto 4) 3 53], 52),
  (52, [false, false, false, false], [ec 52 (.iconst 0) 1 0], 53),
  (53, [false, false, false, false], [e1 53 (.ireturn) 1 1], 54)]
set_option maxRecDepth 100000 in
def K_X9_isFor : List XB := [(0, [true, true, true], [e1 0 (.aload_n 0) 1 0, e3 1 (.getfield 35) 3 19 0 2, e1 4 (.aload_n 0) 1 0, e3 5 (.getfield 39) 3 19 1 2, e3 8 (.getfield 71) 3 18 1 2, e1 11 (.iload_n 1) 1 1, e0 12 (.iaload) 1, e1 13 (.aload_n 0) 1 0, e3 14 (.getfield 9) 3 19 2 2, e1 17 (.iload_n 2) 1 2, e0 18 (.iaload) 1, ei 19 (.invokevirtual 66) 3 10 4 3 0 5, e1 22 (.ireturn) 1 1], 23)]
set_option maxRecDepth 100000 in
def K_X9_tellUsual : List XB := [(0, [true, true, true, true, false], [e1 0 (.aload_n 0) 1 0, e3 1 (.getfield 21) 3 19 5 2, e1 4 (.iload_n 2) 1 2, ec 5 (.bipush 24) 2 24, e0 7 (.imul) 1, e1 8 (.iload_n 1) 1 1, e0 9 (.iadd) 1, e1 10 (.aload_n 0) 1 0, e3 11 (.getfield 15) 3 19 3 2, e1 14 (.iload_n 2) 1 2, e0 15 (.iaload) 1, e1 16 (.lload_n 3) 1 3, ei 17 (.invokestatic 74) 3 0 187 2 1 3, e0 20 (.lastore) 1, e1 21 (.aload_n 0) 1 0, e3 22 (.getfield 25) 3 19 6 2, e1 25 (.iload_n 2) 1 2, ec 26 (.bipush 24) 2 24, e0 28 (.imul) 1, e1 29 (.iload_n 1) 1 1, e0 30 (.iadd) 1, ec 31 (.iconst 1) 1 1, e0 32 (.bastore) 1, e0 33 (.return_) 1], 34)]
set_option maxRecDepth 100000 in
def K_X9_tellGiven : List XB := [(0, [true, true, true, true, false, true], [e1 0 (.aload_n 0) 1 0, e3 1 (.getfield 29) 3 19 7 2, e1 4 (.iload_n 2) 1 2, ec 5 (.bipush 64) 2 64, e0 7 (.imul) 1, e1 8 (.iload_n 1) 1 1, e0 9 (.iadd) 1, e1 10 (.aload_n 0) 1 0, e3 11 (.getfield 15) 3 19 3 2, e1 14 (.iload_n 2) 1 2, e0 15 (.iaload) 1, e1 16 (.lload_n 3) 1 3, ei 17 (.invokestatic 74) 3 0 187 2 1 3, e0 20 (.lastore) 1, e1 21 (.aload_n 0) 1 0, e3 22 (.getfield 32) 3 19 8 2, e1 25 (.iload_n 2) 1 2, ec 26 (.bipush 64) 2 64, e0 28 (.imul) 1, e1 29 (.iload_n 1) 1 1, e0 30 (.iadd) 1, e1 31 (.iload 5) 2 5, e0 33 (.iastore) 1, e0 34 (.return_) 1], 35)]
set_option maxRecDepth 100000 in
def K_X9_givenBy : List XB := [(0, [true, true, true], [e1 0 (.aload_n 0) 1 0, e3 1 (.getfield 32) 3 19 8 2, e1 4 (.iload_n 2) 1 2, ec 5 (.bipush 64) 2 64, e0 7 (.imul) 1, e1 8 (.iload_n 1) 1 1, e0 9 (.iadd) 1, e0 10 (.iaload) 1, e1 11 (.ireturn) 1 0], 12)]
set_option maxRecDepth 100000 in
def K_X9_givenCell : List XB := [(0, [true, true, true], [e1 0 (.aload_n 0) 1 0, e3 1 (.getfield 29) 3 19 7 2, e1 4 (.iload_n 2) 1 2, ec 5 (.bipush 64) 2 64, e0 7 (.imul) 1, e1 8 (.iload_n 1) 1 1, e0 9 (.iadd) 1, e0 10 (.laload) 1, e0 11 (.lreturn) 1], 12)]
set_option maxRecDepth 100000 in
def K_X9_isGivenOtherwise : List XB := [(0, [true, true, true, true, false], [e1 0 (.aload_n 0) 1 0, e1 1 (.iload_n 1) 1 1, e1 2 (.iload_n 2) 1 2, ei 3 (.invokevirtual 78) 3 19 112 3 0 3, e1 6 (.ifCond .lt 27) 3 33, e1 9 (.aload_n 0) 1 0, e1 10 (.iload_n 1) 1 1, e1 11 (.iload_n 2) 1 2, ei 12 (.invokevirtual 82) 3 19 113 3 1 3, e1 15 (.aload_n 0) 1 0, e3 16 (.getfield 15) 3 19 3 2, e1 19 (.iload_n 2) 1 2, e0 20 (.iaload) 1, e1 21 (.lload_n 3) 1 3, ei 22 (.invokestatic 74) 3 0 187 2 1 3, e0 25 (.lcmp) 1, e1 26 (.ifCond .eq 7) 3 33, ec 29 (.iconst 1) 1 1, e1 30 (.goto 4) 3 34], 33),
  (33, [false, false, false, false, false], [ec 33 (.iconst 0) 1 0], 34),
  (34, [false, false, false, false, false], [e1 34 (.ireturn) 1 1], 35)]
set_option maxRecDepth 100000 in
def K_X9_valueOf : List XB := [(0, [true, true, true, false, false], [e1 0 (.aload_n 0) 1 0, e1 1 (.iload_n 1) 1 1, e1 2 (.iload_n 2) 1 2, ei 3 (.invokevirtual 78) 3 19 112 3 0 3, e1 6 (.ifCond .lt 10) 3 16, e1 9 (.aload_n 0) 1 0, e1 10 (.iload_n 1) 1 1, e1 11 (.iload_n 2) 1 2, ei 12 (.invokevirtual 82) 3 19 113 3 1 3, e0 15 (.lreturn) 1], 16),
  (16, [true, true, true, false, false], [e1 16 (.aload_n 0) 1 0, e3 17 (.getfield 39) 3 19 1 2, e3 20 (.getfield 71) 3 18 1 2, e1 23 (.iload_n 1) 1 1, e0 24 (.iaload) 1, e1 25 (.istore_n 3) 1 3, ec 26 (.iconst 0) 1 0, e1 27 (.istore 4) 2 4], 29),
  (29, [true, false, true, true, true], [e1 29 (.iload_n 3) 1 3, e1 30 (.ifCond .lt 52) 3 82, e1 33 (.iload 4) 2 4, ec 35 (.bipush 24) 2 24, e1 37 (.if_icmp .ge 45) 3 82, e1 40 (.aload_n 0) 1 0, e3 41 (.getfield 25) 3 19 6 2, e1 44 (.iload_n 2) 1 2, ec 45 (.bipush 24) 2 24, e0 47 (.imul) 1, e1 48 (.iload_n 3) 1 3, e0 49 (.iadd) 1, e0 50 (.baload) 1, e1 51 (.ifCond .eq 15) 3 66, e1 54 (.aload_n 0) 1 0, e3 55 (.getfield 21) 3 19 5 2, e1 58 (.iload_n 2) 1 2, ec 59 (.bipush 24) 2 24, e0 61 (.imul) 1, e1 62 (.iload_n 3) 1 3, e0 63 (.iadd) 1, e0 64 (.laload) 1, e0 65 (.lreturn) 1], 66),
  (66, [true, false, true, true, true], [e1 66 (.aload_n 0) 1 0, e3 67 (.getfield 35) 3 19 0 2, e3 70 (.getfield 86) 3 10 0 2, e1 73 (.iload_n 3) 1 3, e0 74 (.iaload) 1, e1 75 (.istore_n 3) 1 3, ek 76 (.iinc 4 1) 3 1 4, e1 79 (.goto (-50)) 3 29], 82),
  (82, [true, false, true, false, false], [e1 82 (.aload_n 0) 1 0, e1 83 (.iload_n 2) 1 2, ei 84 (.invokevirtual 47) 3 19 106 2 1 2, e0 87 (.lreturn) 1], 88)]
set_option maxRecDepth 100000 in
def K_X10_init : List XB := [(0, [true], [e1 0 (.aload_n 0) 1 0, ei 1 (.invokespecial 3) 3 0 0 1 9 9, e1 4 (.aload_n 0) 1 0, ec 5 (.bipush 64) 2 64, e1 7 (.newarray .int) 2 1, e3 9 (.putfield 9) 3 20 0 2, e1 12 (.aload_n 0) 1 0, ec 13 (.bipush 64) 2 64, e1 15 (.newarray .int) 2 1, e3 17 (.putfield 15) 3 20 1 2, e1 20 (.aload_n 0) 1 0, ec 21 (.bipush 64) 2 64, e1 23 (.newarray .int) 2 1, e3 25 (.putfield 18) 3 20 2 2, e0 28 (.return_) 1], 29)]
set_option maxRecDepth 100000 in
def K_X10_begin : List XB := [(0, [true, true, false], [ec 0 (.iconst 0) 1 0, e1 1 (.istore_n 2) 1 2], 2),
  (2, [true, true, true], [e1 2 (.iload_n 2) 1 2, ec 3 (.bipush 64) 2 64, e1 5 (.if_icmp .ge 25) 3 30, e1 8 (.aload_n 0) 1 0, e3 9 (.getfield 9) 3 20 0 2, e1 12 (.iload_n 2) 1 2, ec 13 (.bipush (-9)) 2 (-9), e0 15 (.iastore) 1, e1 16 (.aload_n 0) 1 0, e3 17 (.getfield 15) 3 20 1 2, e1 20 (.iload_n 2) 1 2, ec 21 (.bipush (-9)) 2 (-9), e0 23 (.iastore) 1, ek 24 (.iinc 2 1) 3 1 2, e1 27 (.goto (-25)) 3 2], 30),
  (30, [true, true, false], [e1 30 (.aload_n 0) 1 0, e3 31 (.getfield 9) 3 20 0 2, e1 34 (.iload_n 1) 1 1, ec 35 (.iconst 0) 1 0, e0 36 (.iastore) 1, e1 37 (.aload_n 0) 1 0, e3 38 (.getfield 18) 3 20 2 2, ec 41 (.iconst 0) 1 0, e1 42 (.iload_n 1) 1 1, e0 43 (.iastore) 1, e1 44 (.aload_n 0) 1 0, ec 45 (.iconst 1) 1 1, e3 46 (.putfield 21) 3 20 3 0, e0 49 (.return_) 1], 50)]
set_option maxRecDepth 100000 in
def K_X10_step : List XB := [(0, [true, true, true, true], [e1 0 (.aload_n 0) 1 0, e3 1 (.getfield 9) 3 20 0 2, e1 4 (.iload_n 2) 1 2, e0 5 (.iaload) 1, ec 6 (.bipush (-9)) 2 (-9), e1 8 (.if_icmp .ne 68) 3 76, e1 11 (.aload_n 0) 1 0, e3 12 (.getfield 21) 3 20 3 0, ec 15 (.bipush 64) 2 64, e1 17 (.if_icmp .ge 59) 3 76, e1 20 (.aload_n 0) 1 0, e3 21 (.getfield 9) 3 20 0 2, e1 24 (.iload_n 2) 1 2, e1 25 (.aload_n 0) 1 0, e3 26 (.getfield 9) 3 20 0 2, e1 29 (.iload_n 1) 1 1, e0 30 (.iaload) 1, ec 31 (.iconst 1) 1 1, e0 32 (.iadd) 1, e0 33 (.iastore) 1, e1 34 (.aload_n 0) 1 0, e3 35 (.getfield 15) 3 20 1 2, e1 38 (.iload_n 2) 1 2, e1 39 (.aload_n 0) 1 0, e3 40 (.getfield 9) 3 20 0 2, e1 43 (.iload_n 1) 1 1, e0 44 (.iaload) 1, e1 45 (.ifCond .ne 7) 3 52, e1 48 (.iload_n 3) 1 3, e1 49 (.goto 9) 3 58], 52),
  (52, [true, true, true, false], [e1 52 (.aload_n 0) 1 0, e3 53 (.getfield 15) 3 20 1 2, e1 56 (.iload_n 1) 1 1, e0 57 (.iaload) 1], 58),
  (58, [true, false, true, false], [e0 58 (.iastore) 1, e1 59 (.aload_n 0) 1 0, e3 60 (.getfield 18) 3 20 2 2, e1 63 (.aload_n 0) 1 0, e0 64 (.dup) 1, e3 65 (.getfield 21) 3 20 3 0, e0 68 (.dup_x1) 1, ec 69 (.iconst 1) 1 1, e0 70 (.iadd) 1, e3 71 (.putfield 21) 3 20 3 0, e1 74 (.iload_n 2) 1 2, e0 75 (.iastore) 1], 76),
  (76, [false, false, false, false], [e0 76 (.return_) 1], 77)]
set_option maxRecDepth 100000 in
def K_X11_init : List XB := [(0, [true, false, false], [e1 0 (.aload_n 0) 1 0, ei 1 (.invokespecial 3) 3 0 0 1 9 9, e1 4 (.aload_n 0) 1 0, e1 5 (.new 9) 3 10, e0 8 (.dup) 1, ei 9 (.invokespecial 11) 3 10 0 1 3 1, e3 12 (.putfield 12) 3 21 0 2, e1 15 (.aload_n 0) 1 0, e1 16 (.new 16) 3 18, e0 19 (.dup) 1, e1 20 (.aload_n 0) 1 0, e3 21 (.getfield 12) 3 21 0 2, ei 24 (.invokespecial 18) 3 18 88 2 3 2, e3 27 (.putfield 21) 3 21 1 2, e1 30 (.aload_n 0) 1 0, e1 31 (.new 25) 3 19, e0 34 (.dup) 1, e1 35 (.aload_n 0) 1 0, e3 36 (.getfield 12) 3 21 0 2, e1 39 (.aload_n 0) 1 0, e3 40 (.getfield 21) 3 21 1 2, ei 43 (.invokespecial 27) 3 19 103 3 3 3, e3 46 (.putfield 30) 3 21 2 2, e1 49 (.aload_n 0) 1 0, e1 50 (.new 34) 3 14, e0 53 (.dup) 1, ei 54 (.invokespecial 36) 3 14 62 1 3 1, e3 57 (.putfield 37) 3 21 3 2, e1 60 (.aload_n 0) 1 0, e1 61 (.new 41) 3 11, e0 64 (.dup) 1, e1 65 (.aload_n 0) 1 0, e3 66 (.getfield 21) 3 21 1 2, e1 69 (.aload_n 0) 1 0, e3 70 (.getfield 37) 3 21 3 2, ei 73 (.invokespecial 43) 3 11 6 3 3 3, e3 76 (.putfield 46) 3 21 4 2, e1 79 (.aload_n 0) 1 0, e1 80 (.new 50) 3 15, e0 83 (.dup) 1, e1 84 (.aload_n 0) 1 0, e3 85 (.getfield 21) 3 21 1 2, e1 88 (.aload_n 0) 1 0, e3 89 (.getfield 46) 3 21 4 2, ei 92 (.invokespecial 52) 3 15 66 3 3 3, e3 95 (.putfield 55) 3 21 5 2, e1 98 (.new 59) 3 20, e0 101 (.dup) 1, ei 102 (.invokespecial 61) 3 20 116 1 3 1, e1 105 (.astore_n 1) 1 1, e1 106 (.aload_n 0) 1 0, e1 107 (.new 62) 3 12, e0 110 (.dup) 1, e1 111 (.aload_n 0) 1 0, e3 112 (.getfield 21) 3 21 1 2, e1 115 (.aload_n 0) 1 0, e3 116 (.getfield 37) 3 21 3 2, e1 119 (.aload_n 1) 1 1, ei 120 (.invokespecial 64) 3 12 35 4 3 4, e3 123 (.putfield 67) 3 21 6 2, e1 126 (.aload_n 0) 1 0, e1 127 (.new 71) 3 13, e0 130 (.dup) 1, e1 131 (.aload_n 0) 1 0, e3 132 (.getfield 21) 3 21 1 2, e1 135 (.aload_n 1) 1 1, ei 136 (.invokespecial 73) 3 13 49 3 3 3, e3 139 (.putfield 76) 3 21 7 2, e1 142 (.aload_n 0) 1 0, ec 143 (.bipush 10) 2 10, e1 145 (.anewarray 80) 3 5, e3 148 (.putfield 82) 3 21 8 2, ec 151 (.iconst 0) 1 0, e1 152 (.istore_n 2) 1 2], 153),
  (153, [true, false, true], [e1 153 (.iload_n 2) 1 2, ec 154 (.bipush 10) 2 10, e1 156 (.if_icmp .ge 22) 3 178, e1 159 (.aload_n 0) 1 0, e3 160 (.getfield 82) 3 21 8 2, e1 163 (.iload_n 2) 1 2, e1 164 (.new 80) 3 16, e0 167 (.dup) 1, ei 168 (.invokespecial 86) 3 16 72 1 3 1, e3 171 (.aastore) 1 5 16 0, ek 172 (.iinc 2 1) 3 1 2, e1 175 (.goto (-22)) 3 153], 178),
  (178, [true, false, false], [e1 178 (.aload_n 0) 1 0, ec 179 (.bipush 6) 2 6, e1 181 (.anewarray 87) 3 6, e3 184 (.putfield 89) 3 21 9 2, ec 187 (.iconst 0) 1 0, e1 188 (.istore_n 2) 1 2], 189),
  (189, [true, false, true], [e1 189 (.iload_n 2) 1 2, ec 190 (.bipush 6) 2 6, e1 192 (.if_icmp .ge 22) 3 214, e1 195 (.aload_n 0) 1 0, e3 196 (.getfield 89) 3 21 9 2, e1 199 (.iload_n 2) 1 2, e1 200 (.new 87) 3 17, e0 203 (.dup) 1, ei 204 (.invokespecial 93) 3 17 75 1 3 1, e3 207 (.aastore) 1 6 17 0, ek 208 (.iinc 2 1) 3 1 2, e1 211 (.goto (-22)) 3 189], 214),
  (214, [true, false, false], [e1 214 (.aload_n 0) 1 0, ec 215 (.bipush 16) 2 16, e1 217 (.newarray .int) 2 1, e3 219 (.putfield 94) 3 21 10 2, e1 222 (.aload_n 0) 1 0, ec 223 (.sipush 1490) 3 1490, e1 226 (.newarray .int) 2 1, e3 228 (.putfield 98) 3 21 11 2, e1 231 (.aload_n 0) 1 0, ei 232 (.invokevirtual 101) 3 21 120 1 3 1, e0 235 (.return_) 1], 236)]
set_option maxRecDepth 100000 in
def K_X11_beginAnew : List XB := [(0, [true], [e1 0 (.aload_n 0) 1 0, e3 1 (.getfield 12) 3 21 0 2, ei 4 (.invokevirtual 104) 3 10 1 1 3 2, e1 7 (.aload_n 0) 1 0, e3 8 (.getfield 21) 3 21 1 2, ec 11 (.iconst 0) 1 0, e3 12 (.putfield 107) 3 18 7 0, e1 15 (.aload_n 0) 1 0, e3 16 (.getfield 30) 3 21 2 2, ec 19 (.iconst 0) 1 0, e3 20 (.putfield 111) 3 19 9 0, e1 23 (.aload_n 0) 1 0, e3 24 (.getfield 37) 3 21 3 2, ec 27 (.iconst 0) 1 0, e3 28 (.putfield 112) 3 14 4 0, e1 31 (.aload_n 0) 1 0, e3 32 (.getfield 46) 3 21 4 2, ec 35 (.iconst 0) 1 0, e3 36 (.putfield 113) 3 11 15 0, e1 39 (.aload_n 0) 1 0, e3 40 (.getfield 67) 3 21 6 2, ec 43 (.iconst 0) 1 0, e3 44 (.putfield 116) 3 12 6 0, e1 47 (.aload_n 0) 1 0, ec 48 (.iconst 0) 1 0, e3 49 (.putfield 117) 3 21 12 0, e1 52 (.aload_n 0) 1 0, ec 53 (.iconst 0) 1 0, e3 54 (.putfield 120) 3 21 13 0, e1 57 (.aload_n 0) 1 0, ec 58 (.iconst 0) 1 0, e3 59 (.putfield 123) 3 21 14 0, e1 62 (.aload_n 0) 1 0, ec 63 (.iconst 0) 1 0, e3 64 (.putfield 126) 3 21 15 0, e1 67 (.aload_n 0) 1 0, ec 68 (.iconst 0) 1 0, e3 69 (.putfield 129) 3 21 16 0, e0 72 (.return_) 1], 73)]
set_option maxRecDepth 100000 in
def K_X11_faulted : List XB := [(0, [true, true], [e1 0 (.aload_n 0) 1 0, e1 1 (.iload_n 1) 1 1, e3 2 (.putfield 126) 3 21 15 0, ec 5 (.bipush (-10)) 2 (-10), e1 7 (.iload_n 1) 1 1, e0 8 (.isub) 1, e1 9 (.ireturn) 1 0], 10)]
set_option maxRecDepth 100000 in
def K_X11_against : List XB := [(0, [true], [ec 0 (.bipush (-100)) 2 (-100), e1 2 (.iload_n 0) 1 0, e0 3 (.isub) 1, e1 4 (.ireturn) 1 0], 5)]
set_option maxRecDepth 100000 in
def K_X11_inRange : List XB := [(0, [true, true], [e1 0 (.iload_n 0) 1 0, e1 1 (.ifCond .lt 12) 3 13, e1 4 (.iload_n 0) 1 0, e1 5 (.iload_n 1) 1 1, e1 6 (.if_icmp .ge 7) 3 13, ec 9 (.iconst 1) 1 1, e1 10 (.goto 4) 3 14], 13),
  (13, [false, false], [ec 13 (.iconst 0) 1 0], 14),
  (14, [false, false], [e1 14 (.ireturn) 1 1], 15)]
set_option maxRecDepth 100000 in
def K_X11_kind : List XB := [(0, [true, true], [e1 0 (.aload_n 0) 1 0, e3 1 (.getfield 12) 3 21 0 2, e1 4 (.iload_n 1) 1 1, ei 5 (.invokevirtual 132) 3 10 3 2 0 2, e1 8 (.ifCond .ne 5) 3 13, ec 11 (.iconst (-1)) 1 (-1), e1 12 (.ireturn) 1 0], 13),
  (13, [true, true], [e1 13 (.aload_n 0) 1 0, e3 14 (.getfield 12) 3 21 0 2, e3 17 (.getfield 136) 3 10 1 0, ec 20 (.bipush 24) 2 24, e1 22 (.if_icmp .lt 6) 3 28, ec 25 (.bipush (-4)) 2 (-4), e1 27 (.ireturn) 1 0], 28),
  (28, [true, true], [e1 28 (.aload_n 0) 1 0, e3 29 (.getfield 12) 3 21 0 2, e1 32 (.iload_n 1) 1 1, ei 33 (.invokevirtual 137) 3 10 2 2 0 2, e1 36 (.ireturn) 1 0], 37)]
set_option maxRecDepth 100000 in
def K_X11_is : List XB := [(0, [true, true, true], [e1 0 (.aload_n 0) 1 0, e3 1 (.getfield 12) 3 21 0 2, e1 4 (.iload_n 1) 1 1, ei 5 (.invokevirtual 132) 3 10 3 2 0 2, e1 8 (.ifCond .eq 14) 3 22, e1 11 (.aload_n 0) 1 0, e3 12 (.getfield 12) 3 21 0 2, e1 15 (.iload_n 2) 1 2, ei 16 (.invokevirtual 132) 3 10 3 2 0 2, e1 19 (.ifCond .ne 5) 3 24], 22),
  (22, [false, false, false], [ec 22 (.iconst (-1)) 1 (-1), e1 23 (.ireturn) 1 0], 24),
  (24, [true, true, true], [e1 24 (.aload_n 0) 1 0, e3 25 (.getfield 12) 3 21 0 2, e1 28 (.iload_n 1) 1 1, e1 29 (.iload_n 2) 1 2, ei 30 (.invokevirtual 141) 3 10 4 3 0 5, e1 33 (.ifCond .eq 7) 3 40, ec 36 (.iconst 1) 1 1, e1 37 (.goto 4) 3 41], 40),
  (40, [false, false, false], [ec 40 (.iconst 0) 1 0], 41),
  (41, [false, false, false], [e1 41 (.ireturn) 1 0], 42)]
set_option maxRecDepth 100000 in
def K_X11_property : List XB := [(0, [true, true, true, true], [e1 0 (.aload_n 0) 1 0, e3 1 (.getfield 12) 3 21 0 2, e1 4 (.iload_n 1) 1 1, ei 5 (.invokevirtual 132) 3 10 3 2 0 2, e1 8 (.ifCond .eq 20) 3 28, e1 11 (.iload_n 2) 1 2, ec 12 (.bipush 8) 2 8, e1 14 (.if_icmp .ne 16) 3 30, e1 17 (.aload_n 0) 1 0, e3 18 (.getfield 12) 3 21 0 2, e1 21 (.iload_n 3) 1 3, ei 22 (.invokevirtual 132) 3 10 3 2 0 2, e1 25 (.ifCond .ne 5) 3 30], 28),
  (28, [false, false, false, false], [ec 28 (.iconst (-1)) 1 (-1), e1 29 (.ireturn) 1 0], 30),
  (30, [true, true, true, true], [e1 30 (.iload_n 2) 1 2, ec 31 (.bipush 9) 2 9, ei 33 (.invokestatic 145) 3 0 123 2 0 2, e1 36 (.ifCond .ne 6) 3 42, ec 39 (.bipush (-2)) 2 (-2), e1 41 (.ireturn) 1 0], 42),
  (42, [true, true, true, true], [e1 42 (.aload_n 0) 1 0, e3 43 (.getfield 30) 3 21 2 2, e3 46 (.getfield 111) 3 19 9 0, ec 49 (.bipush 12) 2 12, e1 51 (.if_icmp .lt 6) 3 57, ec 54 (.bipush (-4)) 2 (-4), e1 56 (.ireturn) 1 0], 57),
  (57, [true, true, true, true], [e1 57 (.aload_n 0) 1 0, e3 58 (.getfield 30) 3 21 2 2, e1 61 (.iload_n 1) 1 1, e1 62 (.iload_n 2) 1 2, e1 63 (.iload_n 2) 1 2, ec 64 (.bipush 8) 2 8, e1 66 (.if_icmp .ne 14) 3 80, e1 69 (.aload_n 0) 1 0, e3 70 (.getfield 12) 3 21 0 2, e1 73 (.iload_n 3) 1 3, ei 74 (.invokevirtual 148) 3 10 5 2 0 4, e1 77 (.goto 5) 3 82], 80),
  (80, [false, false, false, false], [ec 80 (.bipush (-9)) 2 (-9)], 82),
  (82, [false, false, false, false], [ei 82 (.invokevirtual 151) 3 19 104 4 0 5, e1 85 (.ireturn) 1 0], 86)]
set_option maxRecDepth 100000 in
def K_X11_usual : List XB := [(0, [true, true, true, true, false], [e1 0 (.aload_n 0) 1 0, e3 1 (.getfield 12) 3 21 0 2, e1 4 (.iload_n 1) 1 1, ei 5 (.invokevirtual 132) 3 10 3 2 0 2, e1 8 (.ifCond .eq 26) 3 34, e1 11 (.aload_n 0) 1 0, e3 12 (.getfield 30) 3 21 2 2, e1 15 (.iload_n 2) 1 2, ei 16 (.invokevirtual 154) 3 19 105 2 0 2, e1 19 (.ifCond .eq 15) 3 34, e1 22 (.aload_n 0) 1 0, e3 23 (.getfield 30) 3 21 2 2, e1 26 (.iload_n 2) 1 2, e1 27 (.lload_n 3) 1 3, ei 28 (.invokevirtual 155) 3 19 107 3 0 4, e1 31 (.ifCond .ne 5) 3 36], 34),
  (34, [false, false, false, false, false], [ec 34 (.iconst (-1)) 1 (-1), e1 35 (.ireturn) 1 0], 36),
  (36, [true, true, true, true, false], [e1 36 (.aload_n 0) 1 0, e3 37 (.getfield 12) 3 21 0 2, e1 40 (.iload_n 1) 1 1, e1 41 (.aload_n 0) 1 0, e3 42 (.getfield 30) 3 21 2 2, e3 45 (.getfield 159) 3 19 2 2, e1 48 (.iload_n 2) 1 2, e0 49 (.iaload) 1, ei 50 (.invokevirtual 141) 3 10 4 3 0 5, e1 53 (.ifCond .ne 6) 3 59, ec 56 (.bipush (-3)) 2 (-3), e1 58 (.ireturn) 1 0], 59),
  (59, [true, true, true, true, false], [e1 59 (.aload_n 0) 1 0, e3 60 (.getfield 30) 3 21 2 2, e1 63 (.iload_n 2) 1 2, e1 64 (.lload_n 3) 1 3, ei 65 (.invokevirtual 162) 3 19 108 3 0 4, e1 68 (.ifCond .ne 9) 3 77, e1 71 (.aload_n 0) 1 0, ec 72 (.iconst 4) 1 4, ei 73 (.invokevirtual 165) 3 21 121 2 0 2, e1 76 (.ireturn) 1 0], 77),
  (77, [true, true, true, true, false], [e1 77 (.aload_n 0) 1 0, e3 78 (.getfield 30) 3 21 2 2, e1 81 (.iload_n 1) 1 1, e1 82 (.iload_n 2) 1 2, e1 83 (.lload_n 3) 1 3, ei 84 (.invokevirtual 168) 3 19 110 4 3 5, ec 87 (.iconst 1) 1 1, e1 88 (.ireturn) 1 0], 89)]
set_option maxRecDepth 100000 in
def K_X11_thing : List XB := [(0, [true, true, true, false], [e1 0 (.aload_n 0) 1 0, e3 1 (.getfield 12) 3 21 0 2, e1 4 (.iload_n 1) 1 1, ei 5 (.invokevirtual 132) 3 10 3 2 0 2, e1 8 (.ifCond .ne 5) 3 13, ec 11 (.iconst (-1)) 1 (-1), e1 12 (.ireturn) 1 0], 13),
  (13, [true, true, true, false], [e1 13 (.iload_n 2) 1 2, e1 14 (.ifCond .lt 10) 3 24, e1 17 (.iload_n 2) 1 2, ec 18 (.sipush 1000) 3 1000, e1 21 (.if_icmp .le 6) 3 27], 24),
  (24, [false, false, false, false], [ec 24 (.bipush (-2)) 2 (-2), e1 26 (.ireturn) 1 0], 27),
  (27, [true, true, true, false], [e1 27 (.aload_n 0) 1 0, e3 28 (.getfield 21) 3 21 1 2, e3 31 (.getfield 107) 3 18 7 0, ec 34 (.bipush 64) 2 64, e1 36 (.if_icmp .lt 6) 3 42, ec 39 (.bipush (-4)) 2 (-4), e1 41 (.ireturn) 1 0], 42),
  (42, [true, true, true, false], [e1 42 (.aload_n 0) 1 0, e3 43 (.getfield 21) 3 21 1 2, e1 46 (.iload_n 1) 1 1, e1 47 (.iload_n 2) 1 2, ei 48 (.invokevirtual 172) 3 18 89 3 0 3, e1 51 (.istore_n 3) 1 3, e1 52 (.aload_n 0) 1 0, e3 53 (.getfield 46) 3 21 4 2, e1 56 (.iload_n 3) 1 3, ei 57 (.invokevirtual 175) 3 11 7 2 3 2, e1 60 (.aload_n 0) 1 0, e3 61 (.getfield 76) 3 21 7 2, e1 64 (.iload_n 3) 1 3, ei 65 (.invokevirtual 178) 3 13 50 2 3 3, e1 68 (.iload_n 3) 1 3, e1 69 (.ireturn) 1 0], 70)]
set_option maxRecDepth 100000 in
def K_X11_put : List XB := [(0, [true, true, true, false, false], [e1 0 (.aload_n 0) 1 0, e3 1 (.getfield 21) 3 21 1 2, e1 4 (.iload_n 1) 1 1, e0 5 (.i2l) 1, ei 6 (.invokevirtual 179) 3 18 90 2 0 3, e1 9 (.ifCond .eq 15) 3 24, e1 12 (.aload_n 0) 1 0, e3 13 (.getfield 21) 3 21 1 2, e1 16 (.iload_n 2) 1 2, e0 17 (.i2l) 1, ei 18 (.invokevirtual 179) 3 18 90 2 0 3, e1 21 (.ifCond .ne 5) 3 26], 24),
  (24, [false, false, false, false, false], [ec 24 (.iconst (-1)) 1 (-1), e1 25 (.ireturn) 1 0], 26),
  (26, [true, true, true, false, false], [e1 26 (.aload_n 0) 1 0, e3 27 (.getfield 21) 3 21 1 2, e1 30 (.iload_n 1) 1 1, e1 31 (.iload_n 2) 1 2, ei 32 (.invokevirtual 182) 3 18 100 3 0 3, e1 35 (.ifCond .eq 27) 3 62, e1 38 (.aload_n 0) 1 0, e3 39 (.getfield 46) 3 21 4 2, e1 42 (.iload_n 2) 1 2, e1 43 (.iload_n 1) 1 1, ei 44 (.invokevirtual 185) 3 11 12 3 0 5, e1 47 (.ifCond .ne 15) 3 62, e1 50 (.aload_n 0) 1 0, e3 51 (.getfield 46) 3 21 4 2, e1 54 (.iload_n 1) 1 1, e1 55 (.iload_n 2) 1 2, ei 56 (.invokevirtual 188) 3 11 10 3 0 4, e1 59 (.ifCond .eq 6) 3 65], 62),
  (62, [false, false, false, false, false], [ec 62 (.bipush (-3)) 2 (-3), e1 64 (.ireturn) 1 0], 65),
  (65, [true, true, true, false, false], [e1 65 (.aload_n 0) 1 0, e3 66 (.getfield 37) 3 21 3 2, ei 69 (.invokevirtual 191) 3 14 63 1 0 1, e1 72 (.ifCond .ne 14) 3 86, e1 75 (.aload_n 0) 1 0, e3 76 (.getfield 46) 3 21 4 2, e1 79 (.iload_n 1) 1 1, ei 80 (.invokevirtual 195) 3 11 11 2 0 2, e1 83 (.ifCond .eq 6) 3 89], 86),
  (86, [false, false, false, false, false], [ec 86 (.bipush (-4)) 2 (-4), e1 88 (.ireturn) 1 0], 89),
  (89, [true, true, true, false, false], [e1 89 (.aload_n 0) 1 0, e3 90 (.getfield 46) 3 21 4 2, e1 93 (.iload_n 1) 1 1, e1 94 (.iload_n 2) 1 2, ei 95 (.invokevirtual 198) 3 11 15 3 0 4, e1 98 (.istore_n 3) 1 3, e1 99 (.iload_n 3) 1 3, e1 100 (.ifCond .lt 8) 3 108, e1 103 (.iload_n 3) 1 3, ei 104 (.invokestatic 201) 3 0 122 1 0 1, e1 107 (.ireturn) 1 0], 108),
  (108, [true, true, true, false, false], [e1 108 (.aload_n 0) 1 0, e3 109 (.getfield 37) 3 21 3 2, ec 112 (.iconst 0) 1 0, e1 113 (.iload_n 1) 1 1, e1 114 (.iload_n 2) 1 2, ec 115 (.bipush (-9)) 2 (-9), ei 117 (.invokevirtual 204) 3 14 64 5 0 5, e1 120 (.istore 4) 2 4, e1 122 (.aload_n 0) 1 0, e3 123 (.getfield 46) 3 21 4 2, e1 126 (.iload_n 1) 1 1, e1 127 (.iload_n 2) 1 2, e1 128 (.iload 4) 2 4, ei 130 (.invokevirtual 207) 3 11 13 4 3 4, e1 133 (.iload 4) 2 4, e1 135 (.ireturn) 1 0], 136)]
set_option maxRecDepth 100000 in
def K_X11_bar : List XB := [(0, [true, true, true, false], [e1 0 (.aload_n 0) 1 0, e3 1 (.getfield 21) 3 21 1 2, e1 4 (.iload_n 1) 1 1, e0 5 (.i2l) 1, ei 6 (.invokevirtual 179) 3 18 90 2 0 3, e1 9 (.ifCond .eq 15) 3 24, e1 12 (.aload_n 0) 1 0, e3 13 (.getfield 21) 3 21 1 2, e1 16 (.iload_n 2) 1 2, e0 17 (.i2l) 1, ei 18 (.invokevirtual 179) 3 18 90 2 0 3, e1 21 (.ifCond .ne 5) 3 26], 24),
  (24, [false, false, false, false], [ec 24 (.iconst (-1)) 1 (-1), e1 25 (.ireturn) 1 0], 26),
  (26, [true, true, true, false], [e1 26 (.aload_n 0) 1 0, e3 27 (.getfield 21) 3 21 1 2, e1 30 (.iload_n 1) 1 1, ei 31 (.invokevirtual 211) 3 18 98 2 0 2, e1 34 (.ifCond .ne 14) 3 48, e1 37 (.aload_n 0) 1 0, e3 38 (.getfield 21) 3 21 1 2, e1 41 (.iload_n 2) 1 2, ei 42 (.invokevirtual 214) 3 18 96 2 0 2, e1 45 (.ifCond .ne 6) 3 51], 48),
  (48, [false, false, false, false], [ec 48 (.bipush (-3)) 2 (-3), e1 50 (.ireturn) 1 0], 51),
  (51, [true, true, true, false], [e1 51 (.aload_n 0) 1 0, e3 52 (.getfield 37) 3 21 3 2, ei 55 (.invokevirtual 191) 3 14 63 1 0 1, e1 58 (.ifCond .eq 6) 3 64, ec 61 (.bipush (-4)) 2 (-4), e1 63 (.ireturn) 1 0], 64),
  (64, [true, true, true, false], [e1 64 (.aload_n 0) 1 0, e3 65 (.getfield 46) 3 21 4 2, e1 68 (.iload_n 1) 1 1, e1 69 (.iload_n 2) 1 2, ei 70 (.invokevirtual 217) 3 11 19 3 0 3, e1 73 (.istore_n 3) 1 3, e1 74 (.iload_n 3) 1 3, e1 75 (.ifCond .lt 8) 3 83, e1 78 (.iload_n 3) 1 3, ei 79 (.invokestatic 201) 3 0 122 1 0 1, e1 82 (.ireturn) 1 0], 83),
  (83, [true, true, true, false], [e1 83 (.aload_n 0) 1 0, e3 84 (.getfield 46) 3 21 4 2, e1 87 (.iload_n 1) 1 1, e1 88 (.iload_n 2) 1 2, ei 89 (.invokevirtual 220) 3 11 20 3 3 3, e1 92 (.aload_n 0) 1 0, e3 93 (.getfield 37) 3 21 3 2, ec 96 (.iconst 1) 1 1, e1 97 (.iload_n 1) 1 1, e1 98 (.iload_n 2) 1 2, ec 99 (.bipush (-9)) 2 (-9), ei 101 (.invokevirtual 204) 3 14 64 5 0 5, e1 104 (.ireturn) 1 0], 105)]
set_option maxRecDepth 100000 in
def K_X11_give : List XB := [(0, [true, true, true, true, false, false], [e1 0 (.aload_n 0) 1 0, e3 1 (.getfield 21) 3 21 1 2, e1 4 (.iload_n 1) 1 1, e0 5 (.i2l) 1, ei 6 (.invokevirtual 179) 3 18 90 2 0 3, e1 9 (.ifCond .eq 26) 3 35, e1 12 (.aload_n 0) 1 0, e3 13 (.getfield 30) 3 21 2 2, e1 16 (.iload_n 2) 1 2, ei 17 (.invokevirtual 154) 3 19 105 2 0 2, e1 20 (.ifCond .eq 15) 3 35, e1 23 (.aload_n 0) 1 0, e3 24 (.getfield 30) 3 21 2 2, e1 27 (.iload_n 2) 1 2, e1 28 (.lload_n 3) 1 3, ei 29 (.invokevirtual 155) 3 19 107 3 0 4, e1 32 (.ifCond .ne 5) 3 37], 35),
  (35, [false, false, false, false, false, false], [ec 35 (.iconst (-1)) 1 (-1), e1 36 (.ireturn) 1 0], 37),
  (37, [true, true, true, true, false, false], [e1 37 (.aload_n 0) 1 0, e3 38 (.getfield 30) 3 21 2 2, e1 41 (.iload_n 1) 1 1, e1 42 (.iload_n 2) 1 2, ei 43 (.invokevirtual 224) 3 19 109 3 0 3, e1 46 (.ifCond .ne 6) 3 52, ec 49 (.bipush (-3)) 2 (-3), e1 51 (.ireturn) 1 0], 52),
  (52, [true, true, true, true, false, false], [e1 52 (.aload_n 0) 1 0, e3 53 (.getfield 37) 3 21 3 2, ei 56 (.invokevirtual 191) 3 14 63 1 0 1, e1 59 (.ifCond .eq 6) 3 65, ec 62 (.bipush (-4)) 2 (-4), e1 64 (.ireturn) 1 0], 65),
  (65, [true, true, true, true, false, false], [e1 65 (.aload_n 0) 1 0, e3 66 (.getfield 30) 3 21 2 2, e1 69 (.iload_n 2) 1 2, e1 70 (.lload_n 3) 1 3, ei 71 (.invokevirtual 162) 3 19 108 3 0 4, e1 74 (.ifCond .ne 9) 3 83, e1 77 (.aload_n 0) 1 0, ec 78 (.iconst 4) 1 4, ei 79 (.invokevirtual 165) 3 21 121 2 0 2, e1 82 (.ireturn) 1 0], 83),
  (83, [true, true, true, true, false, false], [e1 83 (.aload_n 0) 1 0, e3 84 (.getfield 30) 3 21 2 2, e1 87 (.iload_n 1) 1 1, e1 88 (.iload_n 2) 1 2, e1 89 (.lload_n 3) 1 3, ei 90 (.invokevirtual 227) 3 19 114 4 0 5, e1 93 (.ifCond .eq 16) 3 109, e1 96 (.aload_n 0) 1 0, e3 97 (.getfield 30) 3 21 2 2, e1 100 (.iload_n 1) 1 1, e1 101 (.iload_n 2) 1 2, ei 102 (.invokevirtual 231) 3 19 112 3 0 3, ei 105 (.invokestatic 201) 3 0 122 1 0 1, e1 108 (.ireturn) 1 0], 109),
  (109, [true, true, true, true, false, false], [e1 109 (.aload_n 0) 1 0, e3 110 (.getfield 37) 3 21 3 2, ec 113 (.iconst 2) 1 2, e1 114 (.iload_n 1) 1 1, e1 115 (.iload_n 2) 1 2, ec 116 (.bipush (-9)) 2 (-9), ei 118 (.invokevirtual 204) 3 14 64 5 0 5, e1 121 (.istore 5) 2 5, e1 123 (.aload_n 0) 1 0, e3 124 (.getfield 30) 3 21 2 2, e1 127 (.iload_n 1) 1 1, e1 128 (.iload_n 2) 1 2, e1 129 (.lload_n 3) 1 3, e1 130 (.iload 5) 2 5, ei 132 (.invokevirtual 234) 3 19 111 5 3 6, e1 135 (.iload 5) 2 5, e1 137 (.ireturn) 1 0], 138)]
set_option maxRecDepth 100000 in
def K_X11_value : List XB := [(0, [true, true, true], [e1 0 (.aload_n 0) 1 0, e3 1 (.getfield 21) 3 21 1 2, e1 4 (.iload_n 1) 1 1, e0 5 (.i2l) 1, ei 6 (.invokevirtual 179) 3 18 90 2 0 3, e1 9 (.ifCond .eq 14) 3 23, e1 12 (.aload_n 0) 1 0, e3 13 (.getfield 30) 3 21 2 2, e1 16 (.iload_n 2) 1 2, ei 17 (.invokevirtual 154) 3 19 105 2 0 2, e1 20 (.ifCond .ne 7) 3 27], 23),
  (23, [false, false, false], [ec 23 (.ldc2_w 238) 3 (-1), e0 26 (.lreturn) 1], 27),
  (27, [true, true, true], [e1 27 (.aload_n 0) 1 0, e3 28 (.getfield 30) 3 21 2 2, e1 31 (.iload_n 1) 1 1, e1 32 (.iload_n 2) 1 2, ei 33 (.invokevirtual 224) 3 19 109 3 0 3, e1 36 (.ifCond .ne 7) 3 43, ec 39 (.ldc2_w 240) 3 (-3), e0 42 (.lreturn) 1], 43),
  (43, [true, true, true], [e1 43 (.aload_n 0) 1 0, e3 44 (.getfield 30) 3 21 2 2, e1 47 (.iload_n 1) 1 1, e1 48 (.iload_n 2) 1 2, ei 49 (.invokevirtual 242) 3 19 115 3 1 5, e0 52 (.lreturn) 1], 53)]
set_option maxRecDepth 100000 in
def K_X11_given : List XB := [(0, [true, true, true], [e1 0 (.aload_n 0) 1 0, e3 1 (.getfield 21) 3 21 1 2, e1 4 (.iload_n 1) 1 1, e0 5 (.i2l) 1, ei 6 (.invokevirtual 179) 3 18 90 2 0 3, e1 9 (.ifCond .eq 14) 3 23, e1 12 (.aload_n 0) 1 0, e3 13 (.getfield 30) 3 21 2 2, e1 16 (.iload_n 2) 1 2, ei 17 (.invokevirtual 154) 3 19 105 2 0 2, e1 20 (.ifCond .ne 5) 3 25], 23),
  (23, [false, false, false], [ec 23 (.iconst (-1)) 1 (-1), e1 24 (.ireturn) 1 0], 25),
  (25, [true, true, true], [e1 25 (.aload_n 0) 1 0, e3 26 (.getfield 30) 3 21 2 2, e1 29 (.iload_n 1) 1 1, e1 30 (.iload_n 2) 1 2, ei 31 (.invokevirtual 231) 3 19 112 3 0 3, e1 34 (.ireturn) 1 0], 35)]
set_option maxRecDepth 100000 in
def K_X11_peek : List XB := [(0, [true, true, true, true], [e1 0 (.aload_n 0) 1 0, e3 1 (.getfield 30) 3 21 2 2, e1 4 (.iload_n 1) 1 1, ei 5 (.invokevirtual 154) 3 19 105 2 0 2, e1 8 (.ifCond .ne 7) 3 15, ec 11 (.ldc2_w 238) 3 (-1), e0 14 (.lreturn) 1], 15),
  (15, [true, true, true, true], [e1 15 (.iload_n 2) 1 2, ec 16 (.bipush 9) 2 9, ei 18 (.invokestatic 145) 3 0 123 2 0 2, e1 21 (.ifCond .ne 7) 3 28, ec 24 (.ldc2_w 246) 3 (-2), e0 27 (.lreturn) 1], 28),
  (28, [true, true, true, true], [e1 28 (.iload_n 2) 1 2, e1 29 (.aload_n 0) 1 0, e3 30 (.getfield 30) 3 21 2 2, e3 33 (.getfield 248) 3 19 3 2, e1 36 (.iload_n 1) 1 1, e0 37 (.iaload) 1, e1 38 (.if_icmp .eq 10) 3 48, e1 41 (.aload_n 0) 1 0, ec 42 (.iconst 3) 1 3, ei 43 (.invokevirtual 165) 3 21 121 2 0 2, e0 46 (.i2l) 1, e0 47 (.lreturn) 1], 48),
  (48, [true, true, false, true], [e1 48 (.iload_n 3) 1 3, ec 49 (.bipush 64) 2 64, ei 51 (.invokestatic 145) 3 0 123 2 0 2, e1 54 (.ifCond .ne 10) 3 64, e1 57 (.aload_n 0) 1 0, ec 58 (.iconst 2) 1 2, ei 59 (.invokevirtual 165) 3 21 121 2 0 2, e0 62 (.i2l) 1, e0 63 (.lreturn) 1], 64),
  (64, [true, true, false, true], [e1 64 (.aload_n 0) 1 0, e3 65 (.getfield 30) 3 21 2 2, e1 68 (.iload_n 3) 1 3, e1 69 (.iload_n 1) 1 1, ei 70 (.invokevirtual 251) 3 19 113 3 1 3, e0 73 (.lreturn) 1], 74)]
set_option maxRecDepth 100000 in
def K_X11_place : List XB := [(0, [true, true, true], [e1 0 (.aload_n 0) 1 0, e3 1 (.getfield 21) 3 21 1 2, e1 4 (.iload_n 1) 1 1, e0 5 (.i2l) 1, ei 6 (.invokevirtual 179) 3 18 90 2 0 3, e1 9 (.ifCond .ne 5) 3 14, ec 12 (.iconst (-1)) 1 (-1), e1 13 (.ireturn) 1 0], 14),
  (14, [true, true, true], [e1 14 (.aload_n 0) 1 0, e3 15 (.getfield 46) 3 21 4 2, e1 18 (.iload_n 1) 1 1, e1 19 (.iload_n 2) 1 2, ei 20 (.invokevirtual 254) 3 11 8 3 0 3, e1 23 (.ireturn) 1 0], 24)]
set_option maxRecDepth 100000 in
def K_X11_says : List XB := [(0, [true, true, true], [e1 0 (.aload_n 0) 1 0, e3 1 (.getfield 21) 3 21 1 2, e1 4 (.iload_n 1) 1 1, e0 5 (.i2l) 1, ei 6 (.invokevirtual 179) 3 18 90 2 0 3, e1 9 (.ifCond .ne 5) 3 14, ec 12 (.iconst (-1)) 1 (-1), e1 13 (.ireturn) 1 0], 14),
  (14, [true, true, true], [e1 14 (.iload_n 2) 1 2, e1 15 (.ifCond .lt 8) 3 23, e1 18 (.iload_n 2) 1 2, ec 19 (.iconst 4) 1 4, e1 20 (.if_icmp .le 6) 3 26], 23),
  (23, [false, false, false], [ec 23 (.bipush (-2)) 2 (-2), e1 25 (.ireturn) 1 0], 26),
  (26, [true, true, true], [e1 26 (.aload_n 0) 1 0, e1 27 (.iload_n 1) 1 1, e1 28 (.iload_n 2) 1 2, ei 29 (.invokevirtual 257) 3 21 137 3 0 3, e1 32 (.ireturn) 1 0], 33)]
set_option maxRecDepth 100000 in
def K_X11_saying : List XB := [(0, [true, true, true], [e1 0 (.iload_n 2) 1 2, es 1 (.tableswitch 105 0 3 #[31, 40, 49, 77]) 31 0 106 [32, 41, 50, 78]], 32),
  (32, [true, true, false], [e1 32 (.aload_n 0) 1 0, e3 33 (.getfield 46) 3 21 4 2, e1 36 (.iload_n 1) 1 1, ei 37 (.invokevirtual 260) 3 11 32 2 0 2, e1 40 (.ireturn) 1 0], 41),
  (41, [true, true, false], [e1 41 (.aload_n 0) 1 0, e3 42 (.getfield 21) 3 21 1 2, e1 45 (.iload_n 1) 1 1, ei 46 (.invokevirtual 263) 3 18 101 2 0 3, e1 49 (.ireturn) 1 0], 50),
  (50, [true, true, false], [e1 50 (.aload_n 0) 1 0, e3 51 (.getfield 21) 3 21 1 2, e1 54 (.iload_n 1) 1 1, ei 55 (.invokevirtual 214) 3 18 96 2 0 2, e1 58 (.ifCond .eq 14) 3 72, e1 61 (.aload_n 0) 1 0, e3 62 (.getfield 46) 3 21 4 2, e1 65 (.iload_n 1) 1 1, ei 66 (.invokevirtual 266) 3 11 34 2 0 4, e1 69 (.goto 8) 3 77], 72),
  (72, [true, false, false], [e1 72 (.aload_n 0) 1 0, ec 73 (.iconst 3) 1 3, ei 74 (.invokevirtual 165) 3 21 121 2 0 2], 77),
  (77, [false, false, false], [e1 77 (.ireturn) 1 0], 78),
  (78, [true, true, false], [e1 78 (.aload_n 0) 1 0, e3 79 (.getfield 21) 3 21 1 2, e1 82 (.iload_n 1) 1 1, ei 83 (.invokevirtual 269) 3 18 97 2 0 2, e1 86 (.ifCond .eq 14) 3 100, e1 89 (.aload_n 0) 1 0, e3 90 (.getfield 21) 3 21 1 2, e1 93 (.iload_n 1) 1 1, ei 94 (.invokevirtual 272) 3 18 102 2 0 2, e1 97 (.goto 8) 3 105], 100),
  (100, [true, false, false], [e1 100 (.aload_n 0) 1 0, ec 101 (.iconst 3) 1 3, ei 102 (.invokevirtual 165) 3 21 121 2 0 2], 105),
  (105, [false, false, false], [e1 105 (.ireturn) 1 0], 106),
  (106, [true, true, false], [e1 106 (.aload_n 0) 1 0, e3 107 (.getfield 21) 3 21 1 2, e3 110 (.getfield 275) 3 18 2 2, e1 113 (.iload_n 1) 1 1, e0 114 (.iaload) 1, ec 115 (.iconst 5) 1 5, e1 116 (.if_icmp .ne 11) 3 127, e1 119 (.aload_n 0) 1 0, e1 120 (.iload_n 1) 1 1, ei 121 (.invokevirtual 278) 3 21 138 2 0 3, e1 124 (.goto 8) 3 132], 127),
  (127, [true, false, false], [e1 127 (.aload_n 0) 1 0, ec 128 (.iconst 3) 1 3, ei 129 (.invokevirtual 165) 3 21 121 2 0 2], 132),
  (132, [false, false, false], [e1 132 (.ireturn) 1 0], 133)]
set_option maxRecDepth 100000 in
def K_X11_stride : List XB := [(0, [true, true, false], [e1 0 (.aload_n 0) 1 0, e3 1 (.getfield 46) 3 21 4 2, e1 4 (.iload_n 1) 1 1, ei 5 (.invokevirtual 266) 3 11 34 2 0 4, e1 8 (.istore_n 2) 1 2, e1 9 (.iload_n 2) 1 2, e1 10 (.ifCond .ne 12) 3 22, e1 13 (.aload_n 0) 1 0, ec 14 (.bipush 6) 2 6, ei 16 (.invokevirtual 165) 3 21 121 2 0 2, e1 19 (.goto 8) 3 27], 22),
  (22, [false, false, true], [ec 22 (.sipush 1000) 3 1000, e1 25 (.iload_n 2) 1 2, e0 26 (.idiv) 1], 27),
  (27, [false, false, false], [e1 27 (.ireturn) 1 0], 28)]
set_option maxRecDepth 100000 in
def K_X11_follow : List XB := [(0, [true, true, true, true, false, false], [e1 0 (.aload_n 0) 1 0, e3 1 (.getfield 21) 3 21 1 2, e1 4 (.iload_n 1) 1 1, e0 5 (.i2l) 1, ei 6 (.invokevirtual 179) 3 18 90 2 0 3, e1 9 (.ifCond .eq 14) 3 23, e1 12 (.aload_n 0) 1 0, e3 13 (.getfield 30) 3 21 2 2, e1 16 (.iload_n 2) 1 2, ei 17 (.invokevirtual 154) 3 19 105 2 0 2, e1 20 (.ifCond .ne 5) 3 25], 23),
  (23, [false, false, false, false, false, false], [ec 23 (.iconst (-1)) 1 (-1), e1 24 (.ireturn) 1 0], 25),
  (25, [true, true, true, true, false, false], [e1 25 (.iload_n 3) 1 3, e1 26 (.ifCond .lt 8) 3 34, e1 29 (.iload_n 3) 1 3, ec 30 (.iconst 4) 1 4, e1 31 (.if_icmp .le 6) 3 37], 34),
  (34, [false, false, false, false, false, false], [ec 34 (.bipush (-2)) 2 (-2), e1 36 (.ireturn) 1 0], 37),
  (37, [true, true, true, true, false, false], [e1 37 (.aload_n 0) 1 0, e3 38 (.getfield 30) 3 21 2 2, e1 41 (.iload_n 1) 1 1, e1 42 (.iload_n 2) 1 2, ei 43 (.invokevirtual 224) 3 19 109 3 0 3, e1 46 (.ifCond .ne 6) 3 52, ec 49 (.bipush (-3)) 2 (-3), e1 51 (.ireturn) 1 0], 52),
  (52, [true, true, true, true, false, false], [e1 52 (.aload_n 0) 1 0, e3 53 (.getfield 30) 3 21 2 2, e3 56 (.getfield 248) 3 19 3 2, e1 59 (.iload_n 2) 1 2, e0 60 (.iaload) 1, ec 61 (.bipush 8) 2 8, e1 63 (.if_icmp .eq 9) 3 72, e1 66 (.aload_n 0) 1 0, ec 67 (.iconst 3) 1 3, ei 68 (.invokevirtual 165) 3 21 121 2 0 2, e1 71 (.ireturn) 1 0], 72),
  (72, [true, true, true, true, false, false], [e1 72 (.aload_n 0) 1 0, e3 73 (.getfield 30) 3 21 2 2, e1 76 (.iload_n 1) 1 1, e1 77 (.iload_n 2) 1 2, ei 78 (.invokevirtual 242) 3 19 115 3 1 5, e1 81 (.lstore 4) 2 4, e1 83 (.aload_n 0) 1 0, e3 84 (.getfield 21) 3 21 1 2, e1 87 (.lload 4) 2 4, ei 89 (.invokevirtual 179) 3 18 90 2 0 3, e1 92 (.ifCond .eq 14) 3 106, e1 95 (.aload_n 0) 1 0, e1 96 (.lload 4) 2 4, e0 98 (.l2i) 1, e1 99 (.iload_n 3) 1 3, ei 100 (.invokevirtual 257) 3 21 137 3 0 3, e1 103 (.goto 8) 3 111], 106),
  (106, [true, false, false, false, false, false], [e1 106 (.aload_n 0) 1 0, ec 107 (.iconst 1) 1 1, ei 108 (.invokevirtual 165) 3 21 121 2 0 2], 111),
  (111, [false, false, false, false, false, false], [e1 111 (.ireturn) 1 0], 112)]
set_option maxRecDepth 100000 in
def K_X11_mark : List XB := [(0, [true, true, true], [e1 0 (.aload_n 0) 1 0, e3 1 (.getfield 21) 3 21 1 2, e1 4 (.iload_n 1) 1 1, e0 5 (.i2l) 1, ei 6 (.invokevirtual 179) 3 18 90 2 0 3, e1 9 (.ifCond .ne 5) 3 14, ec 12 (.iconst (-1)) 1 (-1), e1 13 (.ireturn) 1 0], 14),
  (14, [true, true, true], [e1 14 (.iload_n 2) 1 2, e1 15 (.ifCond .eq 11) 3 26, e1 18 (.iload_n 2) 1 2, ec 19 (.iconst 1) 1 1, e1 20 (.if_icmp .eq 6) 3 26, ec 23 (.bipush (-2)) 2 (-2), e1 25 (.ireturn) 1 0], 26),
  (26, [true, true, true], [e1 26 (.iload_n 2) 1 2, ec 27 (.iconst 1) 1 1, e1 28 (.if_icmp .ne 20) 3 48, e1 31 (.aload_n 0) 1 0, e3 32 (.getfield 21) 3 21 1 2, e1 35 (.iload_n 1) 1 1, ei 36 (.invokevirtual 269) 3 18 97 2 0 2, e1 39 (.ifCond .ne 9) 3 48, e1 42 (.aload_n 0) 1 0, ec 43 (.iconst 3) 1 3, ei 44 (.invokevirtual 165) 3 21 121 2 0 2, e1 47 (.ireturn) 1 0], 48),
  (48, [true, true, true], [e1 48 (.iload_n 2) 1 2, e1 49 (.ifCond .ne 15) 3 64, e1 52 (.aload_n 0) 1 0, e3 53 (.getfield 21) 3 21 1 2, e3 56 (.getfield 281) 3 18 4 2, e1 59 (.iload_n 1) 1 1, e0 60 (.iaload) 1, e1 61 (.goto 12) 3 73], 64),
  (64, [true, true, false], [e1 64 (.aload_n 0) 1 0, e3 65 (.getfield 21) 3 21 1 2, e3 68 (.getfield 284) 3 18 5 2, e1 71 (.iload_n 1) 1 1, e0 72 (.iaload) 1], 73),
  (73, [false, false, false], [e1 73 (.ireturn) 1 0], 74)]
set_option maxRecDepth 100000 in
def K_X11_remark : List XB := [(0, [true, true, true, true, false, false], [e1 0 (.aload_n 0) 1 0, e3 1 (.getfield 21) 3 21 1 2, e1 4 (.iload_n 1) 1 1, e0 5 (.i2l) 1, ei 6 (.invokevirtual 179) 3 18 90 2 0 3, e1 9 (.ifCond .ne 5) 3 14, ec 12 (.iconst (-1)) 1 (-1), e1 13 (.ireturn) 1 0], 14),
  (14, [true, true, true, true, false, false], [e1 14 (.iload_n 2) 1 2, e1 15 (.ifCond .eq 8) 3 23, e1 18 (.iload_n 2) 1 2, ec 19 (.iconst 1) 1 1, e1 20 (.if_icmp .ne 14) 3 34], 23),
  (23, [true, true, true, true, false, false], [e1 23 (.iload_n 3) 1 3, e1 24 (.ifCond .lt 10) 3 34, e1 27 (.iload_n 3) 1 3, ec 28 (.sipush 1000) 3 1000, e1 31 (.if_icmp .le 6) 3 37], 34),
  (34, [false, false, false, false, false, false], [ec 34 (.bipush (-2)) 2 (-2), e1 36 (.ireturn) 1 0], 37),
  (37, [true, true, true, true, false, false], [e1 37 (.iload_n 2) 1 2, ec 38 (.iconst 1) 1 1, e1 39 (.if_icmp .ne 20) 3 59, e1 42 (.aload_n 0) 1 0, e3 43 (.getfield 21) 3 21 1 2, e1 46 (.iload_n 1) 1 1, ei 47 (.invokevirtual 269) 3 18 97 2 0 2, e1 50 (.ifCond .ne 9) 3 59, e1 53 (.aload_n 0) 1 0, ec 54 (.iconst 3) 1 3, ei 55 (.invokevirtual 165) 3 21 121 2 0 2, e1 58 (.ireturn) 1 0], 59),
  (59, [true, true, true, true, false, false], [e1 59 (.iload_n 2) 1 2, e1 60 (.ifCond .ne 13) 3 73, e1 63 (.aload_n 0) 1 0, e3 64 (.getfield 21) 3 21 1 2, e3 67 (.getfield 281) 3 18 4 2, e1 70 (.goto 10) 3 80], 73),
  (73, [true, true, false, true, false, false], [e1 73 (.aload_n 0) 1 0, e3 74 (.getfield 21) 3 21 1 2, e3 77 (.getfield 284) 3 18 5 2], 80),
  (80, [false, true, false, true, false, false], [e1 80 (.astore 4) 2 4, e1 82 (.aload 4) 2 4, e1 84 (.iload_n 1) 1 1, e0 85 (.iaload) 1, e1 86 (.istore 5) 2 5, e1 88 (.aload 4) 2 4, e1 90 (.iload_n 1) 1 1, e1 91 (.iload_n 3) 1 3, e0 92 (.iastore) 1, e1 93 (.iload 5) 2 5, e1 95 (.ireturn) 1 0], 96)]
set_option maxRecDepth 100000 in
def K_X11_open : List XB := [(0, [true, true, true, false], [e1 0 (.aload_n 0) 1 0, e3 1 (.getfield 21) 3 21 1 2, e1 4 (.iload_n 1) 1 1, e0 5 (.i2l) 1, ei 6 (.invokevirtual 179) 3 18 90 2 0 3, e1 9 (.ifCond .ne 5) 3 14, ec 12 (.iconst (-1)) 1 (-1), e1 13 (.ireturn) 1 0], 14),
  (14, [true, true, true, false], [e1 14 (.aload_n 0) 1 0, e3 15 (.getfield 21) 3 21 1 2, e1 18 (.iload_n 1) 1 1, ei 19 (.invokevirtual 269) 3 18 97 2 0 2, e1 22 (.ifCond .ne 9) 3 31, e1 25 (.aload_n 0) 1 0, ec 26 (.iconst 3) 1 3, ei 27 (.invokevirtual 165) 3 21 121 2 0 2, e1 30 (.ireturn) 1 0], 31),
  (31, [true, true, true, false], [e1 31 (.aload_n 0) 1 0, e3 32 (.getfield 21) 3 21 1 2, e3 35 (.getfield 287) 3 18 6 2, e1 38 (.iload_n 1) 1 1, e0 39 (.baload) 1, e1 40 (.ifCond .eq 7) 3 47, ec 43 (.iconst 1) 1 1, e1 44 (.goto 4) 3 48], 47),
  (47, [true, true, true, false], [ec 47 (.iconst 0) 1 0], 48),
  (48, [true, true, true, false], [e1 48 (.istore_n 3) 1 3, e1 49 (.aload_n 0) 1 0, e3 50 (.getfield 21) 3 21 1 2, e3 53 (.getfield 287) 3 18 6 2, e1 56 (.iload_n 1) 1 1, e1 57 (.iload_n 2) 1 2, e0 58 (.bastore) 1, e1 59 (.iload_n 3) 1 3, e1 60 (.ireturn) 1 0], 61)]
set_option maxRecDepth 100000 in
def K_X11_among : List XB := [(0, [true, true, true, false, false, false], [e1 0 (.aload_n 0) 1 0, e3 1 (.getfield 21) 3 21 1 2, e1 4 (.iload_n 1) 1 1, e0 5 (.i2l) 1, ei 6 (.invokevirtual 179) 3 18 90 2 0 3, e1 9 (.ifCond .eq 21) 3 30, e1 12 (.lload_n 2) 1 2, e1 13 (.aload_n 0) 1 0, e3 14 (.getfield 21) 3 21 1 2, ei 17 (.invokevirtual 291) 3 18 91 1 1 1, ec 20 (.ldc2_w 238) 3 (-1), e0 23 (.lxor) 1, e0 24 (.land) 1, ec 25 (.lconst 0) 1 0, e0 26 (.lcmp) 1, e1 27 (.ifCond .eq 5) 3 32], 30),
  (30, [false, false, false, false, false, false], [ec 30 (.iconst (-1)) 1 (-1), e1 31 (.ireturn) 1 0], 32),
  (32, [true, true, true, false, false, false], [e1 32 (.lload_n 2) 1 2, ec 33 (.lconst 0) 1 0, e0 34 (.lcmp) 1, e1 35 (.ifCond .ne 6) 3 41, ec 38 (.bipush (-2)) 2 (-2), e1 40 (.ireturn) 1 0], 41),
  (41, [true, true, true, false, false, false], [e1 41 (.aload_n 0) 1 0, e3 42 (.getfield 21) 3 21 1 2, e1 45 (.iload_n 1) 1 1, ei 46 (.invokevirtual 295) 3 18 99 2 0 2, e1 49 (.ifCond .eq 32) 3 81, e1 52 (.lload_n 2) 1 2, e1 53 (.iload_n 1) 1 1, ei 54 (.invokestatic 298) 3 0 186 1 1 1, e0 57 (.land) 1, ec 58 (.lconst 0) 1 0, e0 59 (.lcmp) 1, e1 60 (.ifCond .ne 21) 3 81, e1 63 (.lload_n 2) 1 2, e1 64 (.aload_n 0) 1 0, e3 65 (.getfield 21) 3 21 1 2, ei 68 (.invokevirtual 302) 3 18 92 1 1 4, ec 71 (.ldc2_w 238) 3 (-1), e0 74 (.lxor) 1, e0 75 (.land) 1, ec 76 (.lconst 0) 1 0, e0 77 (.lcmp) 1, e1 78 (.ifCond .eq 6) 3 84], 81),
  (81, [false, false, false, false, false, false], [ec 81 (.bipush (-3)) 2 (-3), e1 83 (.ireturn) 1 0], 84),
  (84, [true, true, true, false, false, false], [e1 84 (.aload_n 0) 1 0, e3 85 (.getfield 37) 3 21 3 2, ei 88 (.invokevirtual 191) 3 14 63 1 0 1, e1 91 (.ifCond .eq 6) 3 97, ec 94 (.bipush (-4)) 2 (-4), e1 96 (.ireturn) 1 0], 97),
  (97, [true, true, true, false, false, false], [e1 97 (.aload_n 0) 1 0, e3 98 (.getfield 46) 3 21 4 2, e1 101 (.iload_n 1) 1 1, e1 102 (.lload_n 2) 1 2, ei 103 (.invokevirtual 305) 3 11 21 3 0 4, e1 106 (.istore 4) 2 4, e1 108 (.iload 4) 2 4, e1 110 (.ifCond .lt 9) 3 119, e1 113 (.iload 4) 2 4, ei 115 (.invokestatic 201) 3 0 122 1 0 1, e1 118 (.ireturn) 1 0], 119),
  (119, [true, true, true, false, false, false], [e1 119 (.aload_n 0) 1 0, e3 120 (.getfield 37) 3 21 3 2, ec 123 (.iconst 3) 1 3, e1 124 (.iload_n 1) 1 1, e1 125 (.lload_n 2) 1 2, e0 126 (.l2i) 1, ec 127 (.bipush (-9)) 2 (-9), ei 129 (.invokevirtual 204) 3 14 64 5 0 5, e1 132 (.istore 5) 2 5, e1 134 (.aload_n 0) 1 0, e3 135 (.getfield 46) 3 21 4 2, e1 138 (.iload_n 1) 1 1, e1 139 (.lload_n 2) 1 2, e1 140 (.iload 5) 2 5, ei 142 (.invokevirtual 309) 3 11 23 4 3 7, e1 145 (.iload 5) 2 5, e1 147 (.ireturn) 1 0], 148)]
set_option maxRecDepth 100000 in
def K_X11_pair : List XB := [(0, [true, true, true, true, false, false], [e1 0 (.aload_n 0) 1 0, e3 1 (.getfield 21) 3 21 1 2, e1 4 (.iload_n 1) 1 1, e0 5 (.i2l) 1, ei 6 (.invokevirtual 179) 3 18 90 2 0 3, e1 9 (.ifCond .eq 15) 3 24, e1 12 (.aload_n 0) 1 0, e3 13 (.getfield 21) 3 21 1 2, e1 16 (.iload_n 2) 1 2, e0 17 (.i2l) 1, ei 18 (.invokevirtual 179) 3 18 90 2 0 3, e1 21 (.ifCond .ne 5) 3 26], 24),
  (24, [false, false, false, false, false, false], [ec 24 (.iconst (-1)) 1 (-1), e1 25 (.ireturn) 1 0], 26),
  (26, [true, true, true, true, false, false], [e1 26 (.iload_n 1) 1 1, e1 27 (.iload_n 2) 1 2, e1 28 (.if_icmp .eq 25) 3 53, e1 31 (.aload_n 0) 1 0, e3 32 (.getfield 21) 3 21 1 2, e1 35 (.iload_n 1) 1 1, ei 36 (.invokevirtual 295) 3 18 99 2 0 2, e1 39 (.ifCond .eq 14) 3 53, e1 42 (.aload_n 0) 1 0, e3 43 (.getfield 21) 3 21 1 2, e1 46 (.iload_n 2) 1 2, ei 47 (.invokevirtual 295) 3 18 99 2 0 2, e1 50 (.ifCond .ne 6) 3 56], 53),
  (53, [false, false, false, false, false, false], [ec 53 (.bipush (-3)) 2 (-3), e1 55 (.ireturn) 1 0], 56),
  (56, [true, true, true, true, false, false], [e1 56 (.aload_n 0) 1 0, e3 57 (.getfield 37) 3 21 3 2, ei 60 (.invokevirtual 191) 3 14 63 1 0 1, e1 63 (.ifCond .ne 15) 3 78, e1 66 (.aload_n 0) 1 0, e3 67 (.getfield 46) 3 21 4 2, e3 70 (.getfield 113) 3 11 15 0, ec 73 (.bipush 16) 2 16, e1 75 (.if_icmp .lt 6) 3 81], 78),
  (78, [false, false, false, false, false, false], [ec 78 (.bipush (-4)) 2 (-4), e1 80 (.ireturn) 1 0], 81),
  (81, [true, true, true, true, false, false], [e1 81 (.aload_n 0) 1 0, e3 82 (.getfield 46) 3 21 4 2, e1 85 (.iload_n 1) 1 1, e1 86 (.iload_n 2) 1 2, e1 87 (.iload_n 3) 1 3, ei 88 (.invokevirtual 313) 3 11 27 4 0 5, e1 91 (.istore 4) 2 4, e1 93 (.iload 4) 2 4, e1 95 (.ifCond .lt 9) 3 104, e1 98 (.iload 4) 2 4, ei 100 (.invokestatic 201) 3 0 122 1 0 1, e1 103 (.ireturn) 1 0], 104),
  (104, [true, true, true, true, false, false], [e1 104 (.aload_n 0) 1 0, e3 105 (.getfield 37) 3 21 3 2, ec 108 (.iconst 4) 1 4, e1 109 (.iload_n 1) 1 1, e1 110 (.iload_n 2) 1 2, ec 111 (.bipush (-9)) 2 (-9), ei 113 (.invokevirtual 204) 3 14 64 5 0 5, e1 116 (.istore 5) 2 5, e1 118 (.aload_n 0) 1 0, e3 119 (.getfield 46) 3 21 4 2, e1 122 (.iload_n 1) 1 1, e1 123 (.iload_n 2) 1 2, e1 124 (.iload_n 3) 1 3, e1 125 (.iload 5) 2 5, ei 127 (.invokevirtual 317) 3 11 28 5 3 5, e1 130 (.iload 5) 2 5, e1 132 (.ireturn) 1 0], 133)]
set_option maxRecDepth 100000 in
def K_X11_most : List XB := [(0, [true, true, true, false, false], [e1 0 (.aload_n 0) 1 0, e3 1 (.getfield 21) 3 21 1 2, e1 4 (.iload_n 1) 1 1, e0 5 (.i2l) 1, ei 6 (.invokevirtual 179) 3 18 90 2 0 3, e1 9 (.ifCond .ne 5) 3 14, ec 12 (.iconst (-1)) 1 (-1), e1 13 (.ireturn) 1 0], 14),
  (14, [true, true, true, false, false], [e1 14 (.iload_n 2) 1 2, e1 15 (.ifCond .lt 9) 3 24, e1 18 (.iload_n 2) 1 2, ec 19 (.bipush 64) 2 64, e1 21 (.if_icmp .le 6) 3 27], 24),
  (24, [false, false, false, false, false], [ec 24 (.bipush (-2)) 2 (-2), e1 26 (.ireturn) 1 0], 27),
  (27, [true, true, true, false, false], [e1 27 (.aload_n 0) 1 0, e3 28 (.getfield 21) 3 21 1 2, e1 31 (.iload_n 1) 1 1, ei 32 (.invokevirtual 214) 3 18 96 2 0 2, e1 35 (.ifCond .eq 14) 3 49, e1 38 (.aload_n 0) 1 0, e3 39 (.getfield 46) 3 21 4 2, e1 42 (.iload_n 1) 1 1, ei 43 (.invokevirtual 321) 3 11 29 2 0 2, e1 46 (.ifCond .eq 6) 3 52], 49),
  (49, [false, false, false, false, false], [ec 49 (.bipush (-3)) 2 (-3), e1 51 (.ireturn) 1 0], 52),
  (52, [true, true, true, false, false], [e1 52 (.aload_n 0) 1 0, e3 53 (.getfield 37) 3 21 3 2, ei 56 (.invokevirtual 191) 3 14 63 1 0 1, e1 59 (.ifCond .eq 6) 3 65, ec 62 (.bipush (-4)) 2 (-4), e1 64 (.ireturn) 1 0], 65),
  (65, [true, true, true, false, false], [e1 65 (.aload_n 0) 1 0, e3 66 (.getfield 46) 3 21 4 2, e1 69 (.iload_n 1) 1 1, e1 70 (.iload_n 2) 1 2, ei 71 (.invokevirtual 324) 3 11 31 3 0 5, e1 74 (.istore_n 3) 1 3, e1 75 (.iload_n 3) 1 3, e1 76 (.ifCond .lt 8) 3 84, e1 79 (.iload_n 3) 1 3, ei 80 (.invokestatic 201) 3 0 122 1 0 1, e1 83 (.ireturn) 1 0], 84),
  (84, [true, true, true, false, false], [e1 84 (.aload_n 0) 1 0, e3 85 (.getfield 37) 3 21 3 2, ec 88 (.iconst 5) 1 5, e1 89 (.iload_n 1) 1 1, e1 90 (.iload_n 2) 1 2, ec 91 (.bipush (-9)) 2 (-9), ei 93 (.invokevirtual 204) 3 14 64 5 0 5, e1 96 (.istore 4) 2 4, e1 98 (.aload_n 0) 1 0, e3 99 (.getfield 46) 3 21 4 2, e1 102 (.iload_n 1) 1 1, e1 103 (.iload_n 2) 1 2, e1 104 (.iload 4) 2 4, ei 106 (.invokevirtual 327) 3 11 30 4 3 4, e1 109 (.iload 4) 2 4, e1 111 (.ireturn) 1 0], 112)]
set_option maxRecDepth 100000 in
def K_X11_settle : List XB := [(0, [true, false, false, false], [e1 0 (.aload_n 0) 1 0, e3 1 (.getfield 46) 3 21 4 2, ei 4 (.invokevirtual 330) 3 11 26 1 0 3, e1 7 (.istore_n 1) 1 1, e1 8 (.iload_n 1) 1 1, ec 9 (.bipush 7) 2 7, e1 11 (.if_icmp .gt 16) 3 27, e1 14 (.aload_n 0) 1 0, e3 15 (.getfield 55) 3 21 5 2, ei 18 (.invokevirtual 334) 3 15 67 1 0 3, ec 21 (.sipush 3000) 3 3000, e1 24 (.if_icmp .le 6) 3 30], 27),
  (27, [false, false, false, false], [ec 27 (.bipush (-3)) 2 (-3), e1 29 (.ireturn) 1 0], 30),
  (30, [true, true, false, false], [e1 30 (.aload_n 0) 1 0, e3 31 (.getfield 37) 3 21 3 2, e3 34 (.getfield 112) 3 14 4 0, e1 37 (.iload_n 1) 1 1, e0 38 (.iadd) 1, ec 39 (.sipush 300) 3 300, e1 42 (.if_icmp .le 6) 3 48, ec 45 (.bipush (-4)) 2 (-4), e1 47 (.ireturn) 1 0], 48),
  (48, [true, true, false, false], [e1 48 (.aload_n 0) 1 0, e3 49 (.getfield 55) 3 21 5 2, e1 52 (.aload_n 0) 1 0, e3 53 (.getfield 37) 3 21 3 2, e3 56 (.getfield 112) 3 14 4 0, ei 59 (.invokevirtual 337) 3 15 69 2 0 3, e1 62 (.ifCond .ne 6) 3 68, ec 65 (.bipush (-5)) 2 (-5), e1 67 (.ireturn) 1 0], 68),
  (68, [true, true, false, false], [ec 68 (.iconst 0) 1 0, e1 69 (.istore_n 2) 1 2], 70),
  (70, [true, true, true, false], [e1 70 (.iload_n 2) 1 2, e1 71 (.iload_n 1) 1 1, e1 72 (.if_icmp .ge 39) 3 111, e1 75 (.aload_n 0) 1 0, e3 76 (.getfield 55) 3 21 5 2, e1 79 (.iload_n 2) 1 2, ei 80 (.invokevirtual 340) 3 15 68 2 0 2, e1 83 (.istore_n 3) 1 3, e1 84 (.aload_n 0) 1 0, e3 85 (.getfield 37) 3 21 3 2, ec 88 (.iconst 0) 1 0, e1 89 (.iload_n 3) 1 3, e1 90 (.aload_n 0) 1 0, e3 91 (.getfield 46) 3 21 4 2, e1 94 (.iload_n 3) 1 3, ec 95 (.iconst 0) 1 0, ei 96 (.invokevirtual 254) 3 11 8 3 0 3, ec 99 (.bipush (-9)) 2 (-9), ei 101 (.invokevirtual 204) 3 14 64 5 0 5, e0 104 (.pop) 1, ek 105 (.iinc 2 1) 3 1 2, e1 108 (.goto (-38)) 3 70], 111),
  (111, [false, true, false, false], [e1 111 (.iload_n 1) 1 1, e1 112 (.ireturn) 1 0], 113)]
set_option maxRecDepth 100000 in
def K_X11_set : List XB := [(0, [true, true], [e1 0 (.aload_n 0) 1 0, e3 1 (.getfield 21) 3 21 1 2, e1 4 (.iload_n 1) 1 1, e0 5 (.i2l) 1, ei 6 (.invokevirtual 179) 3 18 90 2 0 3, e1 9 (.ifCond .eq 14) 3 23, e1 12 (.aload_n 0) 1 0, e3 13 (.getfield 46) 3 21 4 2, e1 16 (.iload_n 1) 1 1, ei 17 (.invokevirtual 343) 3 11 24 2 1 2, e1 20 (.goto 4) 3 24], 23),
  (23, [false, false], [ec 23 (.lconst 0) 1 0], 24),
  (24, [false, false], [e0 24 (.lreturn) 1], 25)]
set_option maxRecDepth 100000 in
def K_X11_relation : List XB := [(0, [true, true], [e1 0 (.iload_n 1) 1 1, e1 1 (.ifCond .lt 8) 3 9, e1 4 (.iload_n 1) 1 1, ec 5 (.iconst 5) 1 5, e1 6 (.if_icmp .le 6) 3 12], 9),
  (9, [false, false], [ec 9 (.bipush (-2)) 2 (-2), e1 11 (.ireturn) 1 0], 12),
  (12, [true, true], [e1 12 (.aload_n 0) 1 0, e3 13 (.getfield 67) 3 21 6 2, e3 16 (.getfield 116) 3 12 6 0, ec 19 (.bipush 8) 2 8, e1 21 (.if_icmp .lt 6) 3 27, ec 24 (.bipush (-4)) 2 (-4), e1 26 (.ireturn) 1 0], 27),
  (27, [true, true], [e1 27 (.aload_n 0) 1 0, e3 28 (.getfield 67) 3 21 6 2, e1 31 (.iload_n 1) 1 1, ei 32 (.invokevirtual 346) 3 12 36 2 0 3, e1 35 (.ireturn) 1 0], 36)]
set_option maxRecDepth 100000 in
def K_X11_relate : List XB := [(0, [true, true, true, true, false], [e1 0 (.aload_n 0) 1 0, e1 1 (.iload_n 1) 1 1, e1 2 (.iload_n 2) 1 2, e1 3 (.iload_n 3) 1 3, ei 4 (.invokevirtual 347) 3 21 154 4 0 4, e1 7 (.ifCond .ne 5) 3 12, ec 10 (.iconst (-1)) 1 (-1), e1 11 (.ireturn) 1 0], 12),
  (12, [true, true, true, true, false], [e1 12 (.iload_n 2) 1 2, e1 13 (.iload_n 3) 1 3, e1 14 (.if_icmp .eq 16) 3 30, e1 17 (.aload_n 0) 1 0, e3 18 (.getfield 67) 3 21 6 2, e1 21 (.iload_n 1) 1 1, e1 22 (.iload_n 2) 1 2, e1 23 (.iload_n 3) 1 3, ei 24 (.invokevirtual 351) 3 12 39 4 0 4, e1 27 (.ifCond .eq 6) 3 33], 30),
  (30, [false, false, false, false, false], [ec 30 (.bipush (-3)) 2 (-3), e1 32 (.ireturn) 1 0], 33),
  (33, [true, true, true, true, false], [e1 33 (.aload_n 0) 1 0, e3 34 (.getfield 37) 3 21 3 2, ei 37 (.invokevirtual 191) 3 14 63 1 0 1, e1 40 (.ifCond .eq 6) 3 46, ec 43 (.bipush (-4)) 2 (-4), e1 45 (.ireturn) 1 0], 46),
  (46, [true, true, true, true, false], [e1 46 (.aload_n 0) 1 0, e3 47 (.getfield 67) 3 21 6 2, e1 50 (.iload_n 1) 1 1, e1 51 (.iload_n 2) 1 2, e1 52 (.iload_n 3) 1 3, ei 53 (.invokevirtual 354) 3 12 42 4 0 7, e1 56 (.istore 4) 2 4, e1 58 (.iload 4) 2 4, e1 60 (.ifCond .lt 9) 3 69, e1 63 (.iload 4) 2 4, ei 65 (.invokestatic 201) 3 0 122 1 0 1, e1 68 (.ireturn) 1 0], 69),
  (69, [true, true, true, true, false], [e1 69 (.aload_n 0) 1 0, e3 70 (.getfield 67) 3 21 6 2, e1 73 (.iload_n 1) 1 1, e1 74 (.iload_n 2) 1 2, e1 75 (.iload_n 3) 1 3, ei 76 (.invokevirtual 357) 3 12 40 4 3 5, e1 79 (.aload_n 0) 1 0, e3 80 (.getfield 37) 3 21 3 2, ec 83 (.bipush 6) 2 6, e1 85 (.iload_n 1) 1 1, e1 86 (.iload_n 2) 1 2, e1 87 (.iload_n 3) 1 3, ei 88 (.invokevirtual 204) 3 14 64 5 0 5, e1 91 (.ireturn) 1 0], 92)]
set_option maxRecDepth 100000 in
def K_X11_deny : List XB := [(0, [true, true, true, true], [e1 0 (.aload_n 0) 1 0, e1 1 (.iload_n 1) 1 1, e1 2 (.iload_n 2) 1 2, e1 3 (.iload_n 3) 1 3, ei 4 (.invokevirtual 347) 3 21 154 4 0 4, e1 7 (.ifCond .ne 5) 3 12, ec 10 (.iconst (-1)) 1 (-1), e1 11 (.ireturn) 1 0], 12),
  (12, [true, true, true, true], [e1 12 (.iload_n 2) 1 2, e1 13 (.iload_n 3) 1 3, e1 14 (.if_icmp .eq 18) 3 32, e1 17 (.aload_n 0) 1 0, e3 18 (.getfield 37) 3 21 3 2, ec 21 (.bipush 7) 2 7, e1 23 (.iload_n 1) 1 1, e1 24 (.iload_n 2) 1 2, e1 25 (.iload_n 3) 1 3, ei 26 (.invokevirtual 360) 3 14 65 5 0 6, e1 29 (.ifCond .lt 6) 3 35], 32),
  (32, [false, false, false, false], [ec 32 (.bipush (-3)) 2 (-3), e1 34 (.ireturn) 1 0], 35),
  (35, [true, true, true, true], [e1 35 (.aload_n 0) 1 0, e3 36 (.getfield 37) 3 21 3 2, ei 39 (.invokevirtual 191) 3 14 63 1 0 1, e1 42 (.ifCond .eq 6) 3 48, ec 45 (.bipush (-4)) 2 (-4), e1 47 (.ireturn) 1 0], 48),
  (48, [true, true, true, true], [e1 48 (.aload_n 0) 1 0, e3 49 (.getfield 67) 3 21 6 2, e1 52 (.iload_n 1) 1 1, e1 53 (.iload_n 2) 1 2, e1 54 (.iload_n 3) 1 3, ei 55 (.invokevirtual 351) 3 12 39 4 0 4, e1 58 (.ifCond .eq 17) 3 75, e1 61 (.aload_n 0) 1 0, e3 62 (.getfield 67) 3 21 6 2, e1 65 (.iload_n 1) 1 1, e1 66 (.iload_n 2) 1 2, e1 67 (.iload_n 3) 1 3, ei 68 (.invokevirtual 363) 3 12 45 4 0 5, ei 71 (.invokestatic 201) 3 0 122 1 0 1, e1 74 (.ireturn) 1 0], 75),
  (75, [true, true, true, true], [e1 75 (.aload_n 0) 1 0, e3 76 (.getfield 37) 3 21 3 2, ec 79 (.bipush 7) 2 7, e1 81 (.iload_n 1) 1 1, e1 82 (.iload_n 2) 1 2, e1 83 (.iload_n 3) 1 3, ei 84 (.invokevirtual 204) 3 14 64 5 0 5, e1 87 (.ireturn) 1 0], 88)]
set_option maxRecDepth 100000 in
def K_X11_related : List XB := [(0, [true, true, true, true], [e1 0 (.aload_n 0) 1 0, e1 1 (.iload_n 1) 1 1, e1 2 (.iload_n 2) 1 2, e1 3 (.iload_n 3) 1 3, ei 4 (.invokevirtual 347) 3 21 154 4 0 4, e1 7 (.ifCond .ne 5) 3 12, ec 10 (.iconst (-1)) 1 (-1), e1 11 (.ireturn) 1 0], 12),
  (12, [true, true, true, true], [e1 12 (.aload_n 0) 1 0, e3 13 (.getfield 67) 3 21 6 2, e1 16 (.iload_n 1) 1 1, e1 17 (.iload_n 2) 1 2, e1 18 (.iload_n 3) 1 3, ei 19 (.invokevirtual 351) 3 12 39 4 0 4, e1 22 (.ifCond .eq 7) 3 29, ec 25 (.iconst 1) 1 1, e1 26 (.goto 4) 3 30], 29),
  (29, [false, false, false, false], [ec 29 (.iconst 0) 1 0], 30),
  (30, [false, false, false, false], [e1 30 (.ireturn) 1 0], 31)]
set_option maxRecDepth 100000 in
def K_X11_along : List XB := [(0, [true, true, true, true], [e1 0 (.aload_n 0) 1 0, e1 1 (.iload_n 1) 1 1, e1 2 (.iload_n 2) 1 2, e1 3 (.iload_n 3) 1 3, ei 4 (.invokevirtual 347) 3 21 154 4 0 4, e1 7 (.ifCond .ne 5) 3 12, ec 10 (.iconst (-1)) 1 (-1), e1 11 (.ireturn) 1 0], 12),
  (12, [true, true, true, true], [e1 12 (.aload_n 0) 1 0, e3 13 (.getfield 67) 3 21 6 2, e1 16 (.iload_n 1) 1 1, e1 17 (.iload_n 2) 1 2, ei 18 (.invokevirtual 366) 3 12 47 3 2 8, e3 21 (.getfield 370) 3 20 0 2, e1 24 (.iload_n 3) 1 3, e0 25 (.iaload) 1, e1 26 (.ireturn) 1 0], 27)]
set_option maxRecDepth 100000 in
def K_X11_next : List XB := [(0, [true, true, true, true], [e1 0 (.aload_n 0) 1 0, e1 1 (.iload_n 1) 1 1, e1 2 (.iload_n 2) 1 2, e1 3 (.iload_n 3) 1 3, ei 4 (.invokevirtual 347) 3 21 154 4 0 4, e1 7 (.ifCond .ne 5) 3 12, ec 10 (.iconst (-1)) 1 (-1), e1 11 (.ireturn) 1 0], 12),
  (12, [true, true, true, true], [e1 12 (.aload_n 0) 1 0, e3 13 (.getfield 67) 3 21 6 2, e1 16 (.iload_n 1) 1 1, e1 17 (.iload_n 2) 1 2, ei 18 (.invokevirtual 366) 3 12 47 3 2 8, e3 21 (.getfield 373) 3 20 1 2, e1 24 (.iload_n 3) 1 3, e0 25 (.iaload) 1, e1 26 (.ireturn) 1 0], 27)]
set_option maxRecDepth 100000 in
def K_X11_areRelatable : List XB := [(0, [true, true, true, true], [e1 0 (.aload_n 0) 1 0, e3 1 (.getfield 67) 3 21 6 2, e1 4 (.iload_n 1) 1 1, ei 5 (.invokevirtual 376) 3 12 37 2 0 2, e1 8 (.ifCond .eq 31) 3 39, e1 11 (.aload_n 0) 1 0, e3 12 (.getfield 21) 3 21 1 2, e1 15 (.iload_n 2) 1 2, e0 16 (.i2l) 1, ei 17 (.invokevirtual 179) 3 18 90 2 0 3, e1 20 (.ifCond .eq 19) 3 39, e1 23 (.aload_n 0) 1 0, e3 24 (.getfield 21) 3 21 1 2, e1 27 (.iload_n 3) 1 3, e0 28 (.i2l) 1, ei 29 (.invokevirtual 179) 3 18 90 2 0 3, e1 32 (.ifCond .eq 7) 3 39, ec 35 (.iconst 1) 1 1, e1 36 (.goto 4) 3 40], 39),
  (39, [false, false, false, false], [ec 39 (.iconst 0) 1 0], 40),
  (40, [false, false, false, false], [e1 40 (.ireturn) 1 1], 41)]
set_option maxRecDepth 100000 in
def K_X11_exit : List XB := [(0, [true, true, true, true, false], [e1 0 (.aload_n 0) 1 0, e3 1 (.getfield 21) 3 21 1 2, e1 4 (.iload_n 1) 1 1, ei 5 (.invokevirtual 377) 3 18 93 2 0 2, e1 8 (.ifCond .eq 20) 3 28, e1 11 (.iload_n 3) 1 3, ec 12 (.bipush (-9)) 2 (-9), e1 14 (.if_icmp .eq 16) 3 30, e1 17 (.aload_n 0) 1 0, e3 18 (.getfield 21) 3 21 1 2, e1 21 (.iload_n 3) 1 3, ei 22 (.invokevirtual 377) 3 18 93 2 0 2, e1 25 (.ifCond .ne 5) 3 30], 28),
  (28, [false, false, false, false, false], [ec 28 (.iconst (-1)) 1 (-1), e1 29 (.ireturn) 1 0], 30),
  (30, [true, true, true, true, false], [e1 30 (.iload_n 2) 1 2, ec 31 (.bipush 8) 2 8, ei 33 (.invokestatic 145) 3 0 123 2 0 2, e1 36 (.ifCond .ne 6) 3 42, ec 39 (.bipush (-2)) 2 (-2), e1 41 (.ireturn) 1 0], 42),
  (42, [true, true, true, true, false], [e1 42 (.aload_n 0) 1 0, e3 43 (.getfield 76) 3 21 7 2, e1 46 (.iload_n 1) 1 1, e1 47 (.iload_n 2) 1 2, ei 48 (.invokevirtual 380) 3 13 54 3 0 3, e1 51 (.ifCond .eq 32) 3 83, e1 54 (.aload_n 0) 1 0, e3 55 (.getfield 76) 3 21 7 2, e1 58 (.iload_n 1) 1 1, e1 59 (.iload_n 2) 1 2, ei 60 (.invokevirtual 383) 3 13 52 3 0 3, ec 63 (.iconst 3) 1 3, e1 64 (.if_icmp .eq 19) 3 83, e1 67 (.aload_n 0) 1 0, e3 68 (.getfield 76) 3 21 7 2, e1 71 (.iload_n 1) 1 1, e1 72 (.iload_n 2) 1 2, ei 73 (.invokevirtual 386) 3 13 53 3 0 3, e1 76 (.iload_n 3) 1 3, e1 77 (.if_icmp .ne 6) 3 83, ec 80 (.bipush (-3)) 2 (-3), e1 82 (.ireturn) 1 0], 83),
  (83, [true, true, true, true, false], [e1 83 (.aload_n 0) 1 0, e3 84 (.getfield 37) 3 21 3 2, ei 87 (.invokevirtual 191) 3 14 63 1 0 1, e1 90 (.ifCond .eq 6) 3 96, ec 93 (.bipush (-4)) 2 (-4), e1 95 (.ireturn) 1 0], 96),
  (96, [true, true, true, true, false], [e1 96 (.aload_n 0) 1 0, e3 97 (.getfield 76) 3 21 7 2, e1 100 (.iload_n 1) 1 1, e1 101 (.iload_n 2) 1 2, ei 102 (.invokevirtual 380) 3 13 54 3 0 3, e1 105 (.ifCond .eq 16) 3 121, e1 108 (.aload_n 0) 1 0, e3 109 (.getfield 76) 3 21 7 2, e1 112 (.iload_n 1) 1 1, e1 113 (.iload_n 2) 1 2, ei 114 (.invokevirtual 389) 3 13 55 3 0 3, ei 117 (.invokestatic 201) 3 0 122 1 0 1, e1 120 (.ireturn) 1 0], 121),
  (121, [true, true, true, true, false], [e1 121 (.aload_n 0) 1 0, e3 122 (.getfield 37) 3 21 3 2, ec 125 (.bipush 8) 2 8, e1 127 (.iload_n 1) 1 1, e1 128 (.iload_n 2) 1 2, e1 129 (.iload_n 3) 1 3, ei 130 (.invokevirtual 204) 3 14 64 5 0 5, e1 133 (.istore 4) 2 4, e1 135 (.aload_n 0) 1 0, e3 136 (.getfield 76) 3 21 7 2, e1 139 (.iload_n 1) 1 1, e1 140 (.iload_n 2) 1 2, e1 141 (.iload_n 3) 1 3, e1 142 (.iload 4) 2 4, ei 144 (.invokevirtual 392) 3 13 57 5 3 5, e1 147 (.iload 4) 2 4, e1 149 (.ireturn) 1 0], 150)]
set_option maxRecDepth 100000 in
def K_X11_door : List XB := [(0, [true, true, true, true, true, false, false], [e1 0 (.aload_n 0) 1 0, e3 1 (.getfield 21) 3 21 1 2, e1 4 (.iload_n 1) 1 1, e0 5 (.i2l) 1, ei 6 (.invokevirtual 179) 3 18 90 2 0 3, e1 9 (.ifCond .eq 26) 3 35, e1 12 (.aload_n 0) 1 0, e3 13 (.getfield 21) 3 21 1 2, e1 16 (.iload_n 2) 1 2, ei 17 (.invokevirtual 377) 3 18 93 2 0 2, e1 20 (.ifCond .eq 15) 3 35, e1 23 (.aload_n 0) 1 0, e3 24 (.getfield 21) 3 21 1 2, e1 27 (.iload 4) 2 4, ei 29 (.invokevirtual 377) 3 18 93 2 0 2, e1 32 (.ifCond .ne 5) 3 37], 35),
  (35, [false, false, false, false, false, false, false], [ec 35 (.iconst (-1)) 1 (-1), e1 36 (.ireturn) 1 0], 37),
  (37, [true, true, true, true, true, false, false], [e1 37 (.iload_n 3) 1 3, ec 38 (.bipush 8) 2 8, ei 40 (.invokestatic 145) 3 0 123 2 0 2, e1 43 (.ifCond .ne 6) 3 49, ec 46 (.bipush (-2)) 2 (-2), e1 48 (.ireturn) 1 0], 49),
  (49, [true, true, true, true, true, false, false], [e1 49 (.aload_n 0) 1 0, e3 50 (.getfield 21) 3 21 1 2, e3 53 (.getfield 275) 3 18 2 2, e1 56 (.iload_n 1) 1 1, e0 57 (.iaload) 1, ec 58 (.iconst 2) 1 2, e1 59 (.if_icmp .ne 9) 3 68, e1 62 (.iload_n 2) 1 2, e1 63 (.iload 4) 2 4, e1 65 (.if_icmp .ne 6) 3 71], 68),
  (68, [false, false, false, false, false, false, false], [ec 68 (.bipush (-3)) 2 (-3), e1 70 (.ireturn) 1 0], 71),
  (71, [true, true, true, true, true, false, false], [e1 71 (.aload_n 0) 1 0, e3 72 (.getfield 37) 3 21 3 2, ei 75 (.invokevirtual 191) 3 14 63 1 0 1, e1 78 (.ifCond .eq 6) 3 84, ec 81 (.bipush (-4)) 2 (-4), e1 83 (.ireturn) 1 0], 84),
  (84, [true, true, true, true, true, false, false], [e1 84 (.aload_n 0) 1 0, e3 85 (.getfield 76) 3 21 7 2, e1 88 (.iload_n 1) 1 1, e1 89 (.iload_n 2) 1 2, e1 90 (.iload_n 3) 1 3, e1 91 (.iload 4) 2 4, ei 93 (.invokevirtual 396) 3 13 58 5 0 6, e1 96 (.istore 5) 2 5, e1 98 (.iload 5) 2 5, e1 100 (.ifCond .lt 9) 3 109, e1 103 (.iload 5) 2 5, ei 105 (.invokestatic 201) 3 0 122 1 0 1, e1 108 (.ireturn) 1 0], 109),
  (109, [true, true, true, true, true, false, false], [e1 109 (.aload_n 0) 1 0, e3 110 (.getfield 37) 3 21 3 2, ec 113 (.bipush 9) 2 9, e1 115 (.iload_n 1) 1 1, e1 116 (.iload_n 2) 1 2, e1 117 (.iload_n 3) 1 3, ei 118 (.invokevirtual 204) 3 14 64 5 0 5, e1 121 (.istore 6) 2 6, e1 123 (.aload_n 0) 1 0, e3 124 (.getfield 76) 3 21 7 2, e1 127 (.iload_n 1) 1 1, e1 128 (.iload_n 2) 1 2, e1 129 (.iload_n 3) 1 3, e1 130 (.iload 4) 2 4, e1 132 (.iload 6) 2 6, ei 134 (.invokevirtual 399) 3 13 59 6 3 6, e1 137 (.iload 6) 2 6, e1 139 (.ireturn) 1 0], 140)]
set_option maxRecDepth 100000 in
def K_X11_leads : List XB := [(0, [true, true, true], [e1 0 (.aload_n 0) 1 0, e3 1 (.getfield 21) 3 21 1 2, e1 4 (.iload_n 1) 1 1, ei 5 (.invokevirtual 377) 3 18 93 2 0 2, e1 8 (.ifCond .ne 5) 3 13, ec 11 (.iconst (-1)) 1 (-1), e1 12 (.ireturn) 1 0], 13),
  (13, [true, true, true], [e1 13 (.iload_n 2) 1 2, ec 14 (.bipush 8) 2 8, ei 16 (.invokestatic 145) 3 0 123 2 0 2, e1 19 (.ifCond .eq 15) 3 34, e1 22 (.aload_n 0) 1 0, e3 23 (.getfield 76) 3 21 7 2, e1 26 (.iload_n 1) 1 1, e1 27 (.iload_n 2) 1 2, ei 28 (.invokevirtual 386) 3 13 53 3 0 3, e1 31 (.goto 5) 3 36], 34),
  (34, [false, false, false], [ec 34 (.bipush (-2)) 2 (-2)], 36),
  (36, [false, false, false], [e1 36 (.ireturn) 1 0], 37)]
set_option maxRecDepth 100000 in
def K_X11_sort : List XB := [(0, [true, true, true], [e1 0 (.aload_n 0) 1 0, e3 1 (.getfield 21) 3 21 1 2, e1 4 (.iload_n 1) 1 1, ei 5 (.invokevirtual 377) 3 18 93 2 0 2, e1 8 (.ifCond .ne 5) 3 13, ec 11 (.iconst (-1)) 1 (-1), e1 12 (.ireturn) 1 0], 13),
  (13, [true, true, true], [e1 13 (.iload_n 2) 1 2, ec 14 (.bipush 8) 2 8, ei 16 (.invokestatic 145) 3 0 123 2 0 2, e1 19 (.ifCond .eq 15) 3 34, e1 22 (.aload_n 0) 1 0, e3 23 (.getfield 76) 3 21 7 2, e1 26 (.iload_n 1) 1 1, e1 27 (.iload_n 2) 1 2, ei 28 (.invokevirtual 383) 3 13 52 3 0 3, e1 31 (.goto 5) 3 36], 34),
  (34, [false, false, false], [ec 34 (.bipush (-2)) 2 (-2)], 36),
  (36, [false, false, false], [e1 36 (.ireturn) 1 0], 37)]
set_option maxRecDepth 100000 in
def K_X11_route : List XB := [(0, [true, true, true, true], [e1 0 (.aload_n 0) 1 0, e3 1 (.getfield 21) 3 21 1 2, e1 4 (.iload_n 1) 1 1, ei 5 (.invokevirtual 377) 3 18 93 2 0 2, e1 8 (.ifCond .eq 14) 3 22, e1 11 (.aload_n 0) 1 0, e3 12 (.getfield 21) 3 21 1 2, e1 15 (.iload_n 2) 1 2, ei 16 (.invokevirtual 377) 3 18 93 2 0 2, e1 19 (.ifCond .ne 5) 3 24], 22),
  (22, [false, false, false, false], [ec 22 (.iconst (-1)) 1 (-1), e1 23 (.ireturn) 1 0], 24),
  (24, [true, true, true, true], [e1 24 (.aload_n 0) 1 0, e3 25 (.getfield 76) 3 21 7 2, e1 28 (.iload_n 1) 1 1, e1 29 (.iload_n 3) 1 3, ei 30 (.invokevirtual 403) 3 13 61 3 2 6, e3 33 (.getfield 370) 3 20 0 2, e1 36 (.iload_n 2) 1 2, e0 37 (.iaload) 1, e1 38 (.ireturn) 1 0], 39)]
set_option maxRecDepth 100000 in
def K_X11_first : List XB := [(0, [true, true, true, true], [e1 0 (.aload_n 0) 1 0, e3 1 (.getfield 21) 3 21 1 2, e1 4 (.iload_n 1) 1 1, ei 5 (.invokevirtual 377) 3 18 93 2 0 2, e1 8 (.ifCond .eq 14) 3 22, e1 11 (.aload_n 0) 1 0, e3 12 (.getfield 21) 3 21 1 2, e1 15 (.iload_n 2) 1 2, ei 16 (.invokevirtual 377) 3 18 93 2 0 2, e1 19 (.ifCond .ne 5) 3 24], 22),
  (22, [false, false, false, false], [ec 22 (.iconst (-1)) 1 (-1), e1 23 (.ireturn) 1 0], 24),
  (24, [true, true, true, true], [e1 24 (.aload_n 0) 1 0, e3 25 (.getfield 76) 3 21 7 2, e1 28 (.iload_n 1) 1 1, e1 29 (.iload_n 3) 1 3, ei 30 (.invokevirtual 403) 3 13 61 3 2 6, e3 33 (.getfield 373) 3 20 1 2, e1 36 (.iload_n 2) 1 2, e0 37 (.iaload) 1, e1 38 (.ireturn) 1 0], 39)]
set_option maxRecDepth 100000 in
def K_X11_shelf : List XB := [(0, [true, true, true], [e1 0 (.aload_n 0) 1 0, e3 1 (.getfield 12) 3 21 0 2, e1 4 (.iload_n 1) 1 1, ei 5 (.invokevirtual 132) 3 10 3 2 0 2, e1 8 (.ifCond .ne 5) 3 13, ec 11 (.iconst (-1)) 1 (-1), e1 12 (.ireturn) 1 0], 13),
  (13, [true, true, true], [e1 13 (.iload_n 2) 1 2, ec 14 (.bipush 16) 2 16, e1 16 (.if_icmp .le 6) 3 22, ec 19 (.bipush (-2)) 2 (-2), e1 21 (.ireturn) 1 0], 22),
  (22, [true, true, true], [e1 22 (.aload_n 0) 1 0, e3 23 (.getfield 117) 3 21 12 0, ec 26 (.bipush 10) 2 10, e1 28 (.if_icmp .lt 6) 3 34, ec 31 (.bipush (-4)) 2 (-4), e1 33 (.ireturn) 1 0], 34),
  (34, [true, true, true], [e1 34 (.iload_n 2) 1 2, e1 35 (.ifCond .ge 9) 3 44, e1 38 (.aload_n 0) 1 0, ec 39 (.iconst 5) 1 5, ei 40 (.invokevirtual 165) 3 21 121 2 0 2, e1 43 (.ireturn) 1 0], 44),
  (44, [true, true, true], [e1 44 (.aload_n 0) 1 0, e3 45 (.getfield 82) 3 21 8 2, e1 48 (.aload_n 0) 1 0, e3 49 (.getfield 117) 3 21 12 0, e3 52 (.aaload) 1 5 16 0, e1 53 (.aload_n 0) 1 0, e3 54 (.getfield 12) 3 21 0 2, e1 57 (.iload_n 1) 1 1, ei 58 (.invokevirtual 148) 3 10 5 2 0 4, e1 61 (.iload_n 2) 1 2, ei 62 (.invokevirtual 406) 3 16 73 3 3 4, e1 65 (.aload_n 0) 1 0, e0 66 (.dup) 1, e3 67 (.getfield 117) 3 21 12 0, e0 70 (.dup_x1) 1, ec 71 (.iconst 1) 1 1, e0 72 (.iadd) 1, e3 73 (.putfield 117) 3 21 12 0, e1 76 (.ireturn) 1 0], 77)]
set_option maxRecDepth 100000 in
def K_X11_stand : List XB := [(0, [true, true, true, true, false], [e1 0 (.iload_n 1) 1 1, e1 1 (.aload_n 0) 1 0, e3 2 (.getfield 117) 3 21 12 0, ei 5 (.invokestatic 145) 3 0 123 2 0 2, e1 8 (.ifCond .eq 21) 3 29, e1 11 (.iload_n 3) 1 3, ec 12 (.bipush (-9)) 2 (-9), e1 14 (.if_icmp .eq 17) 3 31, e1 17 (.aload_n 0) 1 0, e3 18 (.getfield 21) 3 21 1 2, e1 21 (.iload_n 3) 1 3, e0 22 (.i2l) 1, ei 23 (.invokevirtual 179) 3 18 90 2 0 3, e1 26 (.ifCond .ne 5) 3 31], 29),
  (29, [false, false, false, false, false], [ec 29 (.iconst (-1)) 1 (-1), e1 30 (.ireturn) 1 0], 31),
  (31, [true, true, true, true, false], [e1 31 (.aload_n 0) 1 0, e3 32 (.getfield 82) 3 21 8 2, e1 35 (.iload_n 1) 1 1, e3 36 (.aaload) 1 5 16 0, e1 37 (.astore 4) 2 4, e1 39 (.iload_n 2) 1 2, e1 40 (.aload 4) 2 4, e3 42 (.getfield 408) 3 16 2 0, ei 45 (.invokestatic 145) 3 0 123 2 0 2, e1 48 (.ifCond .ne 9) 3 57, e1 51 (.aload_n 0) 1 0, ec 52 (.iconst 2) 1 2, ei 53 (.invokevirtual 165) 3 21 121 2 0 2, e1 56 (.ireturn) 1 0], 57),
  (57, [true, false, true, true, true], [e1 57 (.aload_n 0) 1 0, e1 58 (.aload 4) 2 4, e1 60 (.iload_n 3) 1 3, ei 61 (.invokevirtual 411) 3 21 163 3 0 3, e1 64 (.ifCond .ne 9) 3 73, e1 67 (.aload_n 0) 1 0, ec 68 (.iconst 4) 1 4, ei 69 (.invokevirtual 165) 3 21 121 2 0 2, e1 72 (.ireturn) 1 0], 73),
  (73, [false, false, true, true, true], [e1 73 (.aload 4) 2 4, e3 75 (.getfield 415) 3 16 0 2, e1 78 (.iload_n 2) 1 2, e1 79 (.iload_n 3) 1 3, e0 80 (.iastore) 1, ec 81 (.iconst 1) 1 1, e1 82 (.ireturn) 1 0], 83)]
set_option maxRecDepth 100000 in
def K_X11_shelfTakes : List XB := [(0, [true, true, true], [e1 0 (.iload_n 2) 1 2, ec 1 (.bipush (-9)) 2 (-9), e1 3 (.if_icmp .eq 26) 3 29, e1 6 (.aload_n 0) 1 0, e3 7 (.getfield 12) 3 21 0 2, e1 10 (.aload_n 0) 1 0, e3 11 (.getfield 21) 3 21 1 2, e3 14 (.getfield 275) 3 18 2 2, e1 17 (.iload_n 2) 1 2, e0 18 (.iaload) 1, e1 19 (.aload_n 1) 1 1, e3 20 (.getfield 418) 3 16 1 0, ei 23 (.invokevirtual 141) 3 10 4 3 0 5, e1 26 (.ifCond .eq 7) 3 33], 29),
  (29, [false, false, false], [ec 29 (.iconst 1) 1 1, e1 30 (.goto 4) 3 34], 33),
  (33, [false, false, false], [ec 33 (.iconst 0) 1 0], 34),
  (34, [false, false, false], [e1 34 (.ireturn) 1 1], 35)]
set_option maxRecDepth 100000 in
def K_X11_stands : List XB := [(0, [true, true, true], [e1 0 (.iload_n 1) 1 1, e1 1 (.aload_n 0) 1 0, e3 2 (.getfield 117) 3 21 12 0, ei 5 (.invokestatic 145) 3 0 123 2 0 2, e1 8 (.ifCond .ne 5) 3 13, ec 11 (.iconst (-1)) 1 (-1), e1 12 (.ireturn) 1 0], 13),
  (13, [true, true, true], [e1 13 (.iload_n 2) 1 2, e1 14 (.aload_n 0) 1 0, e3 15 (.getfield 82) 3 21 8 2, e1 18 (.iload_n 1) 1 1, e3 19 (.aaload) 1 5 16 0, e3 20 (.getfield 408) 3 16 2 0, ei 23 (.invokestatic 145) 3 0 123 2 0 2, e1 26 (.ifCond .eq 17) 3 43, e1 29 (.aload_n 0) 1 0, e3 30 (.getfield 82) 3 21 8 2, e1 33 (.iload_n 1) 1 1, e3 34 (.aaload) 1 5 16 0, e3 35 (.getfield 415) 3 16 0 2, e1 38 (.iload_n 2) 1 2, e0 39 (.iaload) 1, e1 40 (.goto 8) 3 48], 43),
  (43, [true, false, false], [e1 43 (.aload_n 0) 1 0, ec 44 (.iconst 2) 1 2, ei 45 (.invokevirtual 165) 3 21 121 2 0 2], 48),
  (48, [false, false, false], [e1 48 (.ireturn) 1 0], 49)]
set_option maxRecDepth 100000 in
def K_X11_haul : List XB := [(0, [true, true, true, true, true, true, false, false, false], [e1 0 (.iload_n 1) 1 1, e1 1 (.aload_n 0) 1 0, e3 2 (.getfield 117) 3 21 12 0, ei 5 (.invokestatic 145) 3 0 123 2 0 2, e1 8 (.ifCond .eq 14) 3 22, e1 11 (.iload_n 3) 1 3, e1 12 (.aload_n 0) 1 0, e3 13 (.getfield 117) 3 21 12 0, ei 16 (.invokestatic 145) 3 0 123 2 0 2, e1 19 (.ifCond .ne 5) 3 24], 22),
  (22, [false, false, false, false, false, false, false, false, false], [ec 22 (.iconst (-1)) 1 (-1), e1 23 (.ireturn) 1 0], 24),
  (24, [true, true, true, true, true, true, false, false, false], [e1 24 (.aload_n 0) 1 0, e3 25 (.getfield 82) 3 21 8 2, e1 28 (.iload_n 1) 1 1, e3 29 (.aaload) 1 5 16 0, e1 30 (.astore 6) 2 6, e1 32 (.aload_n 0) 1 0, e3 33 (.getfield 82) 3 21 8 2, e1 36 (.iload_n 3) 1 3, e3 37 (.aaload) 1 5 16 0, e1 38 (.astore 7) 2 7, e1 40 (.aload 6) 2 6, e1 42 (.iload_n 2) 1 2, e1 43 (.iload 5) 2 5, ei 45 (.invokevirtual 421) 3 16 74 3 0 3, e1 48 (.ifCond .eq 15) 3 63, e1 51 (.aload 7) 2 7, e1 53 (.iload 4) 2 4, e1 55 (.iload 5) 2 5, ei 57 (.invokevirtual 421) 3 16 74 3 0 3, e1 60 (.ifCond .ne 9) 3 69], 63),
  (63, [true, false, false, false, false, false, false, false, false], [e1 63 (.aload_n 0) 1 0, ec 64 (.iconst 2) 1 2, ei 65 (.invokevirtual 165) 3 21 121 2 0 2, e1 68 (.ireturn) 1 0], 69),
  (69, [true, false, true, false, true, true, true, true, false], [ec 69 (.iconst 0) 1 0, e1 70 (.istore 8) 2 8], 72),
  (72, [true, false, true, false, true, true, true, true, true], [e1 72 (.iload 8) 2 8, e1 74 (.iload 5) 2 5, e1 76 (.if_icmp .ge 26) 3 102, e1 79 (.aload_n 0) 1 0, e3 80 (.getfield 94) 3 21 10 2, e1 83 (.iload 8) 2 8, e1 85 (.aload 6) 2 6, e3 87 (.getfield 415) 3 16 0 2, e1 90 (.iload_n 2) 1 2, e1 91 (.iload 8) 2 8, e0 93 (.iadd) 1, e0 94 (.iaload) 1, e0 95 (.iastore) 1, ek 96 (.iinc 8 1) 3 1 8, e1 99 (.goto (-27)) 3 72], 102),
  (102, [true, false, false, false, true, true, false, true, false], [e1 102 (.aload_n 0) 1 0, ec 103 (.iconst 0) 1 0, e3 104 (.putfield 129) 3 21 16 0, ec 107 (.iconst 0) 1 0, e1 108 (.istore 8) 2 8], 110),
  (110, [true, false, false, false, true, true, false, true, true], [e1 110 (.iload 8) 2 8, e1 112 (.iload 5) 2 5, e1 114 (.if_icmp .ge 59) 3 173, e1 117 (.aload_n 0) 1 0, e1 118 (.aload 7) 2 7, e1 120 (.aload_n 0) 1 0, e3 121 (.getfield 94) 3 21 10 2, e1 124 (.iload 8) 2 8, e0 126 (.iaload) 1, ei 127 (.invokevirtual 411) 3 21 163 3 0 3, e1 130 (.ifCond .ne 9) 3 139, e1 133 (.aload_n 0) 1 0, ec 134 (.iconst 4) 1 4, ei 135 (.invokevirtual 165) 3 21 121 2 0 2, e1 138 (.ireturn) 1 0], 139),
  (139, [true, false, false, false, true, true, false, true, true], [e1 139 (.aload 7) 2 7, e3 141 (.getfield 415) 3 16 0 2, e1 144 (.iload 4) 2 4, e1 146 (.iload 8) 2 8, e0 148 (.iadd) 1, e1 149 (.aload_n 0) 1 0, e3 150 (.getfield 94) 3 21 10 2, e1 153 (.iload 8) 2 8, e0 155 (.iaload) 1, e0 156 (.iastore) 1, e1 157 (.aload_n 0) 1 0, e0 158 (.dup) 1, e3 159 (.getfield 129) 3 21 16 0, ec 162 (.iconst 1) 1 1, e0 163 (.iadd) 1, e3 164 (.putfield 129) 3 21 16 0, ek 167 (.iinc 8 1) 3 1 8, e1 170 (.goto (-60)) 3 110], 173),
  (173, [false, false, false, false, false, true, false, false, false], [e1 173 (.iload 5) 2 5, e1 175 (.ireturn) 1 0], 176)]
set_option maxRecDepth 100000 in
def K_X11_came : List XB := [(0, [true], [e1 0 (.aload_n 0) 1 0, e3 1 (.getfield 129) 3 21 16 0, e1 4 (.ireturn) 1 0], 5)]
set_option maxRecDepth 100000 in
def K_X11_table : List XB := [(0, [true, true, true, true], [e1 0 (.iload_n 1) 1 1, ec 1 (.iconst 1) 1 1, e1 2 (.if_icmp .lt 27) 3 29, e1 5 (.iload_n 1) 1 1, ec 6 (.bipush 16) 2 16, e1 8 (.if_icmp .gt 21) 3 29, e1 11 (.iload_n 2) 1 2, ec 12 (.iconst 1) 1 1, e1 13 (.if_icmp .lt 16) 3 29, e1 16 (.iload_n 2) 1 2, ec 17 (.iconst 5) 1 5, e1 18 (.if_icmp .gt 11) 3 29, e1 21 (.iload_n 3) 1 3, e1 22 (.iload_n 2) 1 2, ei 23 (.invokestatic 424) 3 0 168 2 0 4, e1 26 (.ifCond .ne 6) 3 32], 29),
  (29, [false, false, false, false], [ec 29 (.bipush (-2)) 2 (-2), e1 31 (.ireturn) 1 0], 32),
  (32, [true, true, true, true], [e1 32 (.aload_n 0) 1 0, e3 33 (.getfield 120) 3 21 13 0, ec 36 (.bipush 6) 2 6, e1 38 (.if_icmp .lt 6) 3 44, ec 41 (.bipush (-4)) 2 (-4), e1 43 (.ireturn) 1 0], 44),
  (44, [true, true, true, true], [e1 44 (.aload_n 0) 1 0, e3 45 (.getfield 89) 3 21 9 2, e1 48 (.aload_n 0) 1 0, e3 49 (.getfield 120) 3 21 13 0, e3 52 (.aaload) 1 6 17 0, e1 53 (.iload_n 1) 1 1, e1 54 (.iload_n 2) 1 2, e1 55 (.iload_n 3) 1 3, ei 56 (.invokevirtual 427) 3 17 76 4 3 6, e1 59 (.aload_n 0) 1 0, e0 60 (.dup) 1, e3 61 (.getfield 120) 3 21 13 0, e0 64 (.dup_x1) 1, ec 65 (.iconst 1) 1 1, e0 66 (.iadd) 1, e3 67 (.putfield 120) 3 21 13 0, e1 70 (.ireturn) 1 0], 71)]
set_option maxRecDepth 100000 in
def K_X11_areLanes : List XB := [(0, [true, true, false, false], [e1 0 (.iload_n 0) 1 0, e1 1 (.istore_n 2) 1 2, ec 2 (.iconst 0) 1 0, e1 3 (.istore_n 3) 1 3], 4),
  (4, [false, true, true, true], [e1 4 (.iload_n 3) 1 3, e1 5 (.iload_n 1) 1 1, e1 6 (.if_icmp .ge 29) 3 35, e1 9 (.iload_n 2) 1 2, e1 10 (.ifCond .lt 12) 3 22, e1 13 (.iload_n 2) 1 2, ec 14 (.bipush 10) 2 10, e0 16 (.irem) 1, ec 17 (.bipush 8) 2 8, e1 19 (.if_icmp .lt 5) 3 24], 22),
  (22, [false, false, false, false], [ec 22 (.iconst 0) 1 0, e1 23 (.ireturn) 1 1], 24),
  (24, [false, true, true, true], [e1 24 (.iload_n 2) 1 2, ec 25 (.bipush 10) 2 10, e0 27 (.idiv) 1, e1 28 (.istore_n 2) 1 2, ek 29 (.iinc 3 1) 3 1 3, e1 32 (.goto (-28)) 3 4], 35),
  (35, [false, false, true, false], [e1 35 (.iload_n 2) 1 2, e1 36 (.ifCond .ne 7) 3 43, ec 39 (.iconst 1) 1 1, e1 40 (.goto 4) 3 44], 43),
  (43, [false, false, false, false], [ec 43 (.iconst 0) 1 0], 44),
  (44, [false, false, false, false], [e1 44 (.ireturn) 1 1], 45)]
set_option maxRecDepth 100000 in
def K_X11_fill : List XB := [(0, [true, true, true, true, true, false], [e1 0 (.iload_n 1) 1 1, e1 1 (.aload_n 0) 1 0, e3 2 (.getfield 120) 3 21 13 0, ei 5 (.invokestatic 145) 3 0 123 2 0 2, e1 8 (.ifCond .ne 5) 3 13, ec 11 (.iconst (-1)) 1 (-1), e1 12 (.ireturn) 1 0], 13),
  (13, [true, true, true, true, true, false], [e1 13 (.aload_n 0) 1 0, e3 14 (.getfield 89) 3 21 9 2, e1 17 (.iload_n 1) 1 1, e3 18 (.aaload) 1 6 17 0, e1 19 (.iload_n 2) 1 2, e1 20 (.iload_n 3) 1 3, ei 21 (.invokevirtual 429) 3 17 77 3 0 3, e1 24 (.ifCond .ne 9) 3 33, e1 27 (.aload_n 0) 1 0, ec 28 (.iconst 2) 1 2, ei 29 (.invokevirtual 165) 3 21 121 2 0 2, e1 32 (.ireturn) 1 0], 33),
  (33, [true, true, true, true, true, false], [e1 33 (.aload_n 0) 1 0, e3 34 (.getfield 89) 3 21 9 2, e1 37 (.iload_n 1) 1 1, e3 38 (.aaload) 1 6 17 0, e1 39 (.iload_n 2) 1 2, e1 40 (.iload_n 3) 1 3, e1 41 (.lload 4) 2 4, ei 43 (.invokevirtual 432) 3 17 80 4 3 5, ec 46 (.iconst 1) 1 1, e1 47 (.ireturn) 1 0], 48)]
set_option maxRecDepth 100000 in
def K_X11_blank : List XB := [(0, [true, true, true, true], [e1 0 (.iload_n 1) 1 1, e1 1 (.aload_n 0) 1 0, e3 2 (.getfield 120) 3 21 13 0, ei 5 (.invokestatic 145) 3 0 123 2 0 2, e1 8 (.ifCond .ne 5) 3 13, ec 11 (.iconst (-1)) 1 (-1), e1 12 (.ireturn) 1 0], 13),
  (13, [true, true, true, true], [e1 13 (.aload_n 0) 1 0, e3 14 (.getfield 89) 3 21 9 2, e1 17 (.iload_n 1) 1 1, e3 18 (.aaload) 1 6 17 0, e1 19 (.iload_n 2) 1 2, e1 20 (.iload_n 3) 1 3, ei 21 (.invokevirtual 429) 3 17 77 3 0 3, e1 24 (.ifCond .ne 9) 3 33, e1 27 (.aload_n 0) 1 0, ec 28 (.iconst 2) 1 2, ei 29 (.invokevirtual 165) 3 21 121 2 0 2, e1 32 (.ireturn) 1 0], 33),
  (33, [true, true, true, true], [e1 33 (.aload_n 0) 1 0, e3 34 (.getfield 89) 3 21 9 2, e1 37 (.iload_n 1) 1 1, e3 38 (.aaload) 1 6 17 0, e1 39 (.iload_n 2) 1 2, e1 40 (.iload_n 3) 1 3, ei 41 (.invokevirtual 435) 3 17 81 3 0 4, e1 44 (.ifCond .eq 7) 3 51, ec 47 (.iconst 1) 1 1, e1 48 (.goto 4) 3 52], 51),
  (51, [false, false, false, false], [ec 51 (.iconst 0) 1 0], 52),
  (52, [false, false, false, false], [e1 52 (.ireturn) 1 0], 53)]
set_option maxRecDepth 100000 in
def K_X11_read : List XB := [(0, [true, true, true, true], [e1 0 (.iload_n 1) 1 1, e1 1 (.aload_n 0) 1 0, e3 2 (.getfield 120) 3 21 13 0, ei 5 (.invokestatic 145) 3 0 123 2 0 2, e1 8 (.ifCond .ne 7) 3 15, ec 11 (.ldc2_w 238) 3 (-1), e0 14 (.lreturn) 1], 15),
  (15, [true, true, true, true], [e1 15 (.aload_n 0) 1 0, e3 16 (.getfield 89) 3 21 9 2, e1 19 (.iload_n 1) 1 1, e3 20 (.aaload) 1 6 17 0, e1 21 (.iload_n 2) 1 2, e1 22 (.iload_n 3) 1 3, ei 23 (.invokevirtual 429) 3 17 77 3 0 3, e1 26 (.ifCond .ne 10) 3 36, e1 29 (.aload_n 0) 1 0, ec 30 (.iconst 2) 1 2, ei 31 (.invokevirtual 165) 3 21 121 2 0 2, e0 34 (.i2l) 1, e0 35 (.lreturn) 1], 36),
  (36, [true, true, true, true], [e1 36 (.aload_n 0) 1 0, e3 37 (.getfield 89) 3 21 9 2, e1 40 (.iload_n 1) 1 1, e3 41 (.aaload) 1 6 17 0, e1 42 (.iload_n 2) 1 2, e1 43 (.iload_n 3) 1 3, ei 44 (.invokevirtual 438) 3 17 78 3 0 3, e1 47 (.ifCond .eq 12) 3 59, e1 50 (.aload_n 0) 1 0, ec 51 (.iconst 1) 1 1, ei 52 (.invokevirtual 165) 3 21 121 2 0 2, e0 55 (.i2l) 1, e1 56 (.goto 14) 3 70], 59),
  (59, [true, true, true, true], [e1 59 (.aload_n 0) 1 0, e3 60 (.getfield 89) 3 21 9 2, e1 63 (.iload_n 1) 1 1, e3 64 (.aaload) 1 6 17 0, e1 65 (.iload_n 2) 1 2, e1 66 (.iload_n 3) 1 3, ei 67 (.invokevirtual 441) 3 17 79 3 1 3], 70),
  (70, [false, false, false, false], [e0 70 (.lreturn) 1], 71)]
set_option maxRecDepth 100000 in
def K_X11_choose : List XB := [(0, [true, true, true, true, false, true], [e1 0 (.iload_n 1) 1 1, e1 1 (.aload_n 0) 1 0, e3 2 (.getfield 120) 3 21 13 0, ei 5 (.invokestatic 145) 3 0 123 2 0 2, e1 8 (.ifCond .ne 5) 3 13, ec 11 (.iconst (-1)) 1 (-1), e1 12 (.ireturn) 1 0], 13),
  (13, [true, true, true, true, false, true], [e1 13 (.iload 5) 2 5, ec 15 (.bipush 16) 2 16, ei 17 (.invokestatic 145) 3 0 123 2 0 2, e1 20 (.ifCond .ne 6) 3 26, ec 23 (.bipush (-2)) 2 (-2), e1 25 (.ireturn) 1 0], 26),
  (26, [true, true, true, true, false, true], [e1 26 (.iload_n 2) 1 2, e1 27 (.aload_n 0) 1 0, e3 28 (.getfield 89) 3 21 9 2, e1 31 (.iload_n 1) 1 1, e3 32 (.aaload) 1 6 17 0, e3 33 (.getfield 444) 3 17 5 0, ei 36 (.invokestatic 145) 3 0 123 2 0 2, e1 39 (.ifCond .ne 9) 3 48, e1 42 (.aload_n 0) 1 0, ec 43 (.iconst 2) 1 2, ei 44 (.invokevirtual 165) 3 21 121 2 0 2, e1 47 (.ireturn) 1 0], 48),
  (48, [true, true, true, true, false, true], [e1 48 (.aload_n 0) 1 0, e3 49 (.getfield 89) 3 21 9 2, e1 52 (.iload_n 1) 1 1, e3 53 (.aaload) 1 6 17 0, e1 54 (.iload_n 2) 1 2, e1 55 (.lload_n 3) 1 3, e1 56 (.iload 5) 2 5, ei 58 (.invokevirtual 447) 3 17 82 4 0 6, e1 61 (.ireturn) 1 0], 62)]
set_option maxRecDepth 100000 in
def K_X11_rank : List XB := [(0, [true, true, true, true], [e1 0 (.iload_n 1) 1 1, e1 1 (.aload_n 0) 1 0, e3 2 (.getfield 120) 3 21 13 0, ei 5 (.invokestatic 145) 3 0 123 2 0 2, e1 8 (.ifCond .ne 5) 3 13, ec 11 (.iconst (-1)) 1 (-1), e1 12 (.ireturn) 1 0], 13),
  (13, [true, true, true, true], [e1 13 (.iload_n 2) 1 2, e1 14 (.aload_n 0) 1 0, e3 15 (.getfield 89) 3 21 9 2, e1 18 (.iload_n 1) 1 1, e3 19 (.aaload) 1 6 17 0, e3 20 (.getfield 444) 3 17 5 0, ei 23 (.invokestatic 145) 3 0 123 2 0 2, e1 26 (.ifCond .eq 17) 3 43, e1 29 (.aload_n 0) 1 0, e3 30 (.getfield 89) 3 21 9 2, e1 33 (.iload_n 1) 1 1, e3 34 (.aaload) 1 6 17 0, e1 35 (.iload_n 2) 1 2, e1 36 (.iload_n 3) 1 3, ei 37 (.invokevirtual 451) 3 17 83 3 0 5, e1 40 (.goto 8) 3 48], 43),
  (43, [true, false, false, false], [e1 43 (.aload_n 0) 1 0, ec 44 (.iconst 2) 1 2, ei 45 (.invokevirtual 165) 3 21 121 2 0 2], 48),
  (48, [false, false, false, false], [e1 48 (.ireturn) 1 0], 49)]
set_option maxRecDepth 100000 in
def K_X11_total : List XB := [(0, [true, true, true], [e1 0 (.iload_n 1) 1 1, e1 1 (.aload_n 0) 1 0, e3 2 (.getfield 120) 3 21 13 0, ei 5 (.invokestatic 145) 3 0 123 2 0 2, e1 8 (.ifCond .ne 7) 3 15, ec 11 (.ldc2_w 238) 3 (-1), e0 14 (.lreturn) 1], 15),
  (15, [true, true, true], [e1 15 (.iload_n 2) 1 2, e1 16 (.aload_n 0) 1 0, e3 17 (.getfield 89) 3 21 9 2, e1 20 (.iload_n 1) 1 1, e3 21 (.aaload) 1 6 17 0, e3 22 (.getfield 444) 3 17 5 0, ei 25 (.invokestatic 145) 3 0 123 2 0 2, e1 28 (.ifCond .eq 16) 3 44, e1 31 (.aload_n 0) 1 0, e3 32 (.getfield 89) 3 21 9 2, e1 35 (.iload_n 1) 1 1, e3 36 (.aaload) 1 6 17 0, e1 37 (.iload_n 2) 1 2, ei 38 (.invokevirtual 455) 3 17 86 2 1 5, e1 41 (.goto 9) 3 50], 44),
  (44, [true, false, false], [e1 44 (.aload_n 0) 1 0, ec 45 (.iconst 2) 1 2, ei 46 (.invokevirtual 165) 3 21 121 2 0 2, e0 49 (.i2l) 1], 50),
  (50, [false, false, false], [e0 50 (.lreturn) 1], 51)]
set_option maxRecDepth 100000 in
def K_X11_mean : List XB := [(0, [true, true, true, false], [e1 0 (.iload_n 1) 1 1, e1 1 (.aload_n 0) 1 0, e3 2 (.getfield 120) 3 21 13 0, ei 5 (.invokestatic 145) 3 0 123 2 0 2, e1 8 (.ifCond .ne 7) 3 15, ec 11 (.ldc2_w 238) 3 (-1), e0 14 (.lreturn) 1], 15),
  (15, [true, true, true, false], [e1 15 (.iload_n 2) 1 2, e1 16 (.aload_n 0) 1 0, e3 17 (.getfield 89) 3 21 9 2, e1 20 (.iload_n 1) 1 1, e3 21 (.aaload) 1 6 17 0, e3 22 (.getfield 444) 3 17 5 0, ei 25 (.invokestatic 145) 3 0 123 2 0 2, e1 28 (.ifCond .ne 10) 3 38, e1 31 (.aload_n 0) 1 0, ec 32 (.iconst 2) 1 2, ei 33 (.invokevirtual 165) 3 21 121 2 0 2, e0 36 (.i2l) 1, e0 37 (.lreturn) 1], 38),
  (38, [true, true, true, false], [e1 38 (.aload_n 0) 1 0, e3 39 (.getfield 89) 3 21 9 2, e1 42 (.iload_n 1) 1 1, e3 43 (.aaload) 1 6 17 0, e1 44 (.iload_n 2) 1 2, ei 45 (.invokevirtual 458) 3 17 87 2 0 4, e1 48 (.istore_n 3) 1 3, e1 49 (.iload_n 3) 1 3, e1 50 (.ifCond .ne 13) 3 63, e1 53 (.aload_n 0) 1 0, ec 54 (.bipush 6) 2 6, ei 56 (.invokevirtual 165) 3 21 121 2 0 2, e0 59 (.i2l) 1, e1 60 (.goto 16) 3 76], 63),
  (63, [true, true, true, true], [e1 63 (.aload_n 0) 1 0, e3 64 (.getfield 89) 3 21 9 2, e1 67 (.iload_n 1) 1 1, e3 68 (.aaload) 1 6 17 0, e1 69 (.iload_n 2) 1 2, ei 70 (.invokevirtual 455) 3 17 86 2 1 5, e1 73 (.iload_n 3) 1 3, e0 74 (.i2l) 1, e0 75 (.ldiv) 1], 76),
  (76, [false, false, false, false], [e0 76 (.lreturn) 1], 77)]
set_option maxRecDepth 100000 in
def K_X11_make : List XB := [(0, [true, false], [e1 0 (.aload_n 0) 1 0, e3 1 (.getfield 21) 3 21 1 2, ei 4 (.invokevirtual 461) 3 18 94 1 0 2, e1 7 (.ifCond .eq 13) 3 20, e1 10 (.aload_n 0) 1 0, e3 11 (.getfield 46) 3 21 4 2, ei 14 (.invokevirtual 330) 3 11 26 1 0 3, e1 17 (.ifCond .le 6) 3 23], 20),
  (20, [false, false], [ec 20 (.bipush (-3)) 2 (-3), e1 22 (.ireturn) 1 0], 23),
  (23, [true, false], [e1 23 (.aload_n 0) 1 0, ec 24 (.iconst 0) 1 0, e3 25 (.putfield 123) 3 21 14 0, e1 28 (.aload_n 0) 1 0, e1 29 (.aload_n 0) 1 0, e3 30 (.getfield 12) 3 21 0 2, e3 33 (.getfield 136) 3 10 1 0, ei 36 (.invokevirtual 464) 3 21 177 2 3 2, e1 39 (.aload_n 0) 1 0, e1 40 (.aload_n 0) 1 0, e3 41 (.getfield 21) 3 21 1 2, e3 44 (.getfield 107) 3 18 7 0, ei 47 (.invokevirtual 464) 3 21 177 2 3 2, ec 50 (.iconst 0) 1 0, e1 51 (.istore_n 1) 1 1], 52),
  (52, [true, true], [e1 52 (.iload_n 1) 1 1, e1 53 (.aload_n 0) 1 0, e3 54 (.getfield 21) 3 21 1 2, e3 57 (.getfield 107) 3 18 7 0, e1 60 (.if_icmp .ge 14) 3 74, e1 63 (.aload_n 0) 1 0, e1 64 (.iload_n 1) 1 1, ei 65 (.invokevirtual 467) 3 21 178 2 3 3, ek 68 (.iinc 1 1) 3 1 1, e1 71 (.goto (-19)) 3 52], 74),
  (74, [true, false], [ec 74 (.iconst 0) 1 0, e1 75 (.istore_n 1) 1 1], 76),
  (76, [true, true], [e1 76 (.iload_n 1) 1 1, e1 77 (.aload_n 0) 1 0, e3 78 (.getfield 21) 3 21 1 2, e3 81 (.getfield 107) 3 18 7 0, e1 84 (.if_icmp .ge 25) 3 109, e1 87 (.aload_n 0) 1 0, e3 88 (.getfield 21) 3 21 1 2, e1 91 (.iload_n 1) 1 1, ei 92 (.invokevirtual 377) 3 18 93 2 0 2, e1 95 (.ifCond .eq 8) 3 103, e1 98 (.aload_n 0) 1 0, e1 99 (.iload_n 1) 1 1, ei 100 (.invokevirtual 470) 3 21 179 2 3 3], 103),
  (103, [true, true], [ek 103 (.iinc 1 1) 3 1 1, e1 106 (.goto (-30)) 3 76], 109),
  (109, [true, false], [ec 109 (.iconst 0) 1 0, e1 110 (.istore_n 1) 1 1], 111),
  (111, [true, true], [e1 111 (.iload_n 1) 1 1, e1 112 (.aload_n 0) 1 0, e3 113 (.getfield 67) 3 21 6 2, e3 116 (.getfield 116) 3 12 6 0, e1 119 (.if_icmp .ge 34) 3 153, e1 122 (.aload_n 0) 1 0, e1 123 (.aload_n 0) 1 0, e3 124 (.getfield 67) 3 21 6 2, e3 127 (.getfield 473) 3 12 3 2, e1 130 (.iload_n 1) 1 1, e0 131 (.iaload) 1, ei 132 (.invokevirtual 464) 3 21 177 2 3 2, e1 135 (.aload_n 0) 1 0, e1 136 (.aload_n 0) 1 0, e3 137 (.getfield 67) 3 21 6 2, e1 140 (.iload_n 1) 1 1, ei 141 (.invokevirtual 476) 3 12 48 2 0 4, ei 144 (.invokevirtual 464) 3 21 177 2 3 2, ek 147 (.iinc 1 1) 3 1 1, e1 150 (.goto (-39)) 3 111], 153),
  (153, [true, false], [e1 153 (.aload_n 0) 1 0, e3 154 (.getfield 123) 3 21 14 0, e1 157 (.ireturn) 1 0], 158)]
set_option maxRecDepth 100000 in
def K_X11_addWord : List XB := [(0, [true, true], [e1 0 (.aload_n 0) 1 0, e3 1 (.getfield 123) 3 21 14 0, ec 4 (.sipush 1490) 3 1490, e1 7 (.if_icmp .ge 20) 3 27, e1 10 (.aload_n 0) 1 0, e3 11 (.getfield 98) 3 21 11 2, e1 14 (.aload_n 0) 1 0, e0 15 (.dup) 1, e3 16 (.getfield 123) 3 21 14 0, e0 19 (.dup_x1) 1, ec 20 (.iconst 1) 1 1, e0 21 (.iadd) 1, e3 22 (.putfield 123) 3 21 14 0, e1 25 (.iload_n 1) 1 1, e0 26 (.iastore) 1], 27),
  (27, [false, false], [e0 27 (.return_) 1], 28)]
set_option maxRecDepth 100000 in
def K_X11_addWordsOfThing : List XB := [(0, [true, true, false], [e1 0 (.aload_n 0) 1 0, e1 1 (.aload_n 0) 1 0, e3 2 (.getfield 21) 3 21 1 2, e3 5 (.getfield 479) 3 18 1 2, e1 8 (.iload_n 1) 1 1, e0 9 (.iaload) 1, ei 10 (.invokevirtual 464) 3 21 177 2 3 2, e1 13 (.aload_n 0) 1 0, e1 14 (.aload_n 0) 1 0, e3 15 (.getfield 46) 3 21 4 2, e1 18 (.iload_n 1) 1 1, ec 19 (.iconst 0) 1 0, ei 20 (.invokevirtual 254) 3 11 8 3 0 3, ei 23 (.invokevirtual 464) 3 21 177 2 3 2, e1 26 (.aload_n 0) 1 0, e1 27 (.aload_n 0) 1 0, e3 28 (.getfield 21) 3 21 1 2, e3 31 (.getfield 482) 3 18 3 2, e1 34 (.iload_n 1) 1 1, e0 35 (.iaload) 1, ei 36 (.invokevirtual 464) 3 21 177 2 3 2, ec 39 (.iconst 0) 1 0, e1 40 (.istore_n 2) 1 2], 41),
  (41, [true, true, true], [e1 41 (.iload_n 2) 1 2, e1 42 (.aload_n 0) 1 0, e3 43 (.getfield 30) 3 21 2 2, e3 46 (.getfield 111) 3 19 9 0, e1 49 (.if_icmp .ge 35) 3 84, e1 52 (.aload_n 0) 1 0, e3 53 (.getfield 30) 3 21 2 2, e1 56 (.iload_n 1) 1 1, e1 57 (.iload_n 2) 1 2, ei 58 (.invokevirtual 224) 3 19 109 3 0 3, e1 61 (.ifCond .eq 17) 3 78, e1 64 (.aload_n 0) 1 0, e1 65 (.aload_n 0) 1 0, e3 66 (.getfield 30) 3 21 2 2, e1 69 (.iload_n 1) 1 1, e1 70 (.iload_n 2) 1 2, ei 71 (.invokevirtual 242) 3 19 115 3 1 5, e0 74 (.l2i) 1, ei 75 (.invokevirtual 464) 3 21 177 2 3 2], 78),
  (78, [true, true, true], [ek 78 (.iinc 2 1) 3 1 2, e1 81 (.goto (-40)) 3 41], 84),
  (84, [false, false, false], [e0 84 (.return_) 1], 85)]
set_option maxRecDepth 100000 in
def K_X11_addWordsOfRoom : List XB := [(0, [true, true, false], [ec 0 (.iconst 0) 1 0, e1 1 (.istore_n 2) 1 2], 2),
  (2, [true, true, true], [e1 2 (.iload_n 2) 1 2, ec 3 (.bipush 8) 2 8, e1 5 (.if_icmp .ge 22) 3 27, e1 8 (.aload_n 0) 1 0, e1 9 (.aload_n 0) 1 0, e3 10 (.getfield 76) 3 21 7 2, e1 13 (.iload_n 1) 1 1, e1 14 (.iload_n 2) 1 2, ei 15 (.invokevirtual 386) 3 13 53 3 0 3, ei 18 (.invokevirtual 464) 3 21 177 2 3 2, ek 21 (.iinc 2 1) 3 1 2, e1 24 (.goto (-22)) 3 2], 27),
  (27, [false, false, false], [e0 27 (.return_) 1], 28)]
set_option maxRecDepth 100000 in
def K_X11_word : List XB := [(0, [true, true], [e1 0 (.iload_n 1) 1 1, e1 1 (.aload_n 0) 1 0, e3 2 (.getfield 123) 3 21 14 0, ei 5 (.invokestatic 145) 3 0 123 2 0 2, e1 8 (.ifCond .eq 12) 3 20, e1 11 (.aload_n 0) 1 0, e3 12 (.getfield 98) 3 21 11 2, e1 15 (.iload_n 1) 1 1, e0 16 (.iaload) 1, e1 17 (.goto 5) 3 22], 20),
  (20, [false, false], [ec 20 (.bipush (-9)) 2 (-9)], 22),
  (22, [false, false], [e1 22 (.ireturn) 1 0], 23)]
set_option maxRecDepth 100000 in
def K_X11_digest : List XB := [(0, [true, false, false, false], [ec 0 (.ldc2_w 485) 3 17, e1 3 (.lstore_n 1) 1 1, ec 4 (.iconst 0) 1 0, e1 5 (.istore_n 3) 1 3], 6),
  (6, [true, true, false, true], [e1 6 (.iload_n 3) 1 3, e1 7 (.aload_n 0) 1 0, e3 8 (.getfield 123) 3 21 14 0, e1 11 (.if_icmp .ge 23) 3 34, ec 14 (.ldc2_w 487) 3 31, e1 17 (.lload_n 1) 1 1, e0 18 (.lmul) 1, e1 19 (.aload_n 0) 1 0, e3 20 (.getfield 98) 3 21 11 2, e1 23 (.iload_n 3) 1 3, e0 24 (.iaload) 1, e0 25 (.i2l) 1, e0 26 (.ladd) 1, e1 27 (.lstore_n 1) 1 1, ek 28 (.iinc 3 1) 3 1 3, e1 31 (.goto (-25)) 3 6], 34),
  (34, [false, true, false, false], [e1 34 (.lload_n 1) 1 1, e0 35 (.lreturn) 1], 36)]
set_option maxRecDepth 100000 in
def K_X11_sentence : List XB := [(0, [true, true, true], [e1 0 (.iload_n 1) 1 1, e1 1 (.aload_n 0) 1 0, e3 2 (.getfield 37) 3 21 3 2, e3 5 (.getfield 112) 3 14 4 0, ei 8 (.invokestatic 145) 3 0 123 2 0 2, e1 11 (.ifCond .ne 5) 3 16, ec 14 (.iconst (-1)) 1 (-1), e1 15 (.ireturn) 1 0], 16),
  (16, [true, true, true], [e1 16 (.iload_n 2) 1 2, es 17 (.tableswitch 57 0 2 #[27, 37, 47]) 27 0 74 [44, 54, 64]], 44),
  (44, [true, true, false], [e1 44 (.aload_n 0) 1 0, e3 45 (.getfield 37) 3 21 3 2, e3 48 (.getfield 489) 3 14 0 2, e1 51 (.iload_n 1) 1 1, e0 52 (.iaload) 1, e1 53 (.ireturn) 1 0], 54),
  (54, [true, true, false], [e1 54 (.aload_n 0) 1 0, e3 55 (.getfield 37) 3 21 3 2, e3 58 (.getfield 492) 3 14 1 2, e1 61 (.iload_n 1) 1 1, e0 62 (.iaload) 1, e1 63 (.ireturn) 1 0], 64),
  (64, [true, true, false], [e1 64 (.aload_n 0) 1 0, e3 65 (.getfield 37) 3 21 3 2, e3 68 (.getfield 495) 3 14 2 2, e1 71 (.iload_n 1) 1 1, e0 72 (.iaload) 1, e1 73 (.ireturn) 1 0], 74),
  (74, [false, false, false], [ec 74 (.bipush (-2)) 2 (-2), e1 76 (.ireturn) 1 0], 77)]
set_option maxRecDepth 100000 in
def K_X11_count : List XB := [(0, [true, true], [e1 0 (.iload_n 1) 1 1, es 1 (.tableswitch 126 0 9 #[55, 63, 71, 79, 87, 95, 100, 105, 113, 118]) 55 0 127 [56, 64, 72, 80, 88, 96, 101, 106, 114, 119]], 56),
  (56, [true, false], [e1 56 (.aload_n 0) 1 0, e3 57 (.getfield 12) 3 21 0 2, e3 60 (.getfield 136) 3 10 1 0, e1 63 (.ireturn) 1 0], 64),
  (64, [true, false], [e1 64 (.aload_n 0) 1 0, e3 65 (.getfield 30) 3 21 2 2, e3 68 (.getfield 111) 3 19 9 0, e1 71 (.ireturn) 1 0], 72),
  (72, [true, false], [e1 72 (.aload_n 0) 1 0, e3 73 (.getfield 21) 3 21 1 2, e3 76 (.getfield 107) 3 18 7 0, e1 79 (.ireturn) 1 0], 80),
  (80, [true, false], [e1 80 (.aload_n 0) 1 0, e3 81 (.getfield 37) 3 21 3 2, e3 84 (.getfield 112) 3 14 4 0, e1 87 (.ireturn) 1 0], 88),
  (88, [true, false], [e1 88 (.aload_n 0) 1 0, e3 89 (.getfield 67) 3 21 6 2, e3 92 (.getfield 116) 3 12 6 0, e1 95 (.ireturn) 1 0], 96),
  (96, [true, false], [e1 96 (.aload_n 0) 1 0, e3 97 (.getfield 117) 3 21 12 0, e1 100 (.ireturn) 1 0], 101),
  (101, [true, false], [e1 101 (.aload_n 0) 1 0, e3 102 (.getfield 120) 3 21 13 0, e1 105 (.ireturn) 1 0], 106),
  (106, [true, false], [e1 106 (.aload_n 0) 1 0, e3 107 (.getfield 46) 3 21 4 2, ei 110 (.invokevirtual 330) 3 11 26 1 0 3, e1 113 (.ireturn) 1 0], 114),
  (114, [true, false], [e1 114 (.aload_n 0) 1 0, e3 115 (.getfield 123) 3 21 14 0, e1 118 (.ireturn) 1 0], 119),
  (119, [true, false], [e1 119 (.aload_n 0) 1 0, e3 120 (.getfield 46) 3 21 4 2, e3 123 (.getfield 113) 3 11 15 0, e1 126 (.ireturn) 1 0], 127),
  (127, [false, false], [ec 127 (.bipush (-2)) 2 (-2), e1 129 (.ireturn) 1 0], 130)]
set_option maxRecDepth 100000 in
def K_X11_fault : List XB := [(0, [true], [e1 0 (.aload_n 0) 1 0, e3 1 (.getfield 126) 3 21 15 0, e1 4 (.ireturn) 1 0], 5)]
set_option maxRecDepth 100000 in
def K_X11_clear : List XB := [(0, [true, false], [e1 0 (.aload_n 0) 1 0, e3 1 (.getfield 21) 3 21 1 2, e3 4 (.getfield 107) 3 18 7 0, e1 7 (.istore_n 1) 1 1, e1 8 (.aload_n 0) 1 0, ei 9 (.invokevirtual 101) 3 21 120 1 3 1, e1 12 (.iload_n 1) 1 1, e1 13 (.ireturn) 1 0], 14)]
set_option maxRecDepth 100000 in
def K_X11_bit : List XB := [(0, [true], [ec 0 (.lconst 1) 1 1, e1 1 (.iload_n 0) 1 0, e0 2 (.lshl) 1, e0 3 (.lreturn) 1], 4)]
set_option maxRecDepth 100000 in
def K_X11_toldBy : List XB := [(0, [true, true, false], [e1 0 (.iload_n 0) 1 0, es 1 (.tableswitch 86 0 7 #[47, 59, 64, 69, 74, 86, 78, 82]) 47 0 87 [48, 60, 65, 70, 75, 87, 79, 83]], 48),
  (48, [false, true, false], [e1 48 (.lload_n 1) 1 1, ec 49 (.lconst 0) 1 0, e0 50 (.lcmp) 1, e1 51 (.ifCond .eq 7) 3 58, ec 54 (.lconst 1) 1 1, e1 55 (.goto 4) 3 59], 58),
  (58, [false, false, false], [ec 58 (.lconst 0) 1 0], 59),
  (59, [false, false, false], [e0 59 (.lreturn) 1], 60),
  (60, [false, true, false], [e1 60 (.lload_n 1) 1 1, e0 61 (.l2i) 1, e0 62 (.i2b) 1, e0 63 (.i2l) 1, e0 64 (.lreturn) 1], 65),
  (65, [false, true, false], [e1 65 (.lload_n 1) 1 1, e0 66 (.l2i) 1, e0 67 (.i2s) 1, e0 68 (.i2l) 1, e0 69 (.lreturn) 1], 70),
  (70, [false, true, false], [e1 70 (.lload_n 1) 1 1, e0 71 (.l2i) 1, e0 72 (.i2c) 1, e0 73 (.i2l) 1, e0 74 (.lreturn) 1], 75),
  (75, [false, true, false], [e1 75 (.lload_n 1) 1 1, e0 76 (.l2i) 1, e0 77 (.i2l) 1, e0 78 (.lreturn) 1], 79),
  (79, [false, true, false], [e1 79 (.lload_n 1) 1 1, e0 80 (.l2f) 1, e0 81 (.f2l) 1, e0 82 (.lreturn) 1], 83),
  (83, [false, true, false], [e1 83 (.lload_n 1) 1 1, e0 84 (.l2d) 1, e0 85 (.d2l) 1, e0 86 (.lreturn) 1], 87),
  (87, [false, true, false], [e1 87 (.lload_n 1) 1 1, e0 88 (.lreturn) 1], 89)]
set_option maxRecDepth 100000 in
def K_X12_init : List XB := [(0, [true], [e1 0 (.aload_n 0) 1 0, ei 1 (.invokespecial 1) 3 0 0 1 9 9, e1 4 (.aload_n 0) 1 0, ec 5 (.bipush 24) 2 24, e1 7 (.newarray .int) 2 1, e3 9 (.putfield 7) 3 22 2 2, e1 12 (.aload_n 0) 1 0, ec 13 (.bipush 12) 2 12, e1 15 (.newarray .int) 2 1, e3 17 (.putfield 13) 3 22 4 2, e1 20 (.aload_n 0) 1 0, ec 21 (.bipush 12) 2 12, e1 23 (.newarray .int) 2 1, e3 25 (.putfield 16) 3 22 5 2, e1 28 (.aload_n 0) 1 0, ec 29 (.bipush 12) 2 12, e1 31 (.newarray .int) 2 1, e3 33 (.putfield 19) 3 22 6 2, e1 36 (.aload_n 0) 1 0, ec 37 (.sipush 288) 3 288, e1 40 (.newarray .boolean) 2 3, e3 42 (.putfield 22) 3 22 7 2, e1 45 (.aload_n 0) 1 0, ec 46 (.sipush 288) 3 288, e1 49 (.newarray .long) 2 2, e3 51 (.putfield 26) 3 22 8 2, e1 54 (.aload_n 0) 1 0, ec 55 (.bipush 64) 2 64, e1 57 (.newarray .int) 2 1, e3 59 (.putfield 30) 3 22 10 2, e1 62 (.aload_n 0) 1 0, ec 63 (.bipush 64) 2 64, e1 65 (.newarray .int) 2 1, e3 67 (.putfield 33) 3 22 11 2, e1 70 (.aload_n 0) 1 0, ec 71 (.bipush 64) 2 64, e1 73 (.newarray .int) 2 1, e3 75 (.putfield 36) 3 22 12 2, e1 78 (.aload_n 0) 1 0, ec 79 (.bipush 64) 2 64, e1 81 (.newarray .int) 2 1, e3 83 (.putfield 39) 3 22 13 2, e1 86 (.aload_n 0) 1 0, ec 87 (.bipush 64) 2 64, e1 89 (.newarray .boolean) 2 3, e3 91 (.putfield 42) 3 22 14 2, e1 94 (.aload_n 0) 1 0, ec 95 (.sipush 384) 3 384, e1 98 (.newarray .int) 2 1, e3 100 (.putfield 45) 3 22 15 2, e1 103 (.aload_n 0) 1 0, ec 104 (.sipush 384) 3 384, e1 107 (.newarray .int) 2 1, e3 109 (.putfield 48) 3 22 16 2, e1 112 (.aload_n 0) 1 0, ec 113 (.bipush 64) 2 64, e1 115 (.newarray .int) 2 1, e3 117 (.putfield 51) 3 22 17 2, e1 120 (.aload_n 0) 1 0, ec 121 (.bipush 64) 2 64, e1 123 (.newarray .long) 2 2, e3 125 (.putfield 54) 3 22 18 2, e1 128 (.aload_n 0) 1 0, ec 129 (.bipush 64) 2 64, e1 131 (.newarray .int) 2 1, e3 133 (.putfield 57) 3 22 19 2, e1 136 (.aload_n 0) 1 0, ec 137 (.sipush 768) 3 768, e1 140 (.newarray .int) 2 1, e3 142 (.putfield 60) 3 22 20 2, e1 145 (.aload_n 0) 1 0, ec 146 (.sipush 768) 3 768, e1 149 (.newarray .long) 2 2, e3 151 (.putfield 63) 3 22 21 2, e1 154 (.aload_n 0) 1 0, ec 155 (.sipush 300) 3 300, e1 158 (.newarray .int) 2 1, e3 160 (.putfield 66) 3 22 23 2, e1 163 (.aload_n 0) 1 0, ec 164 (.sipush 300) 3 300, e1 167 (.newarray .int) 2 1, e3 169 (.putfield 69) 3 22 24 2, e1 172 (.aload_n 0) 1 0, ec 173 (.sipush 300) 3 300, e1 176 (.newarray .int) 2 1, e3 178 (.putfield 72) 3 22 25 2, e1 181 (.aload_n 0) 1 0, ec 182 (.sipush 300) 3 300, e1 185 (.newarray .int) 2 1, e3 187 (.putfield 75) 3 22 26 2, e1 190 (.aload_n 0) 1 0, ec 191 (.bipush 64) 2 64, e1 193 (.newarray .int) 2 1, e3 195 (.putfield 78) 3 22 28 2, e1 198 (.aload_n 0) 1 0, ec 199 (.bipush 8) 2 8, e1 201 (.newarray .int) 2 1, e3 203 (.putfield 81) 3 22 30 2, e1 206 (.aload_n 0) 1 0, ec 207 (.bipush 64) 2 64, e1 209 (.newarray .int) 2 1, e3 211 (.putfield 84) 3 22 31 2, e1 214 (.aload_n 0) 1 0, ec 215 (.bipush 64) 2 64, e1 217 (.newarray .int) 2 1, e3 219 (.putfield 87) 3 22 32 2, e1 222 (.aload_n 0) 1 0, ec 223 (.bipush 64) 2 64, e1 225 (.newarray .int) 2 1, e3 227 (.putfield 90) 3 22 33 2, e1 230 (.aload_n 0) 1 0, ec 231 (.sipush 4096) 3 4096, e1 234 (.newarray .boolean) 2 3, e3 236 (.putfield 93) 3 22 34 2, e1 239 (.aload_n 0) 1 0, ec 240 (.sipush 512) 3 512, e1 243 (.newarray .int) 2 1, e3 245 (.putfield 96) 3 22 35 2, e1 248 (.aload_n 0) 1 0, ec 249 (.sipush 512) 3 512, e1 252 (.newarray .int) 2 1, e3 254 (.putfield 99) 3 22 36 2, e1 257 (.aload_n 0) 1 0, ec 258 (.sipush 512) 3 512, e1 261 (.newarray .int) 2 1, e3 263 (.putfield 102) 3 22 37 2, e1 266 (.aload_n 0) 1 0, ec 267 (.sipush 512) 3 512, e1 270 (.newarray .int) 2 1, e3 272 (.putfield 105) 3 22 38 2, e1 275 (.aload_n 0) 1 0, ec 276 (.bipush 10) 2 10, e1 278 (.newarray .int) 2 1, e3 280 (.putfield 108) 3 22 40 2, e1 283 (.aload_n 0) 1 0, ec 284 (.bipush 10) 2 10, e1 286 (.newarray .int) 2 1, e3 288 (.putfield 111) 3 22 41 2, e1 291 (.aload_n 0) 1 0, ec 292 (.sipush 160) 3 160, e1 295 (.newarray .int) 2 1, e3 297 (.putfield 114) 3 22 42 2, e1 300 (.aload_n 0) 1 0, ec 301 (.bipush 16) 2 16, e1 303 (.newarray .int) 2 1, e3 305 (.putfield 117) 3 22 43 2, e1 308 (.aload_n 0) 1 0, ec 309 (.bipush 6) 2 6, e1 311 (.newarray .int) 2 1, e3 313 (.putfield 120) 3 22 46 2, e1 316 (.aload_n 0) 1 0, ec 317 (.bipush 6) 2 6, e1 319 (.newarray .int) 2 1, e3 321 (.putfield 123) 3 22 47 2, e1 324 (.aload_n 0) 1 0, ec 325 (.bipush 30) 2 30, e1 327 (.newarray .int) 2 1, e3 329 (.putfield 126) 3 22 48 2, e1 332 (.aload_n 0) 1 0, ec 333 (.sipush 480) 3 480, e1 336 (.newarray .boolean) 2 3, e3 338 (.putfield 129) 3 22 49 2, e1 341 (.aload_n 0) 1 0, ec 342 (.sipush 480) 3 480, e1 345 (.newarray .long) 2 2, e3 347 (.putfield 132) 3 22 50 2, e1 350 (.aload_n 0) 1 0, ec 351 (.sipush 480) 3 480, e1 354 (.newarray .double) 2 4, e3 356 (.putfield 135) 3 22 51 2, e1 359 (.aload_n 0) 1 0, ec 360 (.bipush 16) 2 16, e1 362 (.newarray .int) 2 1, e3 364 (.putfield 139) 3 22 52 2, e1 367 (.aload_n 0) 1 0, ec 368 (.bipush 80) 2 80, e1 370 (.newarray .boolean) 2 3, e3 372 (.putfield 142) 3 22 53 2, e1 375 (.aload_n 0) 1 0, ec 376 (.bipush 80) 2 80, e1 378 (.newarray .long) 2 2, e3 380 (.putfield 145) 3 22 54 2, e1 383 (.aload_n 0) 1 0, ec 384 (.bipush 80) 2 80, e1 386 (.newarray .double) 2 4, e3 388 (.putfield 148) 3 22 55 2, e1 391 (.aload_n 0) 1 0, ec 392 (.sipush 2048) 3 2048, e1 395 (.newarray .int) 2 1, e3 397 (.putfield 151) 3 22 57 2, e1 400 (.aload_n 0) 1 0, ei 401 (.invokevirtual 154) 3 22 191 1 3 2, e0 404 (.return_) 1], 405)]
set_option maxRecDepth 100000 in
def K_X12_in : List XB := [(0, [true, false, true, false, true, false], [e1 0 (.lload_n 0) 1 0, e1 1 (.lload_n 2) 1 2, e0 2 (.lcmp) 1, e1 3 (.ifCond .lt 14) 3 17, e1 6 (.lload_n 0) 1 0, e1 7 (.lload 4) 2 4, e0 9 (.lcmp) 1, e1 10 (.ifCond .gt 7) 3 17, ec 13 (.iconst 1) 1 1, e1 14 (.goto 4) 3 18], 17),
  (17, [false, false, false, false, false, false], [ec 17 (.iconst 0) 1 0], 18),
  (18, [false, false, false, false, false, false], [e1 18 (.ireturn) 1 1], 19)]
set_option maxRecDepth 100000 in
def K_X12_faulty : List XB := [(0, [true, true], [e1 0 (.aload_n 0) 1 0, ec 1 (.bipush (-10)) 2 (-10), e1 3 (.iload_n 1) 1 1, e0 4 (.isub) 1, e3 5 (.putfield 157) 3 22 0 0, e1 8 (.iload_n 1) 1 1, e1 9 (.ireturn) 1 0], 10)]
set_option maxRecDepth 100000 in
def K_X12_begin : List XB := [(0, [true, false], [e1 0 (.aload_n 0) 1 0, ec 1 (.iconst 0) 1 0, e3 2 (.putfield 157) 3 22 0 0, e1 5 (.aload_n 0) 1 0, ec 6 (.bipush 6) 2 6, e3 8 (.putfield 161) 3 22 1 0, ec 11 (.iconst 0) 1 0, e1 12 (.istore_n 1) 1 1], 13),
  (13, [true, true], [e1 13 (.iload_n 1) 1 1, ec 14 (.bipush 6) 2 6, e1 16 (.if_icmp .ge 25) 3 41, e1 19 (.aload_n 0) 1 0, e3 20 (.getfield 7) 3 22 2 2, e1 23 (.iload_n 1) 1 1, e1 24 (.iload_n 1) 1 1, ec 25 (.iconst 5) 1 5, e1 26 (.if_icmp .ne 7) 3 33, ec 29 (.iconst 4) 1 4, e1 30 (.goto 4) 3 34], 33),
  (33, [true, true], [ec 33 (.iconst 0) 1 0], 34),
  (34, [true, true], [e0 34 (.iastore) 1, ek 35 (.iinc 1 1) 3 1 1, e1 38 (.goto (-25)) 3 13], 41),
  (41, [true, false], [e1 41 (.aload_n 0) 1 0, ec 42 (.iconst 0) 1 0, e3 43 (.putfield 164) 3 22 3 0, e1 46 (.aload_n 0) 1 0, ec 47 (.iconst 0) 1 0, e3 48 (.putfield 167) 3 22 9 0, e1 51 (.aload_n 0) 1 0, ec 52 (.iconst 0) 1 0, e3 53 (.putfield 170) 3 22 22 0, e1 56 (.aload_n 0) 1 0, ec 57 (.iconst 0) 1 0, e3 58 (.putfield 173) 3 22 29 0, e1 61 (.aload_n 0) 1 0, ec 62 (.iconst 0) 1 0, e3 63 (.putfield 176) 3 22 39 0, e1 66 (.aload_n 0) 1 0, ec 67 (.iconst 0) 1 0, e3 68 (.putfield 179) 3 22 45 0, e1 71 (.aload_n 0) 1 0, ec 72 (.iconst 0) 1 0, e3 73 (.putfield 182) 3 22 56 0, e1 76 (.aload_n 0) 1 0, ec 77 (.iconst 0) 1 0, e3 78 (.putfield 185) 3 22 27 0, e1 81 (.aload_n 0) 1 0, ec 82 (.iconst 0) 1 0, e3 83 (.putfield 188) 3 22 44 0, ec 86 (.iconst 0) 1 0, e1 87 (.istore_n 1) 1 1], 88),
  (88, [true, true], [e1 88 (.iload_n 1) 1 1, ec 89 (.sipush 288) 3 288, e1 92 (.if_icmp .ge 16) 3 108, e1 95 (.aload_n 0) 1 0, e3 96 (.getfield 22) 3 22 7 2, e1 99 (.iload_n 1) 1 1, ec 100 (.iconst 0) 1 0, e0 101 (.bastore) 1, ek 102 (.iinc 1 1) 3 1 1, e1 105 (.goto (-17)) 3 88], 108),
  (108, [true, false], [ec 108 (.iconst 0) 1 0, e1 109 (.istore_n 1) 1 1], 110),
  (110, [true, true], [e1 110 (.iload_n 1) 1 1, ec 111 (.sipush 512) 3 512, e1 114 (.if_icmp .ge 32) 3 146, e1 117 (.aload_n 0) 1 0, e3 118 (.getfield 96) 3 22 35 2, e1 121 (.iload_n 1) 1 1, ec 122 (.iconst 0) 1 0, e0 123 (.iastore) 1, e1 124 (.aload_n 0) 1 0, e3 125 (.getfield 99) 3 22 36 2, e1 128 (.iload_n 1) 1 1, ec 129 (.bipush (-9)) 2 (-9), e0 131 (.iastore) 1, e1 132 (.aload_n 0) 1 0, e3 133 (.getfield 102) 3 22 37 2, e1 136 (.iload_n 1) 1 1, ec 137 (.bipush (-9)) 2 (-9), e0 139 (.iastore) 1, ek 140 (.iinc 1 1) 3 1 1, e1 143 (.goto (-33)) 3 110], 146),
  (146, [false, false], [e0 146 (.return_) 1], 147)]
set_option maxRecDepth 100000 in
def K_X12_isKind : List XB := [(0, [true, true], [e1 0 (.iload_n 1) 1 1, e0 1 (.i2l) 1, ec 2 (.lconst 0) 1 0, e1 3 (.aload_n 0) 1 0, e3 4 (.getfield 161) 3 22 1 0, ec 7 (.iconst 1) 1 1, e0 8 (.isub) 1, e0 9 (.i2l) 1, ei 10 (.invokestatic 191) 3 0 189 3 0 6, e1 13 (.ireturn) 1 1], 14)]
set_option maxRecDepth 100000 in
def K_X12_isProperty : List XB := [(0, [true, true], [e1 0 (.iload_n 1) 1 1, e0 1 (.i2l) 1, ec 2 (.lconst 0) 1 0, e1 3 (.aload_n 0) 1 0, e3 4 (.getfield 164) 3 22 3 0, ec 7 (.iconst 1) 1 1, e0 8 (.isub) 1, e0 9 (.i2l) 1, ei 10 (.invokestatic 191) 3 0 189 3 0 6, e1 13 (.ireturn) 1 1], 14)]
set_option maxRecDepth 100000 in
def K_X12_comesTo : List XB := [(0, [true, true, true, false], [e1 0 (.iload_n 1) 1 1, e1 1 (.istore_n 3) 1 3], 2),
  (2, [true, false, true, true], [e1 2 (.iload_n 3) 1 3, e1 3 (.iload_n 2) 1 2, e1 4 (.if_icmp .eq 17) 3 21, e1 7 (.iload_n 3) 1 3, e1 8 (.ifCond .eq 13) 3 21, e1 11 (.aload_n 0) 1 0, e3 12 (.getfield 7) 3 22 2 2, e1 15 (.iload_n 3) 1 3, e0 16 (.iaload) 1, e1 17 (.istore_n 3) 1 3, e1 18 (.goto (-16)) 3 2], 21),
  (21, [false, false, true, true], [e1 21 (.iload_n 3) 1 3, e1 22 (.iload_n 2) 1 2, e1 23 (.if_icmp .ne 7) 3 30, ec 26 (.iconst 1) 1 1, e1 27 (.goto 4) 3 31], 30),
  (30, [false, false, false, false], [ec 30 (.iconst 0) 1 0], 31),
  (31, [false, false, false, false], [e1 31 (.ireturn) 1 1], 32)]
set_option maxRecDepth 100000 in
def K_X12_baseOf : List XB := [(0, [true, true, false], [e1 0 (.iload_n 1) 1 1, e1 1 (.istore_n 2) 1 2], 2),
  (2, [true, false, true], [e1 2 (.iload_n 2) 1 2, ec 3 (.iconst 5) 1 5, e1 4 (.if_icmp .le 13) 3 17, e1 7 (.aload_n 0) 1 0, e3 8 (.getfield 7) 3 22 2 2, e1 11 (.iload_n 2) 1 2, e0 12 (.iaload) 1, e1 13 (.istore_n 2) 1 2, e1 14 (.goto (-12)) 3 2], 17),
  (17, [false, false, true], [e1 17 (.iload_n 2) 1 2, e1 18 (.ireturn) 1 0], 19)]
set_option maxRecDepth 100000 in
def K_X12_kind : List XB := [(0, [true, true], [e1 0 (.aload_n 0) 1 0, e1 1 (.iload_n 1) 1 1, ei 2 (.invokevirtual 195) 3 22 192 2 0 2, e1 5 (.ifCond .ne 5) 3 10, ec 8 (.iconst (-1)) 1 (-1), e1 9 (.ireturn) 1 0], 10),
  (10, [true, true], [e1 10 (.aload_n 0) 1 0, e3 11 (.getfield 161) 3 22 1 0, ec 14 (.bipush 24) 2 24, e1 16 (.if_icmp .ne 6) 3 22, ec 19 (.bipush (-4)) 2 (-4), e1 21 (.ireturn) 1 0], 22),
  (22, [true, true], [e1 22 (.aload_n 0) 1 0, e3 23 (.getfield 7) 3 22 2 2, e1 26 (.aload_n 0) 1 0, e3 27 (.getfield 161) 3 22 1 0, e1 30 (.iload_n 1) 1 1, e0 31 (.iastore) 1, e1 32 (.aload_n 0) 1 0, e0 33 (.dup) 1, e3 34 (.getfield 161) 3 22 1 0, ec 37 (.iconst 1) 1 1, e0 38 (.iadd) 1, e3 39 (.putfield 161) 3 22 1 0, e1 42 (.aload_n 0) 1 0, e3 43 (.getfield 161) 3 22 1 0, ec 46 (.iconst 1) 1 1, e0 47 (.isub) 1, e1 48 (.ireturn) 1 0], 49)]
set_option maxRecDepth 100000 in
def K_X12_is : List XB := [(0, [true, true, true], [e1 0 (.aload_n 0) 1 0, e1 1 (.iload_n 1) 1 1, ei 2 (.invokevirtual 195) 3 22 192 2 0 2, e1 5 (.ifCond .eq 11) 3 16, e1 8 (.aload_n 0) 1 0, e1 9 (.iload_n 2) 1 2, ei 10 (.invokevirtual 195) 3 22 192 2 0 2, e1 13 (.ifCond .ne 7) 3 20], 16),
  (16, [false, false, false], [ec 16 (.iconst (-1)) 1 (-1), e1 17 (.goto 17) 3 34], 20),
  (20, [true, true, true], [e1 20 (.aload_n 0) 1 0, e1 21 (.iload_n 1) 1 1, e1 22 (.iload_n 2) 1 2, ei 23 (.invokevirtual 199) 3 22 194 3 0 4, e1 26 (.ifCond .eq 7) 3 33, ec 29 (.iconst 1) 1 1, e1 30 (.goto 4) 3 34], 33),
  (33, [false, false, false], [ec 33 (.iconst 0) 1 0], 34),
  (34, [false, false, false], [e1 34 (.ireturn) 1 0], 35)]
set_option maxRecDepth 100000 in
def K_X12_property : List XB := [(0, [true, true, true, true, false], [e1 0 (.aload_n 0) 1 0, e1 1 (.iload_n 1) 1 1, ei 2 (.invokevirtual 195) 3 22 192 2 0 2, e1 5 (.ifCond .eq 17) 3 22, e1 8 (.iload_n 2) 1 2, ec 9 (.bipush 8) 2 8, e1 11 (.if_icmp .ne 13) 3 24, e1 14 (.aload_n 0) 1 0, e1 15 (.iload_n 3) 1 3, ei 16 (.invokevirtual 195) 3 22 192 2 0 2, e1 19 (.ifCond .ne 5) 3 24], 22),
  (22, [false, false, false, false, false], [ec 22 (.iconst (-1)) 1 (-1), e1 23 (.ireturn) 1 0], 24),
  (24, [true, true, true, true, false], [e1 24 (.iload_n 2) 1 2, e0 25 (.i2l) 1, ec 26 (.lconst 0) 1 0, ec 27 (.ldc2_w 203) 3 8, ei 30 (.invokestatic 191) 3 0 189 3 0 6, e1 33 (.ifCond .ne 6) 3 39, ec 36 (.bipush (-2)) 2 (-2), e1 38 (.ireturn) 1 0], 39),
  (39, [true, true, true, true, false], [e1 39 (.aload_n 0) 1 0, e3 40 (.getfield 164) 3 22 3 0, ec 43 (.bipush 12) 2 12, e1 45 (.if_icmp .ne 6) 3 51, ec 48 (.bipush (-4)) 2 (-4), e1 50 (.ireturn) 1 0], 51),
  (51, [true, true, true, true, false], [e1 51 (.aload_n 0) 1 0, e3 52 (.getfield 13) 3 22 4 2, e1 55 (.aload_n 0) 1 0, e3 56 (.getfield 164) 3 22 3 0, e1 59 (.iload_n 1) 1 1, e0 60 (.iastore) 1, e1 61 (.aload_n 0) 1 0, e3 62 (.getfield 16) 3 22 5 2, e1 65 (.aload_n 0) 1 0, e3 66 (.getfield 164) 3 22 3 0, e1 69 (.iload_n 2) 1 2, e0 70 (.iastore) 1, e1 71 (.aload_n 0) 1 0, e3 72 (.getfield 19) 3 22 6 2, e1 75 (.aload_n 0) 1 0, e3 76 (.getfield 164) 3 22 3 0, e1 79 (.iload_n 2) 1 2, ec 80 (.bipush 8) 2 8, e1 82 (.if_icmp .ne 11) 3 93, e1 85 (.aload_n 0) 1 0, e1 86 (.iload_n 3) 1 3, ei 87 (.invokevirtual 205) 3 22 195 2 0 3, e1 90 (.goto 4) 3 94], 93),
  (93, [true, false, false, false, false], [ec 93 (.iconst 0) 1 0], 94),
  (94, [true, false, false, false, false], [e0 94 (.iastore) 1, ec 95 (.iconst 0) 1 0, e1 96 (.istore 4) 2 4], 98),
  (98, [true, false, false, false, true], [e1 98 (.iload 4) 2 4, ec 100 (.bipush 64) 2 64, e1 102 (.if_icmp .ge 26) 3 128, e1 105 (.aload_n 0) 1 0, e3 106 (.getfield 60) 3 22 20 2, ec 109 (.bipush 64) 2 64, e1 111 (.aload_n 0) 1 0, e3 112 (.getfield 164) 3 22 3 0, e0 115 (.imul) 1, e1 116 (.iload 4) 2 4, e0 118 (.iadd) 1, ec 119 (.bipush (-9)) 2 (-9), e0 121 (.iastore) 1, ek 122 (.iinc 4 1) 3 1 4, e1 125 (.goto (-27)) 3 98], 128),
  (128, [true, false, false, false, false], [e1 128 (.aload_n 0) 1 0, e0 129 (.dup) 1, e3 130 (.getfield 164) 3 22 3 0, ec 133 (.iconst 1) 1 1, e0 134 (.iadd) 1, e3 135 (.putfield 164) 3 22 3 0, e1 138 (.aload_n 0) 1 0, e3 139 (.getfield 164) 3 22 3 0, ec 142 (.iconst 1) 1 1, e0 143 (.isub) 1, e1 144 (.ireturn) 1 0], 145)]
set_option maxRecDepth 100000 in
def K_X12_cell : List XB := [(0, [true, true, false], [e1 0 (.iload_n 0) 1 0, es 1 (.tableswitch 87 0 7 #[47, 59, 64, 69, 75, 87, 79, 83]) 47 0 88 [48, 60, 65, 70, 76, 88, 80, 84]], 48),
  (48, [false, true, false], [e1 48 (.lload_n 1) 1 1, ec 49 (.lconst 0) 1 0, e0 50 (.lcmp) 1, e1 51 (.ifCond .ne 7) 3 58, ec 54 (.lconst 0) 1 0, e1 55 (.goto 4) 3 59], 58),
  (58, [false, false, false], [ec 58 (.lconst 1) 1 1], 59),
  (59, [false, false, false], [e0 59 (.lreturn) 1], 60),
  (60, [false, true, false], [e1 60 (.lload_n 1) 1 1, e0 61 (.l2i) 1, e0 62 (.i2b) 1, e0 63 (.i2l) 1, e0 64 (.lreturn) 1], 65),
  (65, [false, true, false], [e1 65 (.lload_n 1) 1 1, e0 66 (.l2i) 1, e0 67 (.i2s) 1, e0 68 (.i2l) 1, e0 69 (.lreturn) 1], 70),
  (70, [false, true, false], [e1 70 (.lload_n 1) 1 1, ec 71 (.ldc2_w 209) 3 65535, e0 74 (.land) 1, e0 75 (.lreturn) 1], 76),
  (76, [false, true, false], [e1 76 (.lload_n 1) 1 1, e0 77 (.l2i) 1, e0 78 (.i2l) 1, e0 79 (.lreturn) 1], 80),
  (80, [false, true, false], [e1 80 (.lload_n 1) 1 1, e0 81 (.l2f) 1, e0 82 (.f2l) 1, e0 83 (.lreturn) 1], 84),
  (84, [false, true, false], [e1 84 (.lload_n 1) 1 1, e0 85 (.l2d) 1, e0 86 (.d2l) 1, e0 87 (.lreturn) 1], 88),
  (88, [false, true, false], [e1 88 (.lload_n 1) 1 1, e0 89 (.lreturn) 1], 90)]
set_option maxRecDepth 100000 in
def K_X12_isUnknown : List XB := [(0, [true, true, true, false], [e1 0 (.aload_n 0) 1 0, e3 1 (.getfield 16) 3 22 5 2, e1 4 (.iload_n 1) 1 1, e0 5 (.iaload) 1, ec 6 (.bipush 8) 2 8, e1 8 (.if_icmp .ne 30) 3 38, e1 11 (.lload_n 2) 1 2, ec 12 (.ldc2_w 211) 3 (-9), e0 15 (.lcmp) 1, e1 16 (.ifCond .eq 22) 3 38, e1 19 (.lload_n 2) 1 2, ec 20 (.lconst 0) 1 0, e1 21 (.aload_n 0) 1 0, e3 22 (.getfield 167) 3 22 9 0, e0 25 (.i2l) 1, ec 26 (.lconst 1) 1 1, e0 27 (.lsub) 1, ei 28 (.invokestatic 191) 3 0 189 3 0 6, e1 31 (.ifCond .ne 7) 3 38, ec 34 (.iconst 1) 1 1, e1 35 (.goto 4) 3 39], 38),
  (38, [false, false, false, false], [ec 38 (.iconst 0) 1 0], 39),
  (39, [false, false, false, false], [e1 39 (.ireturn) 1 1], 40)]
set_option maxRecDepth 100000 in
def K_X12_isStored : List XB := [(0, [true, true, true, false], [e1 0 (.aload_n 0) 1 0, e3 1 (.getfield 16) 3 22 5 2, e1 4 (.iload_n 1) 1 1, e0 5 (.iaload) 1, ec 6 (.bipush 8) 2 8, e1 8 (.if_icmp .ne 35) 3 43, e1 11 (.lload_n 2) 1 2, ec 12 (.ldc2_w 211) 3 (-9), e0 15 (.lcmp) 1, e1 16 (.ifCond .eq 27) 3 43, e1 19 (.aload_n 0) 1 0, e1 20 (.aload_n 0) 1 0, e1 21 (.aload_n 0) 1 0, e3 22 (.getfield 30) 3 22 10 2, e1 25 (.lload_n 2) 1 2, e0 26 (.l2i) 1, e0 27 (.iaload) 1, ei 28 (.invokevirtual 205) 3 22 195 2 0 3, e1 31 (.aload_n 0) 1 0, e3 32 (.getfield 19) 3 22 6 2, e1 35 (.iload_n 1) 1 1, e0 36 (.iaload) 1, ei 37 (.invokevirtual 199) 3 22 194 3 0 4, e1 40 (.ifCond .eq 7) 3 47], 43),
  (43, [false, false, false, false], [ec 43 (.iconst 1) 1 1, e1 44 (.goto 4) 3 48], 47),
  (47, [false, false, false, false], [ec 47 (.iconst 0) 1 0], 48),
  (48, [false, false, false, false], [e1 48 (.ireturn) 1 1], 49)]
set_option maxRecDepth 100000 in
def K_X12_usual : List XB := [(0, [true, true, true, true, false], [e1 0 (.aload_n 0) 1 0, e1 1 (.iload_n 1) 1 1, ei 2 (.invokevirtual 195) 3 22 192 2 0 2, e1 5 (.ifCond .eq 20) 3 25, e1 8 (.aload_n 0) 1 0, e1 9 (.iload_n 2) 1 2, ei 10 (.invokevirtual 213) 3 22 193 2 0 2, e1 13 (.ifCond .eq 12) 3 25, e1 16 (.aload_n 0) 1 0, e1 17 (.iload_n 2) 1 2, e1 18 (.lload_n 3) 1 3, ei 19 (.invokevirtual 216) 3 22 200 3 0 4, e1 22 (.ifCond .eq 5) 3 27], 25),
  (25, [false, false, false, false, false], [ec 25 (.iconst (-1)) 1 (-1), e1 26 (.ireturn) 1 0], 27),
  (27, [true, true, true, true, false], [e1 27 (.aload_n 0) 1 0, e1 28 (.iload_n 1) 1 1, e1 29 (.aload_n 0) 1 0, e3 30 (.getfield 13) 3 22 4 2, e1 33 (.iload_n 2) 1 2, e0 34 (.iaload) 1, ei 35 (.invokevirtual 199) 3 22 194 3 0 4, e1 38 (.ifCond .ne 6) 3 44, ec 41 (.bipush (-3)) 2 (-3), e1 43 (.ireturn) 1 0], 44),
  (44, [true, true, true, true, false], [e1 44 (.aload_n 0) 1 0, e1 45 (.iload_n 2) 1 2, e1 46 (.lload_n 3) 1 3, ei 47 (.invokevirtual 220) 3 22 201 3 0 4, e1 50 (.ifCond .ne 10) 3 60, e1 53 (.aload_n 0) 1 0, ec 54 (.bipush (-14)) 2 (-14), ei 56 (.invokevirtual 223) 3 22 190 2 0 2, e1 59 (.ireturn) 1 0], 60),
  (60, [true, true, true, true, false], [e1 60 (.aload_n 0) 1 0, e3 61 (.getfield 22) 3 22 7 2, ec 64 (.bipush 12) 2 12, e1 66 (.iload_n 1) 1 1, e0 67 (.imul) 1, e1 68 (.iload_n 2) 1 2, e0 69 (.iadd) 1, ec 70 (.iconst 1) 1 1, e0 71 (.bastore) 1, e1 72 (.aload_n 0) 1 0, e3 73 (.getfield 26) 3 22 8 2, ec 76 (.bipush 12) 2 12, e1 78 (.iload_n 1) 1 1, e0 79 (.imul) 1, e1 80 (.iload_n 2) 1 2, e0 81 (.iadd) 1, e1 82 (.aload_n 0) 1 0, e3 83 (.getfield 16) 3 22 5 2, e1 86 (.iload_n 2) 1 2, e0 87 (.iaload) 1, e1 88 (.lload_n 3) 1 3, ei 89 (.invokestatic 226) 3 0 199 2 1 3, e0 92 (.lastore) 1, ec 93 (.iconst 1) 1 1, e1 94 (.ireturn) 1 0], 95)]
set_option maxRecDepth 100000 in
def K_X12_isThing : List XB := [(0, [true, true, false], [e1 0 (.lload_n 1) 1 1, ec 1 (.lconst 0) 1 0, e1 2 (.aload_n 0) 1 0, e3 3 (.getfield 167) 3 22 9 0, e0 6 (.i2l) 1, ec 7 (.lconst 1) 1 1, e0 8 (.lsub) 1, ei 9 (.invokestatic 191) 3 0 189 3 0 6, e1 12 (.ireturn) 1 1], 13)]
set_option maxRecDepth 100000 in
def K_X12_base : List XB := [(0, [true, true], [e1 0 (.aload_n 0) 1 0, e1 1 (.aload_n 0) 1 0, e3 2 (.getfield 30) 3 22 10 2, e1 5 (.iload_n 1) 1 1, e0 6 (.iaload) 1, ei 7 (.invokevirtual 205) 3 22 195 2 0 3, e1 10 (.ireturn) 1 0], 11)]
set_option maxRecDepth 100000 in
def K_X12_isCarrier : List XB := [(0, [true, true], [e1 0 (.aload_n 0) 1 0, e1 1 (.iload_n 1) 1 1, ei 2 (.invokevirtual 230) 3 22 204 2 0 2, ec 5 (.iconst 4) 1 4, e1 6 (.if_icmp .eq 12) 3 18, e1 9 (.aload_n 0) 1 0, e1 10 (.iload_n 1) 1 1, ei 11 (.invokevirtual 230) 3 22 204 2 0 2, ec 14 (.iconst 5) 1 5, e1 15 (.if_icmp .ne 7) 3 22], 18),
  (18, [false, false], [ec 18 (.iconst 1) 1 1, e1 19 (.goto 4) 3 23], 22),
  (22, [false, false], [ec 22 (.iconst 0) 1 0], 23),
  (23, [false, false], [e1 23 (.ireturn) 1 1], 24)]
set_option maxRecDepth 100000 in
def K_X12_isHolder : List XB := [(0, [true, true], [e1 0 (.aload_n 0) 1 0, e1 1 (.iload_n 1) 1 1, ei 2 (.invokevirtual 230) 3 22 204 2 0 2, ec 5 (.iconst 1) 1 1, e1 6 (.if_icmp .eq 11) 3 17, e1 9 (.aload_n 0) 1 0, e1 10 (.iload_n 1) 1 1, ei 11 (.invokevirtual 233) 3 22 205 2 0 2, e1 14 (.ifCond .eq 7) 3 21], 17),
  (17, [false, false], [ec 17 (.iconst 1) 1 1, e1 18 (.goto 4) 3 22], 21),
  (21, [false, false], [ec 21 (.iconst 0) 1 0], 22),
  (22, [false, false], [e1 22 (.ireturn) 1 1], 23)]
set_option maxRecDepth 100000 in
def K_X12_isFixed : List XB := [(0, [true, true], [e1 0 (.aload_n 0) 1 0, e1 1 (.iload_n 1) 1 1, ei 2 (.invokevirtual 230) 3 22 204 2 0 2, ec 5 (.iconst 1) 1 1, e1 6 (.if_icmp .eq 12) 3 18, e1 9 (.aload_n 0) 1 0, e1 10 (.iload_n 1) 1 1, ei 11 (.invokevirtual 230) 3 22 204 2 0 2, ec 14 (.iconst 2) 1 2, e1 15 (.if_icmp .ne 7) 3 22], 18),
  (18, [false, false], [ec 18 (.iconst 1) 1 1, e1 19 (.goto 4) 3 23], 22),
  (22, [false, false], [ec 22 (.iconst 0) 1 0], 23),
  (23, [false, false], [e1 23 (.ireturn) 1 1], 24)]
set_option maxRecDepth 100000 in
def K_X12_isBackdrop : List XB := [(0, [true, true], [e1 0 (.aload_n 0) 1 0, e1 1 (.iload_n 1) 1 1, ei 2 (.invokevirtual 230) 3 22 204 2 0 2, ec 5 (.iconst 3) 1 3, e1 6 (.if_icmp .ne 7) 3 13, ec 9 (.iconst 1) 1 1, e1 10 (.goto 4) 3 14], 13),
  (13, [false, false], [ec 13 (.iconst 0) 1 0], 14),
  (14, [false, false], [e1 14 (.ireturn) 1 1], 15)]
set_option maxRecDepth 100000 in
def K_X12_thing : List XB := [(0, [true, true, true, false], [e1 0 (.aload_n 0) 1 0, e1 1 (.iload_n 1) 1 1, ei 2 (.invokevirtual 195) 3 22 192 2 0 2, e1 5 (.ifCond .ne 5) 3 10, ec 8 (.iconst (-1)) 1 (-1), e1 9 (.ireturn) 1 0], 10),
  (10, [true, true, true, false], [e1 10 (.iload_n 2) 1 2, e0 11 (.i2l) 1, ec 12 (.lconst 0) 1 0, ec 13 (.ldc2_w 236) 3 1000, ei 16 (.invokestatic 191) 3 0 189 3 0 6, e1 19 (.ifCond .ne 6) 3 25, ec 22 (.bipush (-2)) 2 (-2), e1 24 (.ireturn) 1 0], 25),
  (25, [true, true, true, false], [e1 25 (.aload_n 0) 1 0, e3 26 (.getfield 167) 3 22 9 0, ec 29 (.bipush 64) 2 64, e1 31 (.if_icmp .ne 6) 3 37, ec 34 (.bipush (-4)) 2 (-4), e1 36 (.ireturn) 1 0], 37),
  (37, [true, true, true, false], [e1 37 (.aload_n 0) 1 0, e3 38 (.getfield 167) 3 22 9 0, e1 41 (.istore_n 3) 1 3, e1 42 (.aload_n 0) 1 0, e0 43 (.dup) 1, e3 44 (.getfield 167) 3 22 9 0, ec 47 (.iconst 1) 1 1, e0 48 (.iadd) 1, e3 49 (.putfield 167) 3 22 9 0, e1 52 (.aload_n 0) 1 0, e3 53 (.getfield 30) 3 22 10 2, e1 56 (.iload_n 3) 1 3, e1 57 (.iload_n 1) 1 1, e0 58 (.iastore) 1, e1 59 (.aload_n 0) 1 0, e3 60 (.getfield 33) 3 22 11 2, e1 63 (.iload_n 3) 1 3, e1 64 (.iload_n 2) 1 2, e0 65 (.iastore) 1, e1 66 (.aload_n 0) 1 0, e3 67 (.getfield 36) 3 22 12 2, e1 70 (.iload_n 3) 1 3, e1 71 (.iload_n 2) 1 2, e0 72 (.iastore) 1, e1 73 (.aload_n 0) 1 0, e3 74 (.getfield 39) 3 22 13 2, e1 77 (.iload_n 3) 1 3, e1 78 (.iload_n 2) 1 2, e0 79 (.iastore) 1, e1 80 (.aload_n 0) 1 0, e3 81 (.getfield 42) 3 22 14 2, e1 84 (.iload_n 3) 1 3, ec 85 (.iconst 0) 1 0, e0 86 (.bastore) 1, e1 87 (.aload_n 0) 1 0, e3 88 (.getfield 51) 3 22 17 2, e1 91 (.iload_n 3) 1 3, ec 92 (.iconst 0) 1 0, e0 93 (.iastore) 1, e1 94 (.aload_n 0) 1 0, e3 95 (.getfield 54) 3 22 18 2, e1 98 (.iload_n 3) 1 3, ec 99 (.lconst 0) 1 0, e0 100 (.lastore) 1, e1 101 (.aload_n 0) 1 0, e3 102 (.getfield 57) 3 22 19 2, e1 105 (.iload_n 3) 1 3, ec 106 (.bipush (-9)) 2 (-9), e0 108 (.iastore) 1, e1 109 (.iload_n 3) 1 3, e1 110 (.ireturn) 1 0], 111)]
set_option maxRecDepth 100000 in
def K_X12_tell : List XB := [(0, [true, true, true, true, true], [e1 0 (.aload_n 0) 1 0, e3 1 (.getfield 66) 3 22 23 2, e1 4 (.aload_n 0) 1 0, e3 5 (.getfield 170) 3 22 22 0, e1 8 (.iload_n 1) 1 1, e0 9 (.iastore) 1, e1 10 (.aload_n 0) 1 0, e3 11 (.getfield 69) 3 22 24 2, e1 14 (.aload_n 0) 1 0, e3 15 (.getfield 170) 3 22 22 0, e1 18 (.iload_n 2) 1 2, e0 19 (.iastore) 1, e1 20 (.aload_n 0) 1 0, e3 21 (.getfield 72) 3 22 25 2, e1 24 (.aload_n 0) 1 0, e3 25 (.getfield 170) 3 22 22 0, e1 28 (.iload_n 3) 1 3, e0 29 (.iastore) 1, e1 30 (.aload_n 0) 1 0, e3 31 (.getfield 75) 3 22 26 2, e1 34 (.aload_n 0) 1 0, e3 35 (.getfield 170) 3 22 22 0, e1 38 (.iload 4) 2 4, e0 40 (.iastore) 1, e1 41 (.aload_n 0) 1 0, e0 42 (.dup) 1, e3 43 (.getfield 170) 3 22 22 0, ec 46 (.iconst 1) 1 1, e0 47 (.iadd) 1, e3 48 (.putfield 170) 3 22 22 0, e1 51 (.aload_n 0) 1 0, e3 52 (.getfield 170) 3 22 22 0, ec 55 (.iconst 1) 1 1, e0 56 (.isub) 1, e1 57 (.ireturn) 1 0], 58)]
set_option maxRecDepth 100000 in
def K_X12_against : List XB := [(0, [true], [ec 0 (.bipush (-100)) 2 (-100), e1 2 (.iload_n 0) 1 0, e0 3 (.isub) 1, e1 4 (.ireturn) 1 0], 5)]
set_option maxRecDepth 100000 in
def K_X12_first : List XB := [(0, [true, true, true, true, false], [ec 0 (.iconst 0) 1 0, e1 1 (.istore 4) 2 4], 3),
  (3, [true, true, true, true, true], [e1 3 (.iload 4) 2 4, e1 5 (.aload_n 0) 1 0, e3 6 (.getfield 170) 3 22 22 0, e1 9 (.if_icmp .ge 45) 3 54, e1 12 (.aload_n 0) 1 0, e3 13 (.getfield 66) 3 22 23 2, e1 16 (.iload 4) 2 4, e0 18 (.iaload) 1, e1 19 (.iload_n 1) 1 1, e1 20 (.if_icmp .ne 28) 3 48, e1 23 (.aload_n 0) 1 0, e3 24 (.getfield 69) 3 22 24 2, e1 27 (.iload 4) 2 4, e0 29 (.iaload) 1, e1 30 (.iload_n 2) 1 2, e1 31 (.if_icmp .ne 17) 3 48, e1 34 (.aload_n 0) 1 0, e3 35 (.getfield 72) 3 22 25 2, e1 38 (.iload 4) 2 4, e0 40 (.iaload) 1, e1 41 (.iload_n 3) 1 3, e1 42 (.if_icmp .ne 6) 3 48, e1 45 (.iload 4) 2 4, e1 47 (.ireturn) 1 0], 48),
  (48, [true, true, true, true, true], [ek 48 (.iinc 4 1) 3 1 4, e1 51 (.goto (-48)) 3 3], 54),
  (54, [false, false, false, false, false], [ec 54 (.bipush (-9)) 2 (-9), e1 56 (.ireturn) 1 0], 57)]
set_option maxRecDepth 100000 in
def K_X12_latestAmong : List XB := [(0, [true, true, false, false], [ec 0 (.bipush (-9)) 2 (-9), e1 2 (.istore_n 2) 1 2, ec 3 (.iconst 0) 1 0, e1 4 (.istore_n 3) 1 3], 5),
  (5, [true, true, true, true], [e1 5 (.iload_n 3) 1 3, e1 6 (.aload_n 0) 1 0, e3 7 (.getfield 170) 3 22 22 0, e1 10 (.if_icmp .ge 35) 3 45, e1 13 (.aload_n 0) 1 0, e3 14 (.getfield 66) 3 22 23 2, e1 17 (.iload_n 3) 1 3, e0 18 (.iaload) 1, ec 19 (.iconst 3) 1 3, e1 20 (.if_icmp .ne 17) 3 37, e1 23 (.aload_n 0) 1 0, e3 24 (.getfield 69) 3 22 24 2, e1 27 (.iload_n 3) 1 3, e0 28 (.iaload) 1, e1 29 (.iload_n 1) 1 1, e1 30 (.if_icmp .ne 7) 3 37, e1 33 (.iload_n 3) 1 3, e1 34 (.goto 4) 3 38], 37),
  (37, [true, true, true, true], [e1 37 (.iload_n 2) 1 2], 38),
  (38, [true, true, false, true], [e1 38 (.istore_n 2) 1 2, ek 39 (.iinc 3 1) 3 1 3, e1 42 (.goto (-37)) 3 5], 45),
  (45, [false, false, true, false], [e1 45 (.iload_n 2) 1 2, e1 46 (.ireturn) 1 0], 47)]
set_option maxRecDepth 100000 in
def K_X12_isWithin : List XB := [(0, [true, true, true, false], [e1 0 (.iload_n 1) 1 1, e1 1 (.istore_n 3) 1 3], 2),
  (2, [true, false, true, true], [e1 2 (.iload_n 3) 1 3, e1 3 (.iload_n 2) 1 2, e1 4 (.if_icmp .eq 25) 3 29, e1 7 (.aload_n 0) 1 0, e3 8 (.getfield 51) 3 22 17 2, e1 11 (.iload_n 3) 1 3, e0 12 (.iaload) 1, e1 13 (.ifCond .le 16) 3 29, e1 16 (.aload_n 0) 1 0, e3 17 (.getfield 45) 3 22 15 2, ec 20 (.bipush 6) 2 6, e1 22 (.iload_n 3) 1 3, e0 23 (.imul) 1, e0 24 (.iaload) 1, e1 25 (.istore_n 3) 1 3, e1 26 (.goto (-24)) 3 2], 29),
  (29, [false, false, true, true], [e1 29 (.iload_n 3) 1 3, e1 30 (.iload_n 2) 1 2, e1 31 (.if_icmp .ne 7) 3 38, ec 34 (.iconst 1) 1 1, e1 35 (.goto 4) 3 39], 38),
  (38, [false, false, false, false], [ec 38 (.iconst 0) 1 0], 39),
  (39, [false, false, false, false], [e1 39 (.ireturn) 1 1], 40)]
set_option maxRecDepth 100000 in
def K_X12_placeOf : List XB := [(0, [true, true], [e1 0 (.aload_n 0) 1 0, e3 1 (.getfield 51) 3 22 17 2, e1 4 (.iload_n 1) 1 1, e0 5 (.iaload) 1, e1 6 (.ifCond .ne 8) 3 14, ec 9 (.bipush (-9)) 2 (-9), e1 11 (.goto 12) 3 23], 14),
  (14, [true, true], [e1 14 (.aload_n 0) 1 0, e3 15 (.getfield 45) 3 22 15 2, ec 18 (.bipush 6) 2 6, e1 20 (.iload_n 1) 1 1, e0 21 (.imul) 1, e0 22 (.iaload) 1], 23),
  (23, [false, false], [e1 23 (.ireturn) 1 0], 24)]
set_option maxRecDepth 100000 in
def K_X12_nth : List XB := [(0, [true, true, true, false], [ec 0 (.iconst 0) 1 0, e1 1 (.istore_n 3) 1 3], 2),
  (2, [true, true, true, true], [e1 2 (.iload_n 3) 1 3, e1 3 (.aload_n 0) 1 0, e3 4 (.getfield 51) 3 22 17 2, e1 7 (.iload_n 1) 1 1, e0 8 (.iaload) 1, e1 9 (.if_icmp .ge 26) 3 35, e1 12 (.aload_n 0) 1 0, e3 13 (.getfield 45) 3 22 15 2, ec 16 (.bipush 6) 2 6, e1 18 (.iload_n 1) 1 1, e0 19 (.imul) 1, e1 20 (.iload_n 3) 1 3, e0 21 (.iadd) 1, e0 22 (.iaload) 1, e1 23 (.iload_n 2) 1 2, e1 24 (.if_icmp .ne 5) 3 29, e1 27 (.iload_n 3) 1 3, e1 28 (.ireturn) 1 0], 29),
  (29, [true, true, true, true], [ek 29 (.iinc 3 1) 3 1 3, e1 32 (.goto (-30)) 3 2], 35),
  (35, [false, false, false, false], [ec 35 (.bipush (-9)) 2 (-9), e1 37 (.ireturn) 1 0], 38)]
set_option maxRecDepth 100000 in
def K_X12_held : List XB := [(0, [true, true, false, false], [ec 0 (.iconst 0) 1 0, e1 1 (.istore_n 2) 1 2, ec 2 (.iconst 0) 1 0, e1 3 (.istore_n 3) 1 3], 4),
  (4, [true, true, true, true], [e1 4 (.iload_n 3) 1 3, e1 5 (.aload_n 0) 1 0, e3 6 (.getfield 167) 3 22 9 0, e1 9 (.if_icmp .ge 34) 3 43, e1 12 (.iload_n 2) 1 2, e1 13 (.aload_n 0) 1 0, e1 14 (.iload_n 3) 1 3, ei 15 (.invokevirtual 238) 3 22 208 2 0 2, e1 18 (.ifCond .ne 16) 3 34, e1 21 (.aload_n 0) 1 0, e1 22 (.iload_n 3) 1 3, ei 23 (.invokevirtual 241) 3 22 215 2 0 2, e1 26 (.iload_n 1) 1 1, e1 27 (.if_icmp .ne 7) 3 34, ec 30 (.iconst 1) 1 1, e1 31 (.goto 4) 3 35], 34),
  (34, [true, true, false, true], [ec 34 (.iconst 0) 1 0], 35),
  (35, [true, true, false, true], [e0 35 (.iadd) 1, e1 36 (.istore_n 2) 1 2, ek 37 (.iinc 3 1) 3 1 3, e1 40 (.goto (-36)) 3 4], 43),
  (43, [false, false, true, false], [e1 43 (.iload_n 2) 1 2, e1 44 (.ireturn) 1 0], 45)]
set_option maxRecDepth 100000 in
def K_X12_pairAgainst : List XB := [(0, [true, true, true, false, false, false], [ec 0 (.iconst 0) 1 0, e1 1 (.istore_n 3) 1 3], 2),
  (2, [true, true, true, true, false, false], [e1 2 (.iload_n 3) 1 3, e1 3 (.aload_n 0) 1 0, e3 4 (.getfield 170) 3 22 22 0, e1 7 (.if_icmp .ge 112) 3 119, e1 10 (.aload_n 0) 1 0, e3 11 (.getfield 66) 3 22 23 2, e1 14 (.iload_n 3) 1 3, e0 15 (.iaload) 1, ec 16 (.iconst 4) 1 4, e1 17 (.if_icmp .ne 96) 3 113, e1 20 (.aload_n 0) 1 0, e3 21 (.getfield 69) 3 22 24 2, e1 24 (.iload_n 3) 1 3, e0 25 (.iaload) 1, e1 26 (.iload_n 1) 1 1, e1 27 (.if_icmp .eq 13) 3 40, e1 30 (.aload_n 0) 1 0, e3 31 (.getfield 72) 3 22 25 2, e1 34 (.iload_n 3) 1 3, e0 35 (.iaload) 1, e1 36 (.iload_n 1) 1 1, e1 37 (.if_icmp .ne 76) 3 113], 40),
  (40, [true, true, true, true, false, false], [e1 40 (.aload_n 0) 1 0, e3 41 (.getfield 69) 3 22 24 2, e1 44 (.iload_n 3) 1 3, e0 45 (.iaload) 1, e1 46 (.iload_n 1) 1 1, e1 47 (.if_icmp .ne 12) 3 59, e1 50 (.aload_n 0) 1 0, e3 51 (.getfield 72) 3 22 25 2, e1 54 (.iload_n 3) 1 3, e0 55 (.iaload) 1, e1 56 (.goto 9) 3 65], 59),
  (59, [true, true, true, true, false, false], [e1 59 (.aload_n 0) 1 0, e3 60 (.getfield 69) 3 22 24 2, e1 63 (.iload_n 3) 1 3, e0 64 (.iaload) 1], 65),
  (65, [true, true, true, true, false, false], [e1 65 (.istore 4) 2 4, e1 67 (.aload_n 0) 1 0, e1 68 (.iload 4) 2 4, ei 70 (.invokevirtual 241) 3 22 215 2 0 2, e1 73 (.istore 5) 2 5, e1 75 (.iload 5) 2 5, ec 77 (.bipush (-9)) 2 (-9), e1 79 (.if_icmp .eq 34) 3 113, e1 82 (.iload 5) 2 5, e1 84 (.iload_n 2) 1 2, e1 85 (.if_icmp .ne 7) 3 92, ec 88 (.iconst 1) 1 1, e1 89 (.goto 4) 3 93], 92),
  (92, [true, true, true, true, false, false], [ec 92 (.iconst 0) 1 0], 93),
  (93, [true, true, true, true, false, false], [e1 93 (.aload_n 0) 1 0, e3 94 (.getfield 75) 3 22 26 2, e1 97 (.iload_n 3) 1 3, e0 98 (.iaload) 1, ec 99 (.iconst 1) 1 1, e1 100 (.if_icmp .ne 7) 3 107, ec 103 (.iconst 1) 1 1, e1 104 (.goto 4) 3 108], 107),
  (107, [true, true, true, true, false, false], [ec 107 (.iconst 0) 1 0], 108),
  (108, [true, true, true, true, false, false], [e1 108 (.if_icmp .eq 5) 3 113, e1 111 (.iload_n 3) 1 3, e1 112 (.ireturn) 1 0], 113),
  (113, [true, true, true, true, false, false], [ek 113 (.iinc 3 1) 3 1 3, e1 116 (.goto (-114)) 3 2], 119),
  (119, [false, false, false, false, false, false], [ec 119 (.bipush (-9)) 2 (-9), e1 121 (.ireturn) 1 0], 122)]
set_option maxRecDepth 100000 in
def K_X12_putAgainst : List XB := [(0, [true, true, true, false, false], [e1 0 (.aload_n 0) 1 0, e1 1 (.iload_n 1) 1 1, ei 2 (.invokevirtual 238) 3 22 208 2 0 2, e1 5 (.istore_n 3) 1 3, e1 6 (.iload_n 3) 1 3, e1 7 (.ifCond .ne 22) 3 29, e1 10 (.aload_n 0) 1 0, e3 11 (.getfield 51) 3 22 17 2, e1 14 (.iload_n 1) 1 1, e0 15 (.iaload) 1, e1 16 (.ifCond .le 13) 3 29, e1 19 (.aload_n 0) 1 0, e3 20 (.getfield 48) 3 22 16 2, ec 23 (.bipush 6) 2 6, e1 25 (.iload_n 1) 1 1, e0 26 (.imul) 1, e0 27 (.iaload) 1, e1 28 (.ireturn) 1 0], 29),
  (29, [true, true, true, true, false], [e1 29 (.aload_n 0) 1 0, ec 30 (.iconst 1) 1 1, e1 31 (.iload_n 1) 1 1, e1 32 (.iload_n 2) 1 2, ei 33 (.invokevirtual 244) 3 22 212 4 0 5, e1 36 (.istore 4) 2 4, e1 38 (.iload 4) 2 4, ec 40 (.bipush (-9)) 2 (-9), e1 42 (.if_icmp .eq 6) 3 48, e1 45 (.iload 4) 2 4, e1 47 (.ireturn) 1 0], 48),
  (48, [true, true, true, true, false], [e1 48 (.aload_n 0) 1 0, e3 49 (.getfield 54) 3 22 18 2, e1 52 (.iload_n 1) 1 1, e0 53 (.laload) 1, ec 54 (.lconst 0) 1 0, e0 55 (.lcmp) 1, e1 56 (.ifCond .eq 24) 3 80, e1 59 (.aload_n 0) 1 0, e3 60 (.getfield 54) 3 22 18 2, e1 63 (.iload_n 1) 1 1, e0 64 (.laload) 1, e1 65 (.iload_n 2) 1 2, e0 66 (.lushr) 1, ec 67 (.lconst 1) 1 1, e0 68 (.land) 1, ec 69 (.lconst 0) 1 0, e0 70 (.lcmp) 1, e1 71 (.ifCond .ne 9) 3 80, e1 74 (.aload_n 0) 1 0, e1 75 (.iload_n 1) 1 1, ei 76 (.invokevirtual 248) 3 22 213 2 0 4, e1 79 (.ireturn) 1 0], 80),
  (80, [true, true, true, true, false], [e1 80 (.iload_n 3) 1 3, e1 81 (.ifCond .ne 40) 3 121, e1 84 (.aload_n 0) 1 0, e3 85 (.getfield 57) 3 22 19 2, e1 88 (.iload_n 2) 1 2, e0 89 (.iaload) 1, ec 90 (.bipush (-9)) 2 (-9), e1 92 (.if_icmp .eq 29) 3 121, e1 95 (.aload_n 0) 1 0, e1 96 (.iload_n 2) 1 2, ei 97 (.invokevirtual 251) 3 22 217 2 0 4, e1 100 (.aload_n 0) 1 0, e3 101 (.getfield 72) 3 22 25 2, e1 104 (.aload_n 0) 1 0, e3 105 (.getfield 57) 3 22 19 2, e1 108 (.iload_n 2) 1 2, e0 109 (.iaload) 1, e0 110 (.iaload) 1, e1 111 (.if_icmp .lt 10) 3 121, e1 114 (.aload_n 0) 1 0, e3 115 (.getfield 57) 3 22 19 2, e1 118 (.iload_n 2) 1 2, e0 119 (.iaload) 1, e1 120 (.ireturn) 1 0], 121),
  (121, [true, true, true, false, false], [e1 121 (.aload_n 0) 1 0, e1 122 (.iload_n 1) 1 1, e1 123 (.iload_n 2) 1 2, ei 124 (.invokevirtual 254) 3 22 218 3 0 6, e1 127 (.ireturn) 1 0], 128)]
set_option maxRecDepth 100000 in
def K_X12_lies : List XB := [(0, [true, true, true, false], [e1 0 (.aload_n 0) 1 0, ec 1 (.iconst 0) 1 0, e1 2 (.iload_n 1) 1 1, e1 3 (.iload_n 2) 1 2, ec 4 (.iconst 0) 1 0, ei 5 (.invokevirtual 258) 3 22 210 5 0 5, e1 8 (.istore_n 3) 1 3, e1 9 (.aload_n 0) 1 0, e3 10 (.getfield 45) 3 22 15 2, ec 13 (.bipush 6) 2 6, e1 15 (.iload_n 1) 1 1, e0 16 (.imul) 1, e1 17 (.aload_n 0) 1 0, e3 18 (.getfield 51) 3 22 17 2, e1 21 (.iload_n 1) 1 1, e0 22 (.iaload) 1, e0 23 (.iadd) 1, e1 24 (.iload_n 2) 1 2, e0 25 (.iastore) 1, e1 26 (.aload_n 0) 1 0, e3 27 (.getfield 48) 3 22 16 2, ec 30 (.bipush 6) 2 6, e1 32 (.iload_n 1) 1 1, e0 33 (.imul) 1, e1 34 (.aload_n 0) 1 0, e3 35 (.getfield 51) 3 22 17 2, e1 38 (.iload_n 1) 1 1, e0 39 (.iaload) 1, e0 40 (.iadd) 1, e1 41 (.iload_n 3) 1 3, e0 42 (.iastore) 1, e1 43 (.aload_n 0) 1 0, e3 44 (.getfield 51) 3 22 17 2, e1 47 (.iload_n 1) 1 1, e0 48 (.dup2) 1, e0 49 (.iaload) 1, ec 50 (.iconst 1) 1 1, e0 51 (.iadd) 1, e0 52 (.iastore) 1, e1 53 (.iload_n 3) 1 3, e1 54 (.ireturn) 1 0], 55)]
set_option maxRecDepth 100000 in
def K_X12_put : List XB := [(0, [true, true, true, false, false], [e1 0 (.aload_n 0) 1 0, e1 1 (.iload_n 1) 1 1, e0 2 (.i2l) 1, ei 3 (.invokevirtual 262) 3 22 203 2 0 3, e1 6 (.ifCond .eq 12) 3 18, e1 9 (.aload_n 0) 1 0, e1 10 (.iload_n 2) 1 2, e0 11 (.i2l) 1, ei 12 (.invokevirtual 262) 3 22 203 2 0 3, e1 15 (.ifCond .ne 5) 3 20], 18),
  (18, [false, false, false, false, false], [ec 18 (.iconst (-1)) 1 (-1), e1 19 (.ireturn) 1 0], 20),
  (20, [true, true, true, false, false], [e1 20 (.aload_n 0) 1 0, e1 21 (.iload_n 1) 1 1, ei 22 (.invokevirtual 238) 3 22 208 2 0 2, e1 25 (.ifCond .eq 20) 3 45, e1 28 (.aload_n 0) 1 0, e1 29 (.iload_n 2) 1 2, ei 30 (.invokevirtual 230) 3 22 204 2 0 2, ec 33 (.iconst 1) 1 1, e1 34 (.if_icmp .ne 7) 3 41, ec 37 (.iconst 1) 1 1, e1 38 (.goto 12) 3 50], 41),
  (41, [true, true, true, false, false], [ec 41 (.iconst 0) 1 0, e1 42 (.goto 8) 3 50], 45),
  (45, [true, true, true, false, false], [e1 45 (.aload_n 0) 1 0, e1 46 (.iload_n 2) 1 2, ei 47 (.invokevirtual 266) 3 22 206 2 0 2], 50),
  (50, [true, true, true, false, false], [e1 50 (.istore_n 3) 1 3, e1 51 (.aload_n 0) 1 0, e1 52 (.iload_n 1) 1 1, ei 53 (.invokevirtual 269) 3 22 207 2 0 2, e1 56 (.ifCond .ne 27) 3 83, e1 59 (.iload_n 3) 1 3, e1 60 (.ifCond .eq 23) 3 83, e1 63 (.aload_n 0) 1 0, e1 64 (.iload_n 2) 1 2, e1 65 (.iload_n 1) 1 1, ei 66 (.invokevirtual 272) 3 22 214 3 0 4, e1 69 (.ifCond .ne 14) 3 83, e1 72 (.aload_n 0) 1 0, e1 73 (.iload_n 1) 1 1, e1 74 (.iload_n 2) 1 2, ei 75 (.invokevirtual 275) 3 22 216 3 0 4, ec 78 (.bipush (-9)) 2 (-9), e1 80 (.if_icmp .eq 6) 3 86], 83),
  (83, [false, false, false, false, false], [ec 83 (.bipush (-3)) 2 (-3), e1 85 (.ireturn) 1 0], 86),
  (86, [true, true, true, false, false], [e1 86 (.aload_n 0) 1 0, e3 87 (.getfield 170) 3 22 22 0, ec 90 (.sipush 300) 3 300, e1 93 (.if_icmp .eq 22) 3 115, e1 96 (.aload_n 0) 1 0, e1 97 (.iload_n 1) 1 1, ei 98 (.invokevirtual 238) 3 22 208 2 0 2, e1 101 (.ifCond .eq 17) 3 118, e1 104 (.aload_n 0) 1 0, e3 105 (.getfield 51) 3 22 17 2, e1 108 (.iload_n 1) 1 1, e0 109 (.iaload) 1, ec 110 (.bipush 6) 2 6, e1 112 (.if_icmp .ne 6) 3 118], 115),
  (115, [false, false, false, false, false], [ec 115 (.bipush (-4)) 2 (-4), e1 117 (.ireturn) 1 0], 118),
  (118, [true, true, true, false, false], [e1 118 (.aload_n 0) 1 0, e1 119 (.iload_n 1) 1 1, e1 120 (.iload_n 2) 1 2, ei 121 (.invokevirtual 278) 3 22 219 3 0 5, e1 124 (.istore 4) 2 4, e1 126 (.iload 4) 2 4, ec 128 (.bipush (-9)) 2 (-9), e1 130 (.if_icmp .eq 11) 3 141, e1 133 (.iload 4) 2 4, ei 135 (.invokestatic 281) 3 0 211 1 0 1, e1 138 (.goto 9) 3 147], 141),
  (141, [true, true, true, false, false], [e1 141 (.aload_n 0) 1 0, e1 142 (.iload_n 1) 1 1, e1 143 (.iload_n 2) 1 2, ei 144 (.invokevirtual 284) 3 22 220 3 0 4], 147),
  (147, [false, false, false, false, false], [e1 147 (.ireturn) 1 0], 148)]
set_option maxRecDepth 100000 in
def K_X12_bar : List XB := [(0, [true, true, true, false, false, false], [e1 0 (.aload_n 0) 1 0, e1 1 (.iload_n 1) 1 1, e0 2 (.i2l) 1, ei 3 (.invokevirtual 262) 3 22 203 2 0 3, e1 6 (.ifCond .eq 12) 3 18, e1 9 (.aload_n 0) 1 0, e1 10 (.iload_n 2) 1 2, e0 11 (.i2l) 1, ei 12 (.invokevirtual 262) 3 22 203 2 0 3, e1 15 (.ifCond .ne 5) 3 20], 18),
  (18, [false, false, false, false, false, false], [ec 18 (.iconst (-1)) 1 (-1), e1 19 (.ireturn) 1 0], 20),
  (20, [true, true, true, false, false, false], [e1 20 (.aload_n 0) 1 0, e1 21 (.iload_n 1) 1 1, ei 22 (.invokevirtual 269) 3 22 207 2 0 2, e1 25 (.ifCond .ne 11) 3 36, e1 28 (.aload_n 0) 1 0, e1 29 (.iload_n 2) 1 2, ei 30 (.invokevirtual 266) 3 22 206 2 0 2, e1 33 (.ifCond .ne 6) 3 39], 36),
  (36, [false, false, false, false, false, false], [ec 36 (.bipush (-3)) 2 (-3), e1 38 (.ireturn) 1 0], 39),
  (39, [true, true, true, false, false, false], [e1 39 (.aload_n 0) 1 0, e3 40 (.getfield 170) 3 22 22 0, ec 43 (.sipush 300) 3 300, e1 46 (.if_icmp .ne 6) 3 52, ec 49 (.bipush (-4)) 2 (-4), e1 51 (.ireturn) 1 0], 52),
  (52, [true, true, true, false, false, false], [e1 52 (.aload_n 0) 1 0, e1 53 (.iload_n 1) 1 1, e1 54 (.iload_n 2) 1 2, ei 55 (.invokevirtual 275) 3 22 216 3 0 4, e1 58 (.istore_n 3) 1 3, e1 59 (.iload_n 3) 1 3, ec 60 (.bipush (-9)) 2 (-9), e1 62 (.if_icmp .eq 18) 3 80, e1 65 (.aload_n 0) 1 0, e3 66 (.getfield 48) 3 22 16 2, ec 69 (.bipush 6) 2 6, e1 71 (.iload_n 1) 1 1, e0 72 (.imul) 1, e1 73 (.iload_n 3) 1 3, e0 74 (.iadd) 1, e0 75 (.iaload) 1, ei 76 (.invokestatic 281) 3 0 211 1 0 1, e1 79 (.ireturn) 1 0], 80),
  (80, [true, true, true, false, false, false], [e1 80 (.aload_n 0) 1 0, e3 81 (.getfield 54) 3 22 18 2, e1 84 (.iload_n 1) 1 1, e0 85 (.laload) 1, ec 86 (.lconst 1) 1 1, e1 87 (.iload_n 2) 1 2, e0 88 (.lshl) 1, ec 89 (.ldc2_w 287) 3 (-1), e0 92 (.lxor) 1, e0 93 (.land) 1, e1 94 (.lstore 4) 2 4, e1 96 (.aload_n 0) 1 0, e3 97 (.getfield 54) 3 22 18 2, e1 100 (.iload_n 1) 1 1, e0 101 (.laload) 1, ec 102 (.lconst 0) 1 0, e0 103 (.lcmp) 1, e1 104 (.ifCond .eq 19) 3 123, e1 107 (.lload 4) 2 4, ec 109 (.lconst 0) 1 0, e0 110 (.lcmp) 1, e1 111 (.ifCond .ne 12) 3 123, e1 114 (.aload_n 0) 1 0, e1 115 (.iload_n 1) 1 1, ei 116 (.invokevirtual 248) 3 22 213 2 0 4, ei 119 (.invokestatic 281) 3 0 211 1 0 1, e1 122 (.ireturn) 1 0], 123),
  (123, [true, true, true, false, true, false], [e1 123 (.aload_n 0) 1 0, e3 124 (.getfield 54) 3 22 18 2, e1 127 (.iload_n 1) 1 1, e1 128 (.lload 4) 2 4, e0 130 (.lastore) 1, e1 131 (.aload_n 0) 1 0, ec 132 (.iconst 1) 1 1, e1 133 (.iload_n 1) 1 1, e1 134 (.iload_n 2) 1 2, ec 135 (.iconst 0) 1 0, ei 136 (.invokevirtual 258) 3 22 210 5 0 5, e1 139 (.ireturn) 1 0], 140)]
set_option maxRecDepth 100000 in
def K_X12_give : List XB := [(0, [true, true, true, true, false, false, false, false], [e1 0 (.aload_n 0) 1 0, e1 1 (.iload_n 1) 1 1, e0 2 (.i2l) 1, ei 3 (.invokevirtual 262) 3 22 203 2 0 3, e1 6 (.ifCond .eq 20) 3 26, e1 9 (.aload_n 0) 1 0, e1 10 (.iload_n 2) 1 2, ei 11 (.invokevirtual 213) 3 22 193 2 0 2, e1 14 (.ifCond .eq 12) 3 26, e1 17 (.aload_n 0) 1 0, e1 18 (.iload_n 2) 1 2, e1 19 (.lload_n 3) 1 3, ei 20 (.invokevirtual 216) 3 22 200 3 0 4, e1 23 (.ifCond .eq 5) 3 28], 26),
  (26, [false, false, false, false, false, false, false, false], [ec 26 (.iconst (-1)) 1 (-1), e1 27 (.ireturn) 1 0], 28),
  (28, [true, true, true, true, false, false, false, false], [e1 28 (.aload_n 0) 1 0, e1 29 (.aload_n 0) 1 0, e3 30 (.getfield 30) 3 22 10 2, e1 33 (.iload_n 1) 1 1, e0 34 (.iaload) 1, e1 35 (.aload_n 0) 1 0, e3 36 (.getfield 13) 3 22 4 2, e1 39 (.iload_n 2) 1 2, e0 40 (.iaload) 1, ei 41 (.invokevirtual 199) 3 22 194 3 0 4, e1 44 (.ifCond .ne 6) 3 50, ec 47 (.bipush (-3)) 2 (-3), e1 49 (.ireturn) 1 0], 50),
  (50, [true, true, true, true, false, false, false, false], [e1 50 (.aload_n 0) 1 0, e3 51 (.getfield 170) 3 22 22 0, ec 54 (.sipush 300) 3 300, e1 57 (.if_icmp .ne 6) 3 63, ec 60 (.bipush (-4)) 2 (-4), e1 62 (.ireturn) 1 0], 63),
  (63, [true, true, true, true, false, false, false, false], [e1 63 (.aload_n 0) 1 0, e1 64 (.iload_n 2) 1 2, e1 65 (.lload_n 3) 1 3, ei 66 (.invokevirtual 220) 3 22 201 3 0 4, e1 69 (.ifCond .ne 10) 3 79, e1 72 (.aload_n 0) 1 0, ec 73 (.bipush (-14)) 2 (-14), ei 75 (.invokevirtual 223) 3 22 190 2 0 2, e1 78 (.ireturn) 1 0], 79),
  (79, [true, true, true, true, false, false, false, false], [ec 79 (.bipush 64) 2 64, e1 81 (.iload_n 2) 1 2, e0 82 (.imul) 1, e1 83 (.iload_n 1) 1 1, e0 84 (.iadd) 1, e1 85 (.istore 5) 2 5, e1 87 (.aload_n 0) 1 0, e3 88 (.getfield 16) 3 22 5 2, e1 91 (.iload_n 2) 1 2, e0 92 (.iaload) 1, e1 93 (.lload_n 3) 1 3, ei 94 (.invokestatic 226) 3 0 199 2 1 3, e1 97 (.lstore 6) 2 6, e1 99 (.aload_n 0) 1 0, e3 100 (.getfield 60) 3 22 20 2, e1 103 (.iload 5) 2 5, e0 105 (.iaload) 1, ec 106 (.bipush (-9)) 2 (-9), e1 108 (.if_icmp .eq 27) 3 135, e1 111 (.aload_n 0) 1 0, e3 112 (.getfield 63) 3 22 21 2, e1 115 (.iload 5) 2 5, e0 117 (.laload) 1, e1 118 (.lload 6) 2 6, e0 120 (.lcmp) 1, e1 121 (.ifCond .eq 14) 3 135, e1 124 (.aload_n 0) 1 0, e3 125 (.getfield 60) 3 22 20 2, e1 128 (.iload 5) 2 5, e0 130 (.iaload) 1, ei 131 (.invokestatic 281) 3 0 211 1 0 1, e1 134 (.ireturn) 1 0], 135),
  (135, [true, true, true, false, false, true, true, false], [e1 135 (.aload_n 0) 1 0, e3 136 (.getfield 63) 3 22 21 2, e1 139 (.iload 5) 2 5, e1 141 (.lload 6) 2 6, e0 143 (.lastore) 1, e1 144 (.aload_n 0) 1 0, e3 145 (.getfield 60) 3 22 20 2, e1 148 (.iload 5) 2 5, e1 150 (.aload_n 0) 1 0, ec 151 (.iconst 2) 1 2, e1 152 (.iload_n 1) 1 1, e1 153 (.iload_n 2) 1 2, ec 154 (.iconst 0) 1 0, ei 155 (.invokevirtual 258) 3 22 210 5 0 5, e0 158 (.iastore) 1, e1 159 (.aload_n 0) 1 0, e3 160 (.getfield 60) 3 22 20 2, e1 163 (.iload 5) 2 5, e0 165 (.iaload) 1, e1 166 (.ireturn) 1 0], 167)]
set_option maxRecDepth 100000 in
def K_X12_valueOf : List XB := [(0, [true, true, true, false, false], [ec 0 (.bipush 64) 2 64, e1 2 (.iload_n 2) 1 2, e0 3 (.imul) 1, e1 4 (.iload_n 1) 1 1, e0 5 (.iadd) 1, e1 6 (.istore_n 3) 1 3, e1 7 (.aload_n 0) 1 0, e3 8 (.getfield 60) 3 22 20 2, e1 11 (.iload_n 3) 1 3, e0 12 (.iaload) 1, ec 13 (.bipush (-9)) 2 (-9), e1 15 (.if_icmp .eq 10) 3 25, e1 18 (.aload_n 0) 1 0, e3 19 (.getfield 63) 3 22 21 2, e1 22 (.iload_n 3) 1 3, e0 23 (.laload) 1, e0 24 (.lreturn) 1], 25),
  (25, [true, true, true, false, false], [e1 25 (.aload_n 0) 1 0, e3 26 (.getfield 30) 3 22 10 2, e1 29 (.iload_n 1) 1 1, e0 30 (.iaload) 1, e1 31 (.istore 4) 2 4], 33),
  (33, [true, false, true, false, true], [e1 33 (.iload 4) 2 4, e1 35 (.ifCond .eq 30) 3 65, e1 38 (.aload_n 0) 1 0, e3 39 (.getfield 22) 3 22 7 2, ec 42 (.bipush 12) 2 12, e1 44 (.iload 4) 2 4, e0 46 (.imul) 1, e1 47 (.iload_n 2) 1 2, e0 48 (.iadd) 1, e0 49 (.baload) 1, e1 50 (.ifCond .ne 15) 3 65, e1 53 (.aload_n 0) 1 0, e3 54 (.getfield 7) 3 22 2 2, e1 57 (.iload 4) 2 4, e0 59 (.iaload) 1, e1 60 (.istore 4) 2 4, e1 62 (.goto (-29)) 3 33], 65),
  (65, [true, false, true, false, true], [e1 65 (.aload_n 0) 1 0, e3 66 (.getfield 22) 3 22 7 2, ec 69 (.bipush 12) 2 12, e1 71 (.iload 4) 2 4, e0 73 (.imul) 1, e1 74 (.iload_n 2) 1 2, e0 75 (.iadd) 1, e0 76 (.baload) 1, e1 77 (.ifCond .eq 18) 3 95, e1 80 (.aload_n 0) 1 0, e3 81 (.getfield 26) 3 22 8 2, ec 84 (.bipush 12) 2 12, e1 86 (.iload 4) 2 4, e0 88 (.imul) 1, e1 89 (.iload_n 2) 1 2, e0 90 (.iadd) 1, e0 91 (.laload) 1, e1 92 (.goto 21) 3 113], 95),
  (95, [true, false, true, false, false], [e1 95 (.aload_n 0) 1 0, e3 96 (.getfield 16) 3 22 5 2, e1 99 (.iload_n 2) 1 2, e0 100 (.iaload) 1, ec 101 (.bipush 8) 2 8, e1 103 (.if_icmp .ne 9) 3 112, ec 106 (.ldc2_w 211) 3 (-9), e1 109 (.goto 4) 3 113], 112),
  (112, [false, false, false, false, false], [ec 112 (.lconst 0) 1 0], 113),
  (113, [false, false, false, false, false], [e0 113 (.lreturn) 1], 114)]
set_option maxRecDepth 100000 in
def K_X12_value : List XB := [(0, [true, true, true], [e1 0 (.aload_n 0) 1 0, e1 1 (.iload_n 1) 1 1, e0 2 (.i2l) 1, ei 3 (.invokevirtual 262) 3 22 203 2 0 3, e1 6 (.ifCond .eq 11) 3 17, e1 9 (.aload_n 0) 1 0, e1 10 (.iload_n 2) 1 2, ei 11 (.invokevirtual 213) 3 22 193 2 0 2, e1 14 (.ifCond .ne 9) 3 23], 17),
  (17, [false, false, false], [ec 17 (.ldc2_w 287) 3 (-1), e1 20 (.goto 34) 3 54], 23),
  (23, [true, true, true], [e1 23 (.aload_n 0) 1 0, e1 24 (.aload_n 0) 1 0, e3 25 (.getfield 30) 3 22 10 2, e1 28 (.iload_n 1) 1 1, e0 29 (.iaload) 1, e1 30 (.aload_n 0) 1 0, e3 31 (.getfield 13) 3 22 4 2, e1 34 (.iload_n 2) 1 2, e0 35 (.iaload) 1, ei 36 (.invokevirtual 199) 3 22 194 3 0 4, e1 39 (.ifCond .ne 9) 3 48, ec 42 (.ldc2_w 289) 3 (-3), e1 45 (.goto 9) 3 54], 48),
  (48, [true, true, true], [e1 48 (.aload_n 0) 1 0, e1 49 (.iload_n 1) 1 1, e1 50 (.iload_n 2) 1 2, ei 51 (.invokevirtual 291) 3 22 224 3 1 5], 54),
  (54, [false, false, false], [e0 54 (.lreturn) 1], 55)]
set_option maxRecDepth 100000 in
def K_X12_given : List XB := [(0, [true, true, true], [e1 0 (.aload_n 0) 1 0, e1 1 (.iload_n 1) 1 1, e0 2 (.i2l) 1, ei 3 (.invokevirtual 262) 3 22 203 2 0 3, e1 6 (.ifCond .eq 11) 3 17, e1 9 (.aload_n 0) 1 0, e1 10 (.iload_n 2) 1 2, ei 11 (.invokevirtual 213) 3 22 193 2 0 2, e1 14 (.ifCond .ne 7) 3 21], 17),
  (17, [false, false, false], [ec 17 (.iconst (-1)) 1 (-1), e1 18 (.goto 14) 3 32], 21),
  (21, [true, true, true], [e1 21 (.aload_n 0) 1 0, e3 22 (.getfield 60) 3 22 20 2, ec 25 (.bipush 64) 2 64, e1 27 (.iload_n 2) 1 2, e0 28 (.imul) 1, e1 29 (.iload_n 1) 1 1, e0 30 (.iadd) 1, e0 31 (.iaload) 1], 32),
  (32, [false, false, false], [e1 32 (.ireturn) 1 0], 33)]
set_option maxRecDepth 100000 in
def K_X12_peek : List XB := [(0, [true, true, true, true], [e1 0 (.aload_n 0) 1 0, e1 1 (.iload_n 1) 1 1, ei 2 (.invokevirtual 213) 3 22 193 2 0 2, e1 5 (.ifCond .ne 7) 3 12, ec 8 (.ldc2_w 287) 3 (-1), e0 11 (.lreturn) 1], 12),
  (12, [true, true, true, true], [e1 12 (.iload_n 2) 1 2, e0 13 (.i2l) 1, ec 14 (.lconst 0) 1 0, ec 15 (.ldc2_w 203) 3 8, ei 18 (.invokestatic 191) 3 0 189 3 0 6, e1 21 (.ifCond .ne 7) 3 28, ec 24 (.ldc2_w 295) 3 (-2), e0 27 (.lreturn) 1], 28),
  (28, [true, true, true, true], [e1 28 (.aload_n 0) 1 0, e3 29 (.getfield 16) 3 22 5 2, e1 32 (.iload_n 1) 1 1, e0 33 (.iaload) 1, e1 34 (.iload_n 2) 1 2, e1 35 (.if_icmp .eq 11) 3 46, e1 38 (.aload_n 0) 1 0, ec 39 (.bipush (-13)) 2 (-13), ei 41 (.invokevirtual 223) 3 22 190 2 0 2, e0 44 (.i2l) 1, e0 45 (.lreturn) 1], 46),
  (46, [true, true, true, true], [e1 46 (.iload_n 3) 1 3, e0 47 (.i2l) 1, ec 48 (.lconst 0) 1 0, ec 49 (.ldc2_w 297) 3 63, ei 52 (.invokestatic 191) 3 0 189 3 0 6, e1 55 (.ifCond .ne 11) 3 66, e1 58 (.aload_n 0) 1 0, ec 59 (.bipush (-12)) 2 (-12), ei 61 (.invokevirtual 223) 3 22 190 2 0 2, e0 64 (.i2l) 1, e0 65 (.lreturn) 1], 66),
  (66, [true, true, true, true], [e1 66 (.aload_n 0) 1 0, e3 67 (.getfield 60) 3 22 20 2, ec 70 (.bipush 64) 2 64, e1 72 (.iload_n 1) 1 1, e0 73 (.imul) 1, e1 74 (.iload_n 3) 1 3, e0 75 (.iadd) 1, e0 76 (.iaload) 1, ec 77 (.bipush (-9)) 2 (-9), e1 79 (.if_icmp .eq 17) 3 96, e1 82 (.aload_n 0) 1 0, e3 83 (.getfield 63) 3 22 21 2, ec 86 (.bipush 64) 2 64, e1 88 (.iload_n 1) 1 1, e0 89 (.imul) 1, e1 90 (.iload_n 3) 1 3, e0 91 (.iadd) 1, e0 92 (.laload) 1, e1 93 (.goto 16) 3 109], 96),
  (96, [false, false, true, false], [e1 96 (.iload_n 2) 1 2, ec 97 (.bipush 8) 2 8, e1 99 (.if_icmp .ne 9) 3 108, ec 102 (.ldc2_w 211) 3 (-9), e1 105 (.goto 4) 3 109], 108),
  (108, [false, false, false, false], [ec 108 (.lconst 0) 1 0], 109),
  (109, [false, false, false, false], [e0 109 (.lreturn) 1], 110)]
set_option maxRecDepth 100000 in
def K_X12_place : List XB := [(0, [true, true, true], [e1 0 (.aload_n 0) 1 0, e1 1 (.iload_n 1) 1 1, e0 2 (.i2l) 1, ei 3 (.invokevirtual 262) 3 22 203 2 0 3, e1 6 (.ifCond .ne 7) 3 13, ec 9 (.iconst (-1)) 1 (-1), e1 10 (.goto 37) 3 47], 13),
  (13, [true, true, true], [e1 13 (.iload_n 2) 1 2, e0 14 (.i2l) 1, ec 15 (.lconst 0) 1 0, e1 16 (.aload_n 0) 1 0, e3 17 (.getfield 51) 3 22 17 2, e1 20 (.iload_n 1) 1 1, e0 21 (.iaload) 1, ec 22 (.iconst 1) 1 1, e0 23 (.isub) 1, e0 24 (.i2l) 1, ei 25 (.invokestatic 191) 3 0 189 3 0 6, e1 28 (.ifCond .eq 17) 3 45, e1 31 (.aload_n 0) 1 0, e3 32 (.getfield 45) 3 22 15 2, ec 35 (.bipush 6) 2 6, e1 37 (.iload_n 1) 1 1, e0 38 (.imul) 1, e1 39 (.iload_n 2) 1 2, e0 40 (.iadd) 1, e0 41 (.iaload) 1, e1 42 (.goto 5) 3 47], 45),
  (45, [false, false, false], [ec 45 (.bipush (-9)) 2 (-9)], 47),
  (47, [false, false, false], [e1 47 (.ireturn) 1 0], 48)]
set_option maxRecDepth 100000 in
def K_X12_loadOf : List XB := [(0, [true, true, false, false], [ec 0 (.iconst 0) 1 0, e1 1 (.istore_n 2) 1 2, ec 2 (.iconst 0) 1 0, e1 3 (.istore_n 3) 1 3], 4),
  (4, [true, true, true, true], [e1 4 (.iload_n 3) 1 3, e1 5 (.aload_n 0) 1 0, e3 6 (.getfield 167) 3 22 9 0, e1 9 (.if_icmp .ge 64) 3 73, e1 12 (.aload_n 0) 1 0, e1 13 (.iload_n 3) 1 3, ei 14 (.invokevirtual 238) 3 22 208 2 0 2, e1 17 (.ifCond .ne 50) 3 67, e1 20 (.aload_n 0) 1 0, e3 21 (.getfield 51) 3 22 17 2, e1 24 (.iload_n 3) 1 3, e0 25 (.iaload) 1, e1 26 (.ifCond .le 41) 3 67, e1 29 (.aload_n 0) 1 0, e1 30 (.aload_n 0) 1 0, e1 31 (.iload_n 3) 1 3, ei 32 (.invokevirtual 241) 3 22 215 2 0 2, e1 35 (.iload_n 1) 1 1, ei 36 (.invokevirtual 272) 3 22 214 3 0 4, e1 39 (.ifCond .eq 28) 3 67, e1 42 (.iload_n 2) 1 2, e1 43 (.aload_n 0) 1 0, e3 44 (.getfield 33) 3 22 11 2, e1 47 (.iload_n 3) 1 3, e0 48 (.iaload) 1, e1 49 (.aload_n 0) 1 0, e1 50 (.iload_n 3) 1 3, ei 51 (.invokevirtual 230) 3 22 204 2 0 2, ec 54 (.iconst 5) 1 5, e1 55 (.if_icmp .ne 8) 3 63, ec 58 (.bipush 10) 2 10, e1 60 (.goto 4) 3 64], 63),
  (63, [true, true, false, true], [ec 63 (.iconst 0) 1 0], 64),
  (64, [true, true, false, true], [e0 64 (.iadd) 1, e0 65 (.iadd) 1, e1 66 (.istore_n 2) 1 2], 67),
  (67, [true, true, true, true], [ek 67 (.iinc 3 1) 3 1 3, e1 70 (.goto (-66)) 3 4], 73),
  (73, [false, false, true, false], [e1 73 (.iload_n 2) 1 2, e1 74 (.ireturn) 1 0], 75)]
set_option maxRecDepth 100000 in
def K_X12_bulkOf : List XB := [(0, [true, true], [e1 0 (.aload_n 0) 1 0, e1 1 (.iload_n 1) 1 1, ei 2 (.invokevirtual 230) 3 22 204 2 0 2, es 5 (.tableswitch 81 1 5 #[35, 41, 50, 52, 65]) 35 1 86 [40, 46, 55, 57, 70]], 40),
  (40, [true, true], [e1 40 (.aload_n 0) 1 0, e1 41 (.iload_n 1) 1 1, ei 42 (.invokevirtual 299) 3 22 229 2 0 4, e1 45 (.ireturn) 1 0], 46),
  (46, [true, true], [ec 46 (.iconst 2) 1 2, e1 47 (.aload_n 0) 1 0, e3 48 (.getfield 33) 3 22 11 2, e1 51 (.iload_n 1) 1 1, e0 52 (.iaload) 1, e0 53 (.imul) 1, e1 54 (.ireturn) 1 0], 55),
  (55, [false, false], [ec 55 (.iconst 0) 1 0, e1 56 (.ireturn) 1 0], 57),
  (57, [true, true], [e1 57 (.aload_n 0) 1 0, e3 58 (.getfield 33) 3 22 11 2, e1 61 (.iload_n 1) 1 1, e0 62 (.iaload) 1, e1 63 (.aload_n 0) 1 0, e1 64 (.iload_n 1) 1 1, ei 65 (.invokevirtual 299) 3 22 229 2 0 4, e0 68 (.iadd) 1, e1 69 (.ireturn) 1 0], 70),
  (70, [true, true], [e1 70 (.aload_n 0) 1 0, e3 71 (.getfield 33) 3 22 11 2, e1 74 (.iload_n 1) 1 1, e0 75 (.iaload) 1, e1 76 (.aload_n 0) 1 0, e1 77 (.iload_n 1) 1 1, ei 78 (.invokevirtual 299) 3 22 229 2 0 4, e0 81 (.iadd) 1, ec 82 (.bipush 10) 2 10, e0 84 (.iadd) 1, e1 85 (.ireturn) 1 0], 86),
  (86, [true, true], [e1 86 (.aload_n 0) 1 0, e3 87 (.getfield 33) 3 22 11 2, e1 90 (.iload_n 1) 1 1, e0 91 (.iaload) 1, e1 92 (.ireturn) 1 0], 93)]
set_option maxRecDepth 100000 in
def K_X12_worthOf : List XB := [(0, [true, true, false], [ec 0 (.iconst 3) 1 3, e1 1 (.aload_n 0) 1 0, e3 2 (.getfield 33) 3 22 11 2, e1 5 (.iload_n 1) 1 1, e0 6 (.iaload) 1, e0 7 (.imul) 1, ec 8 (.iconst 1) 1 1, e0 9 (.iadd) 1, e1 10 (.istore_n 2) 1 2, e1 11 (.aload_n 0) 1 0, e1 12 (.iload_n 1) 1 1, ei 13 (.invokevirtual 230) 3 22 204 2 0 2, es 16 (.tableswitch 54 1 5 #[36, 42, 47, 54, 50]) 36 1 70 [52, 58, 63, 70, 66]], 52),
  (52, [false, false, true], [e1 52 (.iload_n 2) 1 2, ec 53 (.sipush 1000) 3 1000, e0 56 (.iadd) 1, e1 57 (.ireturn) 1 0], 58),
  (58, [false, false, true], [e1 58 (.iload_n 2) 1 2, ec 59 (.bipush 100) 2 100, e0 61 (.iadd) 1, e1 62 (.ireturn) 1 0], 63),
  (63, [false, false, true], [e1 63 (.iload_n 2) 1 2, e0 64 (.ineg) 1, e1 65 (.ireturn) 1 0], 66),
  (66, [false, false, true], [ec 66 (.iconst 2) 1 2, e1 67 (.iload_n 2) 1 2, e0 68 (.imul) 1, e1 69 (.ireturn) 1 0], 70),
  (70, [false, false, true], [e1 70 (.iload_n 2) 1 2, e1 71 (.ireturn) 1 0], 72)]
set_option maxRecDepth 100000 in
def K_X12_lidOf : List XB := [(0, [true, true], [e1 0 (.aload_n 0) 1 0, e1 1 (.iload_n 1) 1 1, ei 2 (.invokevirtual 230) 3 22 204 2 0 2, ec 5 (.iconst 2) 1 2, e1 6 (.if_icmp .ne 30) 3 36, ec 9 (.bipush 10) 2 10, e1 11 (.aload_n 0) 1 0, e3 12 (.getfield 39) 3 22 13 2, e1 15 (.iload_n 1) 1 1, e0 16 (.iaload) 1, e0 17 (.imul) 1, e1 18 (.aload_n 0) 1 0, e3 19 (.getfield 42) 3 22 14 2, e1 22 (.iload_n 1) 1 1, e0 23 (.baload) 1, e1 24 (.ifCond .eq 7) 3 31, ec 27 (.iconst 1) 1 1, e1 28 (.goto 4) 3 32], 31),
  (31, [false, false], [ec 31 (.iconst 0) 1 0], 32),
  (32, [false, false], [e0 32 (.iadd) 1, e1 33 (.goto 26) 3 59], 36),
  (36, [true, true], [e1 36 (.aload_n 0) 1 0, e3 37 (.getfield 39) 3 22 13 2, e1 40 (.iload_n 1) 1 1, e0 41 (.iaload) 1, e1 42 (.aload_n 0) 1 0, e3 43 (.getfield 42) 3 22 14 2, e1 46 (.iload_n 1) 1 1, e0 47 (.baload) 1, e1 48 (.ifCond .eq 9) 3 57, ec 51 (.sipush 1000) 3 1000, e1 54 (.goto 4) 3 58], 57),
  (57, [false, false], [ec 57 (.iconst 0) 1 0], 58),
  (58, [false, false], [e0 58 (.iadd) 1], 59),
  (59, [false, false], [e1 59 (.ireturn) 1 0], 60)]
set_option maxRecDepth 100000 in
def K_X12_said : List XB := [(0, [true, true, true, false, false], [e1 0 (.iload_n 2) 1 2, ec 1 (.iconst 2) 1 2, e1 2 (.if_icmp .lt 53) 3 55, e1 5 (.iload_n 2) 1 2, ec 6 (.iconst 2) 1 2, e1 7 (.if_icmp .ne 14) 3 21, e1 10 (.aload_n 0) 1 0, e1 11 (.iload_n 1) 1 1, ei 12 (.invokevirtual 266) 3 22 206 2 0 2, e1 15 (.ifCond .eq 44) 3 59, e1 18 (.goto 37) 3 55], 21),
  (21, [true, true, true, false, false], [e1 21 (.iload_n 2) 1 2, ec 22 (.iconst 3) 1 3, e1 23 (.if_icmp .ne 23) 3 46, e1 26 (.aload_n 0) 1 0, e1 27 (.iload_n 1) 1 1, ei 28 (.invokevirtual 230) 3 22 204 2 0 2, ec 31 (.iconst 2) 1 2, e1 32 (.if_icmp .eq 23) 3 55, e1 35 (.aload_n 0) 1 0, e1 36 (.iload_n 1) 1 1, ei 37 (.invokevirtual 233) 3 22 205 2 0 2, e1 40 (.ifCond .eq 19) 3 59, e1 43 (.goto 12) 3 55], 46),
  (46, [true, true, true, false, false], [e1 46 (.aload_n 0) 1 0, e1 47 (.iload_n 1) 1 1, ei 48 (.invokevirtual 230) 3 22 204 2 0 2, ec 51 (.iconst 5) 1 5, e1 52 (.if_icmp .ne 7) 3 59], 55),
  (55, [true, true, true, false, false], [ec 55 (.iconst 1) 1 1, e1 56 (.goto 4) 3 60], 59),
  (59, [true, true, true, false, false], [ec 59 (.iconst 0) 1 0], 60),
  (60, [true, true, true, false, false], [e1 60 (.istore_n 3) 1 3, e1 61 (.iload_n 3) 1 3, e1 62 (.ifCond .ne 10) 3 72, e1 65 (.aload_n 0) 1 0, ec 66 (.bipush (-13)) 2 (-13), ei 68 (.invokevirtual 223) 3 22 190 2 0 2, e1 71 (.ireturn) 1 0], 72),
  (72, [true, true, true, false, false], [e1 72 (.iload_n 2) 1 2, ec 73 (.iconst 4) 1 4, e1 74 (.if_icmp .ne 31) 3 105, e1 77 (.aload_n 0) 1 0, e1 78 (.iload_n 1) 1 1, ei 79 (.invokevirtual 299) 3 22 229 2 0 4, e1 82 (.istore 4) 2 4, e1 84 (.iload 4) 2 4, e1 86 (.ifCond .ne 12) 3 98, e1 89 (.aload_n 0) 1 0, ec 90 (.bipush (-16)) 2 (-16), ei 92 (.invokevirtual 223) 3 22 190 2 0 2, e1 95 (.goto 9) 3 104], 98),
  (98, [false, false, false, false, true], [ec 98 (.sipush 1000) 3 1000, e1 101 (.iload 4) 2 4, e0 103 (.idiv) 1], 104),
  (104, [false, false, false, false, false], [e1 104 (.ireturn) 1 0], 105),
  (105, [true, true, true, false, false], [e1 105 (.iload_n 2) 1 2, e1 106 (.ifCond .ne 11) 3 117, e1 109 (.aload_n 0) 1 0, e1 110 (.iload_n 1) 1 1, ei 111 (.invokevirtual 302) 3 22 230 2 0 2, e1 114 (.goto 34) 3 148], 117),
  (117, [true, true, true, false, false], [e1 117 (.iload_n 2) 1 2, ec 118 (.iconst 1) 1 1, e1 119 (.if_icmp .ne 11) 3 130, e1 122 (.aload_n 0) 1 0, e1 123 (.iload_n 1) 1 1, ei 124 (.invokevirtual 305) 3 22 231 2 0 3, e1 127 (.goto 21) 3 148], 130),
  (130, [true, true, true, false, false], [e1 130 (.iload_n 2) 1 2, ec 131 (.iconst 2) 1 2, e1 132 (.if_icmp .ne 11) 3 143, e1 135 (.aload_n 0) 1 0, e1 136 (.iload_n 1) 1 1, ei 137 (.invokevirtual 299) 3 22 229 2 0 4, e1 140 (.goto 8) 3 148], 143),
  (143, [true, true, false, false, false], [e1 143 (.aload_n 0) 1 0, e1 144 (.iload_n 1) 1 1, ei 145 (.invokevirtual 308) 3 22 232 2 0 2], 148),
  (148, [false, false, false, false, false], [e1 148 (.ireturn) 1 0], 149)]
set_option maxRecDepth 100000 in
def K_X12_says : List XB := [(0, [true, true, true], [e1 0 (.aload_n 0) 1 0, e1 1 (.iload_n 1) 1 1, e0 2 (.i2l) 1, ei 3 (.invokevirtual 262) 3 22 203 2 0 3, e1 6 (.ifCond .ne 7) 3 13, ec 9 (.iconst (-1)) 1 (-1), e1 10 (.goto 26) 3 36], 13),
  (13, [true, true, true], [e1 13 (.iload_n 2) 1 2, e0 14 (.i2l) 1, ec 15 (.lconst 0) 1 0, ec 16 (.ldc2_w 311) 3 4, ei 19 (.invokestatic 191) 3 0 189 3 0 6, e1 22 (.ifCond .ne 8) 3 30, ec 25 (.bipush (-2)) 2 (-2), e1 27 (.goto 9) 3 36], 30),
  (30, [true, true, true], [e1 30 (.aload_n 0) 1 0, e1 31 (.iload_n 1) 1 1, e1 32 (.iload_n 2) 1 2, ei 33 (.invokevirtual 313) 3 22 233 3 0 5], 36),
  (36, [false, false, false], [e1 36 (.ireturn) 1 0], 37)]
set_option maxRecDepth 100000 in
def K_X12_follow : List XB := [(0, [true, true, true, true, false, false], [e1 0 (.aload_n 0) 1 0, e1 1 (.iload_n 1) 1 1, e0 2 (.i2l) 1, ei 3 (.invokevirtual 262) 3 22 203 2 0 3, e1 6 (.ifCond .eq 11) 3 17, e1 9 (.aload_n 0) 1 0, e1 10 (.iload_n 2) 1 2, ei 11 (.invokevirtual 213) 3 22 193 2 0 2, e1 14 (.ifCond .ne 5) 3 19], 17),
  (17, [false, false, false, false, false, false], [ec 17 (.iconst (-1)) 1 (-1), e1 18 (.ireturn) 1 0], 19),
  (19, [true, true, true, true, false, false], [e1 19 (.iload_n 3) 1 3, e0 20 (.i2l) 1, ec 21 (.lconst 0) 1 0, ec 22 (.ldc2_w 311) 3 4, ei 25 (.invokestatic 191) 3 0 189 3 0 6, e1 28 (.ifCond .ne 6) 3 34, ec 31 (.bipush (-2)) 2 (-2), e1 33 (.ireturn) 1 0], 34),
  (34, [true, true, true, true, false, false], [e1 34 (.aload_n 0) 1 0, e1 35 (.aload_n 0) 1 0, e3 36 (.getfield 30) 3 22 10 2, e1 39 (.iload_n 1) 1 1, e0 40 (.iaload) 1, e1 41 (.aload_n 0) 1 0, e3 42 (.getfield 13) 3 22 4 2, e1 45 (.iload_n 2) 1 2, e0 46 (.iaload) 1, ei 47 (.invokevirtual 199) 3 22 194 3 0 4, e1 50 (.ifCond .ne 6) 3 56, ec 53 (.bipush (-3)) 2 (-3), e1 55 (.ireturn) 1 0], 56),
  (56, [true, true, true, true, false, false], [e1 56 (.aload_n 0) 1 0, e3 57 (.getfield 16) 3 22 5 2, e1 60 (.iload_n 2) 1 2, e0 61 (.iaload) 1, ec 62 (.bipush 8) 2 8, e1 64 (.if_icmp .eq 10) 3 74, e1 67 (.aload_n 0) 1 0, ec 68 (.bipush (-13)) 2 (-13), ei 70 (.invokevirtual 223) 3 22 190 2 0 2, e1 73 (.ireturn) 1 0], 74),
  (74, [true, true, true, true, false, false], [e1 74 (.aload_n 0) 1 0, e1 75 (.iload_n 1) 1 1, e1 76 (.iload_n 2) 1 2, ei 77 (.invokevirtual 291) 3 22 224 3 1 5, e1 80 (.lstore 4) 2 4, e1 82 (.lload 4) 2 4, ec 84 (.ldc2_w 211) 3 (-9), e0 87 (.lcmp) 1, e1 88 (.ifCond .ne 12) 3 100, e1 91 (.aload_n 0) 1 0, ec 92 (.bipush (-11)) 2 (-11), ei 94 (.invokevirtual 223) 3 22 190 2 0 2, e1 97 (.goto 11) 3 108], 100),
  (100, [true, false, false, true, true, false], [e1 100 (.aload_n 0) 1 0, e1 101 (.lload 4) 2 4, e0 103 (.l2i) 1, e1 104 (.iload_n 3) 1 3, ei 105 (.invokevirtual 313) 3 22 233 3 0 5], 108),
  (108, [false, false, false, false, false, false], [e1 108 (.ireturn) 1 0], 109)]
set_option maxRecDepth 100000 in
def K_X12_hasOwn : List XB := [(0, [true, true], [e1 0 (.aload_n 0) 1 0, e1 1 (.iload_n 1) 1 1, ei 2 (.invokevirtual 230) 3 22 204 2 0 2, ec 5 (.iconst 2) 1 2, e1 6 (.if_icmp .eq 11) 3 17, e1 9 (.aload_n 0) 1 0, e1 10 (.iload_n 1) 1 1, ei 11 (.invokevirtual 233) 3 22 205 2 0 2, e1 14 (.ifCond .eq 7) 3 21], 17),
  (17, [false, false], [ec 17 (.iconst 1) 1 1, e1 18 (.goto 4) 3 22], 21),
  (21, [false, false], [ec 21 (.iconst 0) 1 0], 22),
  (22, [false, false], [e1 22 (.ireturn) 1 1], 23)]
set_option maxRecDepth 100000 in
def K_X12_mark : List XB := [(0, [true, true, true], [e1 0 (.aload_n 0) 1 0, e1 1 (.iload_n 1) 1 1, e0 2 (.i2l) 1, ei 3 (.invokevirtual 262) 3 22 203 2 0 3, e1 6 (.ifCond .ne 5) 3 11, ec 9 (.iconst (-1)) 1 (-1), e1 10 (.ireturn) 1 0], 11),
  (11, [true, true, true], [e1 11 (.iload_n 2) 1 2, e0 12 (.i2l) 1, ec 13 (.lconst 0) 1 0, ec 14 (.lconst 1) 1 1, ei 15 (.invokestatic 191) 3 0 189 3 0 6, e1 18 (.ifCond .ne 6) 3 24, ec 21 (.bipush (-2)) 2 (-2), e1 23 (.ireturn) 1 0], 24),
  (24, [true, true, true], [e1 24 (.iload_n 2) 1 2, e1 25 (.ifCond .ne 12) 3 37, e1 28 (.aload_n 0) 1 0, e3 29 (.getfield 36) 3 22 12 2, e1 32 (.iload_n 1) 1 1, e0 33 (.iaload) 1, e1 34 (.goto 26) 3 60], 37),
  (37, [true, true, false], [e1 37 (.aload_n 0) 1 0, e1 38 (.iload_n 1) 1 1, ei 39 (.invokevirtual 316) 3 22 236 2 0 2, e1 42 (.ifCond .eq 12) 3 54, e1 45 (.aload_n 0) 1 0, e3 46 (.getfield 39) 3 22 13 2, e1 49 (.iload_n 1) 1 1, e0 50 (.iaload) 1, e1 51 (.goto 9) 3 60], 54),
  (54, [true, false, false], [e1 54 (.aload_n 0) 1 0, ec 55 (.bipush (-13)) 2 (-13), ei 57 (.invokevirtual 223) 3 22 190 2 0 2], 60),
  (60, [false, false, false], [e1 60 (.ireturn) 1 0], 61)]
set_option maxRecDepth 100000 in
def K_X12_remark : List XB := [(0, [true, true, true, true, false], [e1 0 (.aload_n 0) 1 0, e1 1 (.iload_n 1) 1 1, e0 2 (.i2l) 1, ei 3 (.invokevirtual 262) 3 22 203 2 0 3, e1 6 (.ifCond .ne 5) 3 11, ec 9 (.iconst (-1)) 1 (-1), e1 10 (.ireturn) 1 0], 11),
  (11, [true, true, true, true, false], [e1 11 (.iload_n 2) 1 2, e0 12 (.i2l) 1, ec 13 (.lconst 0) 1 0, ec 14 (.lconst 1) 1 1, ei 15 (.invokestatic 191) 3 0 189 3 0 6, e1 18 (.ifCond .eq 15) 3 33, e1 21 (.iload_n 3) 1 3, e0 22 (.i2l) 1, ec 23 (.lconst 0) 1 0, ec 24 (.ldc2_w 236) 3 1000, ei 27 (.invokestatic 191) 3 0 189 3 0 6, e1 30 (.ifCond .ne 6) 3 36], 33),
  (33, [false, false, false, false, false], [ec 33 (.bipush (-2)) 2 (-2), e1 35 (.ireturn) 1 0], 36),
  (36, [true, true, true, true, false], [e1 36 (.iload_n 2) 1 2, ec 37 (.iconst 1) 1 1, e1 38 (.if_icmp .ne 18) 3 56, e1 41 (.aload_n 0) 1 0, e1 42 (.iload_n 1) 1 1, ei 43 (.invokevirtual 316) 3 22 236 2 0 2, e1 46 (.ifCond .ne 10) 3 56, e1 49 (.aload_n 0) 1 0, ec 50 (.bipush (-13)) 2 (-13), ei 52 (.invokevirtual 223) 3 22 190 2 0 2, e1 55 (.ireturn) 1 0], 56),
  (56, [true, true, true, true, false], [e1 56 (.iload_n 2) 1 2, e1 57 (.ifCond .ne 12) 3 69, e1 60 (.aload_n 0) 1 0, e3 61 (.getfield 36) 3 22 12 2, e1 64 (.iload_n 1) 1 1, e0 65 (.iaload) 1, e1 66 (.goto 9) 3 75], 69),
  (69, [true, true, true, true, false], [e1 69 (.aload_n 0) 1 0, e3 70 (.getfield 39) 3 22 13 2, e1 73 (.iload_n 1) 1 1, e0 74 (.iaload) 1], 75),
  (75, [true, true, true, true, false], [e1 75 (.istore 4) 2 4, e1 77 (.aload_n 0) 1 0, e3 78 (.getfield 36) 3 22 12 2, e1 81 (.iload_n 1) 1 1, e1 82 (.iload_n 2) 1 2, e1 83 (.ifCond .ne 7) 3 90, e1 86 (.iload_n 3) 1 3, e1 87 (.goto 9) 3 96], 90),
  (90, [true, true, true, true, true], [e1 90 (.aload_n 0) 1 0, e3 91 (.getfield 36) 3 22 12 2, e1 94 (.iload_n 1) 1 1, e0 95 (.iaload) 1], 96),
  (96, [true, true, true, true, true], [e0 96 (.iastore) 1, e1 97 (.aload_n 0) 1 0, e3 98 (.getfield 39) 3 22 13 2, e1 101 (.iload_n 1) 1 1, e1 102 (.iload_n 2) 1 2, ec 103 (.iconst 1) 1 1, e1 104 (.if_icmp .ne 7) 3 111, e1 107 (.iload_n 3) 1 3, e1 108 (.goto 9) 3 117], 111),
  (111, [true, true, false, false, true], [e1 111 (.aload_n 0) 1 0, e3 112 (.getfield 39) 3 22 13 2, e1 115 (.iload_n 1) 1 1, e0 116 (.iaload) 1], 117),
  (117, [false, false, false, false, true], [e0 117 (.iastore) 1, e1 118 (.iload 4) 2 4, e1 120 (.ireturn) 1 0], 121)]
set_option maxRecDepth 100000 in
def K_X12_open : List XB := [(0, [true, true, true, false], [e1 0 (.aload_n 0) 1 0, e1 1 (.iload_n 1) 1 1, e0 2 (.i2l) 1, ei 3 (.invokevirtual 262) 3 22 203 2 0 3, e1 6 (.ifCond .ne 5) 3 11, ec 9 (.iconst (-1)) 1 (-1), e1 10 (.ireturn) 1 0], 11),
  (11, [true, true, true, false], [e1 11 (.aload_n 0) 1 0, e1 12 (.iload_n 1) 1 1, ei 13 (.invokevirtual 316) 3 22 236 2 0 2, e1 16 (.ifCond .ne 10) 3 26, e1 19 (.aload_n 0) 1 0, ec 20 (.bipush (-13)) 2 (-13), ei 22 (.invokevirtual 223) 3 22 190 2 0 2, e1 25 (.ireturn) 1 0], 26),
  (26, [true, true, true, false], [e1 26 (.aload_n 0) 1 0, e3 27 (.getfield 42) 3 22 14 2, e1 30 (.iload_n 1) 1 1, e0 31 (.baload) 1, e1 32 (.ifCond .eq 7) 3 39, ec 35 (.iconst 1) 1 1, e1 36 (.goto 4) 3 40], 39),
  (39, [true, true, true, false], [ec 39 (.iconst 0) 1 0], 40),
  (40, [true, true, true, false], [e1 40 (.istore_n 3) 1 3, e1 41 (.aload_n 0) 1 0, e3 42 (.getfield 42) 3 22 14 2, e1 45 (.iload_n 1) 1 1, e1 46 (.iload_n 2) 1 2, e0 47 (.bastore) 1, e1 48 (.iload_n 3) 1 3, e1 49 (.ireturn) 1 0], 50)]
set_option maxRecDepth 100000 in
def K_X12_among : List XB := [(0, [true, true, true, false, false, false, false, false, false, false], [e1 0 (.aload_n 0) 1 0, e1 1 (.iload_n 1) 1 1, e0 2 (.i2l) 1, ei 3 (.invokevirtual 262) 3 22 203 2 0 3, e1 6 (.istore 4) 2 4, e1 8 (.iload 4) 2 4, e1 10 (.istore 5) 2 5, ec 12 (.iconst 0) 1 0, e1 13 (.istore 6) 2 6], 15),
  (15, [true, true, true, false, true, true, true, false, false, false], [e1 15 (.iload 6) 2 6, ec 17 (.bipush 64) 2 64, e1 19 (.if_icmp .ge 74) 3 93, e1 22 (.lload_n 2) 1 2, e1 23 (.iload 6) 2 6, e0 25 (.lushr) 1, ec 26 (.lconst 1) 1 1, e0 27 (.land) 1, ec 28 (.lconst 1) 1 1, e0 29 (.lcmp) 1, e1 30 (.ifCond .ne 57) 3 87, e1 33 (.iload 4) 2 4, e1 35 (.ifCond .eq 17) 3 52, e1 38 (.aload_n 0) 1 0, e1 39 (.iload 6) 2 6, e0 41 (.i2l) 1, ei 42 (.invokevirtual 262) 3 22 203 2 0 3, e1 45 (.ifCond .eq 7) 3 52, ec 48 (.iconst 1) 1 1, e1 49 (.goto 4) 3 53], 52),
  (52, [true, true, true, false, false, true, true, false, false, false], [ec 52 (.iconst 0) 1 0], 53),
  (53, [true, true, true, false, false, true, true, false, false, false], [e1 53 (.istore 4) 2 4, e1 55 (.iload 5) 2 5, e1 57 (.ifCond .eq 27) 3 84, e1 60 (.iload 4) 2 4, e1 62 (.ifCond .eq 22) 3 84, e1 65 (.iload 6) 2 6, e1 67 (.iload_n 1) 1 1, e1 68 (.if_icmp .eq 16) 3 84, e1 71 (.aload_n 0) 1 0, e1 72 (.iload 6) 2 6, ei 74 (.invokevirtual 266) 3 22 206 2 0 2, e1 77 (.ifCond .eq 7) 3 84, ec 80 (.iconst 1) 1 1, e1 81 (.goto 4) 3 85], 84),
  (84, [true, true, true, false, true, false, true, false, false, false], [ec 84 (.iconst 0) 1 0], 85),
  (85, [true, true, true, false, true, false, true, false, false, false], [e1 85 (.istore 5) 2 5], 87),
  (87, [true, true, true, false, true, true, true, false, false, false], [ek 87 (.iinc 6 1) 3 1 6, e1 90 (.goto (-75)) 3 15], 93),
  (93, [true, true, true, false, true, true, false, false, false, false], [e1 93 (.iload 4) 2 4, e1 95 (.ifCond .ne 5) 3 100, ec 98 (.iconst (-1)) 1 (-1), e1 99 (.ireturn) 1 0], 100),
  (100, [true, true, true, false, false, true, false, false, false, false], [e1 100 (.lload_n 2) 1 2, ec 101 (.lconst 0) 1 0, e0 102 (.lcmp) 1, e1 103 (.ifCond .ne 6) 3 109, ec 106 (.bipush (-2)) 2 (-2), e1 108 (.ireturn) 1 0], 109),
  (109, [true, true, true, false, false, true, false, false, false, false], [e1 109 (.aload_n 0) 1 0, e1 110 (.iload_n 1) 1 1, ei 111 (.invokevirtual 269) 3 22 207 2 0 2, e1 114 (.ifCond .ne 16) 3 130, e1 117 (.aload_n 0) 1 0, e1 118 (.iload_n 1) 1 1, ei 119 (.invokevirtual 238) 3 22 208 2 0 2, e1 122 (.ifCond .ne 8) 3 130, e1 125 (.iload 5) 2 5, e1 127 (.ifCond .ne 6) 3 133], 130),
  (130, [false, false, false, false, false, false, false, false, false, false], [ec 130 (.bipush (-3)) 2 (-3), e1 132 (.ireturn) 1 0], 133),
  (133, [true, true, true, false, false, false, false, false, false, false], [e1 133 (.aload_n 0) 1 0, e3 134 (.getfield 170) 3 22 22 0, ec 137 (.sipush 300) 3 300, e1 140 (.if_icmp .ne 6) 3 146, ec 143 (.bipush (-4)) 2 (-4), e1 145 (.ireturn) 1 0], 146),
  (146, [true, true, true, false, false, false, false, false, false, false], [e1 146 (.aload_n 0) 1 0, e3 147 (.getfield 51) 3 22 17 2, e1 150 (.iload_n 1) 1 1, e0 151 (.iaload) 1, e1 152 (.ifCond .le 34) 3 186, e1 155 (.lload_n 2) 1 2, e1 156 (.aload_n 0) 1 0, e3 157 (.getfield 45) 3 22 15 2, ec 160 (.bipush 6) 2 6, e1 162 (.iload_n 1) 1 1, e0 163 (.imul) 1, e0 164 (.iaload) 1, e0 165 (.lushr) 1, ec 166 (.lconst 1) 1 1, e0 167 (.land) 1, ec 168 (.lconst 0) 1 0, e0 169 (.lcmp) 1, e1 170 (.ifCond .ne 16) 3 186, e1 173 (.aload_n 0) 1 0, e3 174 (.getfield 48) 3 22 16 2, ec 177 (.bipush 6) 2 6, e1 179 (.iload_n 1) 1 1, e0 180 (.imul) 1, e0 181 (.iaload) 1, ei 182 (.invokestatic 281) 3 0 211 1 0 1, e1 185 (.ireturn) 1 0], 186),
  (186, [true, true, true, false, false, false, false, false, false, false], [e1 186 (.aload_n 0) 1 0, e3 187 (.getfield 54) 3 22 18 2, e1 190 (.iload_n 1) 1 1, e0 191 (.laload) 1, ec 192 (.lconst 0) 1 0, e0 193 (.lcmp) 1, e1 194 (.ifCond .ne 7) 3 201, e1 197 (.lload_n 2) 1 2, e1 198 (.goto 11) 3 209], 201),
  (201, [true, true, true, false, false, false, false, false, false, false], [e1 201 (.aload_n 0) 1 0, e3 202 (.getfield 54) 3 22 18 2, e1 205 (.iload_n 1) 1 1, e0 206 (.laload) 1, e1 207 (.lload_n 2) 1 2, e0 208 (.land) 1], 209),
  (209, [true, true, true, false, false, false, false, false, false, false], [e1 209 (.lstore 6) 2 6, e1 211 (.lload 6) 2 6, ec 213 (.lconst 0) 1 0, e0 214 (.lcmp) 1, e1 215 (.ifCond .ne 12) 3 227, e1 218 (.aload_n 0) 1 0, e1 219 (.iload_n 1) 1 1, ei 220 (.invokevirtual 248) 3 22 213 2 0 4, ei 223 (.invokestatic 281) 3 0 211 1 0 1, e1 226 (.ireturn) 1 0], 227),
  (227, [true, true, true, false, false, false, true, false, false, false], [ec 227 (.bipush (-9)) 2 (-9), e1 229 (.istore 8) 2 8, e1 231 (.aload_n 0) 1 0, e3 232 (.getfield 170) 3 22 22 0, ec 235 (.iconst 1) 1 1, e0 236 (.isub) 1, e1 237 (.istore 9) 2 9], 239),
  (239, [true, true, true, false, false, false, true, false, true, true], [e1 239 (.iload 9) 2 9, e1 241 (.ifCond .lt 74) 3 315, e1 244 (.aload_n 0) 1 0, e3 245 (.getfield 66) 3 22 23 2, e1 248 (.iload 9) 2 9, e0 250 (.iaload) 1, ec 251 (.iconst 1) 1 1, e1 252 (.if_icmp .ne 57) 3 309, e1 255 (.aload_n 0) 1 0, e3 256 (.getfield 69) 3 22 24 2, e1 259 (.iload 9) 2 9, e0 261 (.iaload) 1, e1 262 (.iload_n 1) 1 1, e1 263 (.if_icmp .ne 46) 3 309, e1 266 (.lload_n 2) 1 2, e1 267 (.aload_n 0) 1 0, e3 268 (.getfield 72) 3 22 25 2, e1 271 (.iload 9) 2 9, e0 273 (.iaload) 1, e0 274 (.lushr) 1, ec 275 (.lconst 1) 1 1, e0 276 (.land) 1, ec 277 (.lconst 1) 1 1, e0 278 (.lcmp) 1, e1 279 (.ifCond .ne 8) 3 287, e1 282 (.iload 9) 2 9, e1 284 (.goto 5) 3 289], 287),
  (287, [true, true, true, false, false, false, true, false, true, true], [e1 287 (.iload 8) 2 8], 289),
  (289, [true, true, true, false, false, false, true, false, false, true], [e1 289 (.istore 8) 2 8, e1 291 (.lload 6) 2 6, ec 293 (.lconst 1) 1 1, e1 294 (.aload_n 0) 1 0, e3 295 (.getfield 72) 3 22 25 2, e1 298 (.iload 9) 2 9, e0 300 (.iaload) 1, e0 301 (.lshl) 1, ec 302 (.ldc2_w 287) 3 (-1), e0 305 (.lxor) 1, e0 306 (.land) 1, e1 307 (.lstore 6) 2 6], 309),
  (309, [true, true, true, false, false, false, true, false, true, true], [ek 309 (.iinc 9 (-1)) 3 (-1) 9, e1 312 (.goto (-73)) 3 239], 315),
  (315, [true, true, true, false, false, false, true, false, true, false], [e1 315 (.lload 6) 2 6, ec 317 (.lconst 0) 1 0, e0 318 (.lcmp) 1, e1 319 (.ifCond .ne 9) 3 328, e1 322 (.iload 8) 2 8, ei 324 (.invokestatic 281) 3 0 211 1 0 1, e1 327 (.ireturn) 1 0], 328),
  (328, [true, true, true, false, false, false, true, false, false, false], [e1 328 (.aload_n 0) 1 0, e3 329 (.getfield 54) 3 22 18 2, e1 332 (.iload_n 1) 1 1, e1 333 (.lload 6) 2 6, e0 335 (.lastore) 1, e1 336 (.aload_n 0) 1 0, ec 337 (.iconst 3) 1 3, e1 338 (.iload_n 1) 1 1, e1 339 (.lload_n 2) 1 2, e0 340 (.l2i) 1, ec 341 (.iconst 0) 1 0, ei 342 (.invokevirtual 258) 3 22 210 5 0 5, e1 345 (.ireturn) 1 0], 346)]
set_option maxRecDepth 100000 in
def K_X12_pair : List XB := [(0, [true, true, true, true, false, false], [e1 0 (.aload_n 0) 1 0, e1 1 (.iload_n 1) 1 1, e0 2 (.i2l) 1, ei 3 (.invokevirtual 262) 3 22 203 2 0 3, e1 6 (.ifCond .eq 12) 3 18, e1 9 (.aload_n 0) 1 0, e1 10 (.iload_n 2) 1 2, e0 11 (.i2l) 1, ei 12 (.invokevirtual 262) 3 22 203 2 0 3, e1 15 (.ifCond .ne 5) 3 20], 18),
  (18, [false, false, false, false, false, false], [ec 18 (.iconst (-1)) 1 (-1), e1 19 (.ireturn) 1 0], 20),
  (20, [true, true, true, true, false, false], [e1 20 (.iload_n 1) 1 1, e1 21 (.iload_n 2) 1 2, e1 22 (.if_icmp .eq 35) 3 57, e1 25 (.aload_n 0) 1 0, e1 26 (.iload_n 1) 1 1, ei 27 (.invokevirtual 269) 3 22 207 2 0 2, e1 30 (.ifCond .ne 27) 3 57, e1 33 (.aload_n 0) 1 0, e1 34 (.iload_n 1) 1 1, ei 35 (.invokevirtual 238) 3 22 208 2 0 2, e1 38 (.ifCond .ne 19) 3 57, e1 41 (.aload_n 0) 1 0, e1 42 (.iload_n 2) 1 2, ei 43 (.invokevirtual 269) 3 22 207 2 0 2, e1 46 (.ifCond .ne 11) 3 57, e1 49 (.aload_n 0) 1 0, e1 50 (.iload_n 2) 1 2, ei 51 (.invokevirtual 238) 3 22 208 2 0 2, e1 54 (.ifCond .eq 6) 3 60], 57),
  (57, [false, false, false, false, false, false], [ec 57 (.bipush (-3)) 2 (-3), e1 59 (.ireturn) 1 0], 60),
  (60, [true, true, true, true, false, false], [e1 60 (.aload_n 0) 1 0, e3 61 (.getfield 170) 3 22 22 0, ec 64 (.sipush 300) 3 300, e1 67 (.if_icmp .eq 12) 3 79, e1 70 (.aload_n 0) 1 0, e3 71 (.getfield 185) 3 22 27 0, ec 74 (.bipush 16) 2 16, e1 76 (.if_icmp .ne 6) 3 82], 79),
  (79, [false, false, false, false, false, false], [ec 79 (.bipush (-4)) 2 (-4), e1 81 (.ireturn) 1 0], 82),
  (82, [true, true, true, true, false, false], [e1 82 (.iload_n 3) 1 3, e1 83 (.ifCond .eq 7) 3 90, ec 86 (.iconst 1) 1 1, e1 87 (.goto 4) 3 91], 90),
  (90, [true, true, true, true, false, false], [ec 90 (.iconst 0) 1 0], 91),
  (91, [true, true, true, true, false, false], [e1 91 (.istore 4) 2 4, ec 93 (.iconst 0) 1 0, e1 94 (.istore 5) 2 5], 96),
  (96, [true, true, true, true, true, true], [e1 96 (.iload 5) 2 5, e1 98 (.aload_n 0) 1 0, e3 99 (.getfield 170) 3 22 22 0, e1 102 (.if_icmp .ge 82) 3 184, e1 105 (.aload_n 0) 1 0, e3 106 (.getfield 66) 3 22 23 2, e1 109 (.iload 5) 2 5, e0 111 (.iaload) 1, ec 112 (.iconst 4) 1 4, e1 113 (.if_icmp .ne 65) 3 178, e1 116 (.aload_n 0) 1 0, e3 117 (.getfield 69) 3 22 24 2, e1 120 (.iload 5) 2 5, e0 122 (.iaload) 1, e1 123 (.iload_n 1) 1 1, e1 124 (.if_icmp .ne 14) 3 138, e1 127 (.aload_n 0) 1 0, e3 128 (.getfield 72) 3 22 25 2, e1 131 (.iload 5) 2 5, e0 133 (.iaload) 1, e1 134 (.iload_n 2) 1 2, e1 135 (.if_icmp .eq 25) 3 160], 138),
  (138, [true, true, true, true, true, true], [e1 138 (.aload_n 0) 1 0, e3 139 (.getfield 69) 3 22 24 2, e1 142 (.iload 5) 2 5, e0 144 (.iaload) 1, e1 145 (.iload_n 2) 1 2, e1 146 (.if_icmp .ne 32) 3 178, e1 149 (.aload_n 0) 1 0, e3 150 (.getfield 72) 3 22 25 2, e1 153 (.iload 5) 2 5, e0 155 (.iaload) 1, e1 156 (.iload_n 1) 1 1, e1 157 (.if_icmp .ne 21) 3 178], 160),
  (160, [true, true, true, true, true, true], [e1 160 (.aload_n 0) 1 0, e3 161 (.getfield 75) 3 22 26 2, e1 164 (.iload 5) 2 5, e0 166 (.iaload) 1, e1 167 (.iload 4) 2 4, e1 169 (.if_icmp .eq 9) 3 178, e1 172 (.iload 5) 2 5, ei 174 (.invokestatic 281) 3 0 211 1 0 1, e1 177 (.ireturn) 1 0], 178),
  (178, [true, true, true, true, true, true], [ek 178 (.iinc 5 1) 3 1 5, e1 181 (.goto (-85)) 3 96], 184),
  (184, [true, true, true, true, true, false], [e1 184 (.aload_n 0) 1 0, e3 185 (.getfield 51) 3 22 17 2, e1 188 (.iload_n 1) 1 1, e0 189 (.iaload) 1, e1 190 (.ifCond .le 80) 3 270, e1 193 (.aload_n 0) 1 0, e3 194 (.getfield 51) 3 22 17 2, e1 197 (.iload_n 2) 1 2, e0 198 (.iaload) 1, e1 199 (.ifCond .le 71) 3 270, e1 202 (.aload_n 0) 1 0, e1 203 (.iload_n 1) 1 1, ei 204 (.invokevirtual 241) 3 22 215 2 0 2, e1 207 (.aload_n 0) 1 0, e1 208 (.iload_n 2) 1 2, ei 209 (.invokevirtual 241) 3 22 215 2 0 2, e1 212 (.if_icmp .ne 7) 3 219, ec 215 (.iconst 1) 1 1, e1 216 (.goto 4) 3 220], 219),
  (219, [true, true, true, true, true, false], [ec 219 (.iconst 0) 1 0], 220),
  (220, [true, true, true, true, true, false], [e1 220 (.iload_n 3) 1 3, e1 221 (.if_icmp .eq 49) 3 270, e1 224 (.aload_n 0) 1 0, e3 225 (.getfield 48) 3 22 16 2, ec 228 (.bipush 6) 2 6, e1 230 (.iload_n 1) 1 1, e0 231 (.imul) 1, e0 232 (.iaload) 1, e1 233 (.aload_n 0) 1 0, e3 234 (.getfield 48) 3 22 16 2, ec 237 (.bipush 6) 2 6, e1 239 (.iload_n 2) 1 2, e0 240 (.imul) 1, e0 241 (.iaload) 1, e1 242 (.if_icmp .le 15) 3 257, e1 245 (.aload_n 0) 1 0, e3 246 (.getfield 48) 3 22 16 2, ec 249 (.bipush 6) 2 6, e1 251 (.iload_n 1) 1 1, e0 252 (.imul) 1, e0 253 (.iaload) 1, e1 254 (.goto 12) 3 266], 257),
  (257, [true, false, true, false, false, false], [e1 257 (.aload_n 0) 1 0, e3 258 (.getfield 48) 3 22 16 2, ec 261 (.bipush 6) 2 6, e1 263 (.iload_n 2) 1 2, e0 264 (.imul) 1, e0 265 (.iaload) 1], 266),
  (266, [false, false, false, false, false, false], [ei 266 (.invokestatic 281) 3 0 211 1 0 1, e1 269 (.ireturn) 1 0], 270),
  (270, [true, true, true, false, true, false], [e1 270 (.aload_n 0) 1 0, e0 271 (.dup) 1, e3 272 (.getfield 185) 3 22 27 0, ec 275 (.iconst 1) 1 1, e0 276 (.iadd) 1, e3 277 (.putfield 185) 3 22 27 0, e1 280 (.aload_n 0) 1 0, ec 281 (.iconst 4) 1 4, e1 282 (.iload_n 1) 1 1, e1 283 (.iload_n 2) 1 2, e1 284 (.iload 4) 2 4, ei 286 (.invokevirtual 258) 3 22 210 5 0 5, e1 289 (.ireturn) 1 0], 290)]
set_option maxRecDepth 100000 in
def K_X12_most : List XB := [(0, [true, true, true, false, false], [e1 0 (.aload_n 0) 1 0, e1 1 (.iload_n 1) 1 1, e0 2 (.i2l) 1, ei 3 (.invokevirtual 262) 3 22 203 2 0 3, e1 6 (.ifCond .ne 5) 3 11, ec 9 (.iconst (-1)) 1 (-1), e1 10 (.ireturn) 1 0], 11),
  (11, [true, true, true, false, false], [e1 11 (.iload_n 2) 1 2, e0 12 (.i2l) 1, ec 13 (.lconst 0) 1 0, ec 14 (.ldc2_w 319) 3 64, ei 17 (.invokestatic 191) 3 0 189 3 0 6, e1 20 (.ifCond .ne 6) 3 26, ec 23 (.bipush (-2)) 2 (-2), e1 25 (.ireturn) 1 0], 26),
  (26, [true, true, true, false, false], [e1 26 (.aload_n 0) 1 0, e1 27 (.iload_n 1) 1 1, ei 28 (.invokevirtual 266) 3 22 206 2 0 2, e1 31 (.ifCond .eq 14) 3 45, e1 34 (.aload_n 0) 1 0, e3 35 (.getfield 57) 3 22 19 2, e1 38 (.iload_n 1) 1 1, e0 39 (.iaload) 1, ec 40 (.bipush (-9)) 2 (-9), e1 42 (.if_icmp .eq 6) 3 48], 45),
  (45, [false, false, false, false, false], [ec 45 (.bipush (-3)) 2 (-3), e1 47 (.ireturn) 1 0], 48),
  (48, [true, true, true, false, false], [e1 48 (.aload_n 0) 1 0, e3 49 (.getfield 170) 3 22 22 0, ec 52 (.sipush 300) 3 300, e1 55 (.if_icmp .ne 6) 3 61, ec 58 (.bipush (-4)) 2 (-4), e1 60 (.ireturn) 1 0], 61),
  (61, [true, true, true, false, false], [ec 61 (.iconst 0) 1 0, e1 62 (.istore_n 3) 1 3, ec 63 (.iconst 0) 1 0, e1 64 (.istore 4) 2 4], 66),
  (66, [true, true, true, true, true], [e1 66 (.iload 4) 2 4, e1 68 (.aload_n 0) 1 0, e3 69 (.getfield 170) 3 22 22 0, e1 72 (.if_icmp .ge 60) 3 132, e1 75 (.aload_n 0) 1 0, e3 76 (.getfield 66) 3 22 23 2, e1 79 (.iload 4) 2 4, e0 81 (.iaload) 1, e1 82 (.ifCond .ne 44) 3 126, e1 85 (.aload_n 0) 1 0, e3 86 (.getfield 72) 3 22 25 2, e1 89 (.iload 4) 2 4, e0 91 (.iaload) 1, e1 92 (.iload_n 1) 1 1, e1 93 (.if_icmp .ne 33) 3 126, e1 96 (.aload_n 0) 1 0, e1 97 (.aload_n 0) 1 0, e3 98 (.getfield 69) 3 22 24 2, e1 101 (.iload 4) 2 4, e0 103 (.iaload) 1, ei 104 (.invokevirtual 238) 3 22 208 2 0 2, e1 107 (.ifCond .ne 19) 3 126, ek 110 (.iinc 3 1) 3 1 3, e1 113 (.iload_n 3) 1 3, e1 114 (.iload_n 2) 1 2, ec 115 (.iconst 1) 1 1, e0 116 (.iadd) 1, e1 117 (.if_icmp .ne 9) 3 126, e1 120 (.iload 4) 2 4, ei 122 (.invokestatic 281) 3 0 211 1 0 1, e1 125 (.ireturn) 1 0], 126),
  (126, [true, true, true, true, true], [ek 126 (.iinc 4 1) 3 1 4, e1 129 (.goto (-63)) 3 66], 132),
  (132, [true, true, true, false, false], [e1 132 (.aload_n 0) 1 0, e3 133 (.getfield 57) 3 22 19 2, e1 136 (.iload_n 1) 1 1, e1 137 (.aload_n 0) 1 0, ec 138 (.iconst 5) 1 5, e1 139 (.iload_n 1) 1 1, e1 140 (.iload_n 2) 1 2, ec 141 (.iconst 0) 1 0, ei 142 (.invokevirtual 258) 3 22 210 5 0 5, e0 145 (.iastore) 1, e1 146 (.aload_n 0) 1 0, e3 147 (.getfield 57) 3 22 19 2, e1 150 (.iload_n 1) 1 1, e0 151 (.iaload) 1, e1 152 (.ireturn) 1 0], 153)]
set_option maxRecDepth 100000 in
def K_X12_isUnsettled : List XB := [(0, [true, true], [e1 0 (.aload_n 0) 1 0, e3 1 (.getfield 54) 3 22 18 2, e1 4 (.iload_n 1) 1 1, e0 5 (.laload) 1, ec 6 (.lconst 0) 1 0, e0 7 (.lcmp) 1, e1 8 (.ifCond .eq 16) 3 24, e1 11 (.aload_n 0) 1 0, e3 12 (.getfield 51) 3 22 17 2, e1 15 (.iload_n 1) 1 1, e0 16 (.iaload) 1, e1 17 (.ifCond .ne 7) 3 24, ec 20 (.iconst 1) 1 1, e1 21 (.goto 4) 3 25], 24),
  (24, [false, false], [ec 24 (.iconst 0) 1 0], 25),
  (25, [false, false], [e1 25 (.ireturn) 1 1], 26)]
set_option maxRecDepth 100000 in
def K_X12_unsettled : List XB := [(0, [true, false, false], [ec 0 (.iconst 0) 1 0, e1 1 (.istore_n 1) 1 1, ec 2 (.iconst 0) 1 0, e1 3 (.istore_n 2) 1 2], 4),
  (4, [true, true, true], [e1 4 (.iload_n 2) 1 2, e1 5 (.aload_n 0) 1 0, e3 6 (.getfield 167) 3 22 9 0, e1 9 (.if_icmp .ge 25) 3 34, e1 12 (.iload_n 1) 1 1, e1 13 (.aload_n 0) 1 0, e1 14 (.iload_n 2) 1 2, ei 15 (.invokevirtual 321) 3 22 243 2 0 2, e1 18 (.ifCond .eq 7) 3 25, ec 21 (.iconst 1) 1 1, e1 22 (.goto 4) 3 26], 25),
  (25, [true, false, true], [ec 25 (.iconst 0) 1 0], 26),
  (26, [true, false, true], [e0 26 (.iadd) 1, e1 27 (.istore_n 1) 1 1, ek 28 (.iinc 2 1) 3 1 2, e1 31 (.goto (-27)) 3 4], 34),
  (34, [false, true, false], [e1 34 (.iload_n 1) 1 1, e1 35 (.ireturn) 1 0], 36)]
set_option maxRecDepth 100000 in
def K_X12_keeps : List XB := [(0, [true, false, false, false, false], [ec 0 (.iconst 0) 1 0, e1 1 (.istore_n 1) 1 1], 2),
  (2, [true, true, false, false, false], [e1 2 (.iload_n 1) 1 1, e1 3 (.aload_n 0) 1 0, e3 4 (.getfield 167) 3 22 9 0, e1 7 (.if_icmp .ge 126) 3 133, e1 10 (.aload_n 0) 1 0, e3 11 (.getfield 78) 3 22 28 2, e1 14 (.iload_n 1) 1 1, e0 15 (.iaload) 1, e1 16 (.istore_n 2) 1 2, ec 17 (.iconst 0) 1 0, e1 18 (.istore_n 3) 1 3], 19),
  (19, [true, true, true, true, false], [e1 19 (.iload_n 3) 1 3, ec 20 (.bipush 65) 2 65, e1 22 (.if_icmp .ge 29) 3 51, e1 25 (.iload_n 2) 1 2, ec 26 (.bipush (-9)) 2 (-9), e1 28 (.if_icmp .eq 23) 3 51, e1 31 (.iload_n 2) 1 2, e1 32 (.iload_n 1) 1 1, e1 33 (.if_icmp .ne 5) 3 38, ec 36 (.iconst 0) 1 0, e1 37 (.ireturn) 1 1], 38),
  (38, [true, true, true, true, false], [e1 38 (.aload_n 0) 1 0, e3 39 (.getfield 78) 3 22 28 2, e1 42 (.iload_n 2) 1 2, e0 43 (.iaload) 1, e1 44 (.istore_n 2) 1 2, ek 45 (.iinc 3 1) 3 1 3, e1 48 (.goto (-29)) 3 19], 51),
  (51, [true, true, false, false, false], [e1 51 (.aload_n 0) 1 0, e3 52 (.getfield 57) 3 22 19 2, e1 55 (.iload_n 1) 1 1, e0 56 (.iaload) 1, ec 57 (.bipush (-9)) 2 (-9), e1 59 (.if_icmp .eq 68) 3 127, ec 62 (.iconst 0) 1 0, e1 63 (.istore_n 3) 1 3, ec 64 (.iconst 0) 1 0, e1 65 (.istore 4) 2 4], 67),
  (67, [true, true, false, true, true], [e1 67 (.iload 4) 2 4, e1 69 (.aload_n 0) 1 0, e3 70 (.getfield 167) 3 22 9 0, e1 73 (.if_icmp .ge 37) 3 110, e1 76 (.iload_n 3) 1 3, e1 77 (.aload_n 0) 1 0, e1 78 (.iload 4) 2 4, ei 80 (.invokevirtual 238) 3 22 208 2 0 2, e1 83 (.ifCond .ne 18) 3 101, e1 86 (.aload_n 0) 1 0, e3 87 (.getfield 78) 3 22 28 2, e1 90 (.iload 4) 2 4, e0 92 (.iaload) 1, e1 93 (.iload_n 1) 1 1, e1 94 (.if_icmp .ne 7) 3 101, ec 97 (.iconst 1) 1 1, e1 98 (.goto 4) 3 102], 101),
  (101, [true, true, false, false, true], [ec 101 (.iconst 0) 1 0], 102),
  (102, [true, true, false, false, true], [e0 102 (.iadd) 1, e1 103 (.istore_n 3) 1 3, ek 104 (.iinc 4 1) 3 1 4, e1 107 (.goto (-40)) 3 67], 110),
  (110, [true, true, false, true, false], [e1 110 (.iload_n 3) 1 3, e1 111 (.aload_n 0) 1 0, e3 112 (.getfield 72) 3 22 25 2, e1 115 (.aload_n 0) 1 0, e3 116 (.getfield 57) 3 22 19 2, e1 119 (.iload_n 1) 1 1, e0 120 (.iaload) 1, e0 121 (.iaload) 1, e1 122 (.if_icmp .le 5) 3 127, ec 125 (.iconst 0) 1 0, e1 126 (.ireturn) 1 1], 127),
  (127, [true, true, false, false, false], [ek 127 (.iinc 1 1) 3 1 1, e1 130 (.goto (-128)) 3 2], 133),
  (133, [true, false, false, false, false], [ec 133 (.iconst 0) 1 0, e1 134 (.istore_n 1) 1 1], 135),
  (135, [true, true, false, false, false], [e1 135 (.iload_n 1) 1 1, e1 136 (.aload_n 0) 1 0, e3 137 (.getfield 170) 3 22 22 0, e1 140 (.if_icmp .ge 85) 3 225, e1 143 (.aload_n 0) 1 0, e3 144 (.getfield 66) 3 22 23 2, e1 147 (.iload_n 1) 1 1, e0 148 (.iaload) 1, ec 149 (.iconst 4) 1 4, e1 150 (.if_icmp .ne 69) 3 219, e1 153 (.aload_n 0) 1 0, e3 154 (.getfield 78) 3 22 28 2, e1 157 (.aload_n 0) 1 0, e3 158 (.getfield 69) 3 22 24 2, e1 161 (.iload_n 1) 1 1, e0 162 (.iaload) 1, e0 163 (.iaload) 1, e1 164 (.istore_n 2) 1 2, e1 165 (.aload_n 0) 1 0, e3 166 (.getfield 78) 3 22 28 2, e1 169 (.aload_n 0) 1 0, e3 170 (.getfield 72) 3 22 25 2, e1 173 (.iload_n 1) 1 1, e0 174 (.iaload) 1, e0 175 (.iaload) 1, e1 176 (.istore_n 3) 1 3, e1 177 (.iload_n 2) 1 2, ec 178 (.bipush (-9)) 2 (-9), e1 180 (.if_icmp .eq 39) 3 219, e1 183 (.iload_n 3) 1 3, ec 184 (.bipush (-9)) 2 (-9), e1 186 (.if_icmp .eq 33) 3 219, e1 189 (.iload_n 2) 1 2, e1 190 (.iload_n 3) 1 3, e1 191 (.if_icmp .ne 7) 3 198, ec 194 (.iconst 1) 1 1, e1 195 (.goto 4) 3 199], 198),
  (198, [true, true, false, false, false], [ec 198 (.iconst 0) 1 0], 199),
  (199, [true, true, false, false, false], [e1 199 (.aload_n 0) 1 0, e3 200 (.getfield 75) 3 22 26 2, e1 203 (.iload_n 1) 1 1, e0 204 (.iaload) 1, ec 205 (.iconst 1) 1 1, e1 206 (.if_icmp .ne 7) 3 213, ec 209 (.iconst 1) 1 1, e1 210 (.goto 4) 3 214], 213),
  (213, [true, true, false, false, false], [ec 213 (.iconst 0) 1 0], 214),
  (214, [true, true, false, false, false], [e1 214 (.if_icmp .eq 5) 3 219, ec 217 (.iconst 0) 1 0, e1 218 (.ireturn) 1 1], 219),
  (219, [true, true, false, false, false], [ek 219 (.iinc 1 1) 3 1 1, e1 222 (.goto (-87)) 3 135], 225),
  (225, [false, false, false, false, false], [ec 225 (.iconst 1) 1 1, e1 226 (.ireturn) 1 1], 227)]
set_option maxRecDepth 100000 in
def K_X12_lowest : List XB := [(0, [true, false, false], [ec 0 (.iconst 0) 1 0, e1 1 (.istore_n 2) 1 2], 2),
  (2, [true, false, true], [e1 2 (.lload_n 0) 1 0, e1 3 (.iload_n 2) 1 2, e0 4 (.lushr) 1, ec 5 (.lconst 1) 1 1, e0 6 (.land) 1, ec 7 (.lconst 0) 1 0, e0 8 (.lcmp) 1, e1 9 (.ifCond .ne 9) 3 18, ek 12 (.iinc 2 1) 3 1 2, e1 15 (.goto (-13)) 3 2], 18),
  (18, [false, false, true], [e1 18 (.iload_n 2) 1 2, e1 19 (.ireturn) 1 0], 20)]
set_option maxRecDepth 100000 in
def K_X12_many : List XB := [(0, [true, false, false, false], [ec 0 (.iconst 0) 1 0, e1 1 (.istore_n 2) 1 2, ec 2 (.iconst 0) 1 0, e1 3 (.istore_n 3) 1 3], 4),
  (4, [true, false, true, true], [e1 4 (.iload_n 3) 1 3, ec 5 (.bipush 64) 2 64, e1 7 (.if_icmp .ge 27) 3 34, e1 10 (.iload_n 2) 1 2, e1 11 (.lload_n 0) 1 0, e1 12 (.iload_n 3) 1 3, e0 13 (.lushr) 1, ec 14 (.lconst 1) 1 1, e0 15 (.land) 1, ec 16 (.lconst 1) 1 1, e0 17 (.lcmp) 1, e1 18 (.ifCond .ne 7) 3 25, ec 21 (.iconst 1) 1 1, e1 22 (.goto 4) 3 26], 25),
  (25, [true, false, false, true], [ec 25 (.iconst 0) 1 0], 26),
  (26, [true, false, false, true], [e0 26 (.iadd) 1, e1 27 (.istore_n 2) 1 2, ek 28 (.iinc 3 1) 3 1 3, e1 31 (.goto (-27)) 3 4], 34),
  (34, [false, false, true, false], [e1 34 (.iload_n 2) 1 2, e1 35 (.ireturn) 1 0], 36)]
set_option maxRecDepth 100000 in
def K_X12_goesOn : List XB := [(0, [true, false, false, false], [e1 0 (.aload_n 0) 1 0, e3 1 (.getfield 167) 3 22 9 0, ec 4 (.iconst 1) 1 1, e0 5 (.isub) 1, e1 6 (.istore_n 1) 1 1], 7),
  (7, [true, true, false, false], [e1 7 (.iload_n 1) 1 1, e1 8 (.ifCond .lt 75) 3 83, e1 11 (.aload_n 0) 1 0, e1 12 (.iload_n 1) 1 1, ei 13 (.invokevirtual 321) 3 22 243 2 0 2, e1 16 (.ifCond .eq 61) 3 77, e1 19 (.aload_n 0) 1 0, e3 20 (.getfield 54) 3 22 18 2, e1 23 (.iload_n 1) 1 1, e0 24 (.laload) 1, e1 25 (.aload_n 0) 1 0, e3 26 (.getfield 78) 3 22 28 2, e1 29 (.iload_n 1) 1 1, e0 30 (.iaload) 1, e0 31 (.lushr) 1, ec 32 (.iconst 1) 1 1, e0 33 (.lushr) 1, e1 34 (.lstore_n 2) 1 2, e1 35 (.lload_n 2) 1 2, ec 36 (.lconst 0) 1 0, e0 37 (.lcmp) 1, e1 38 (.ifCond .eq 24) 3 62, e1 41 (.aload_n 0) 1 0, e3 42 (.getfield 78) 3 22 28 2, e1 45 (.iload_n 1) 1 1, e1 46 (.aload_n 0) 1 0, e3 47 (.getfield 78) 3 22 28 2, e1 50 (.iload_n 1) 1 1, e0 51 (.iaload) 1, ec 52 (.iconst 1) 1 1, e0 53 (.iadd) 1, e1 54 (.lload_n 2) 1 2, ei 55 (.invokestatic 324) 3 0 246 1 0 3, e0 58 (.iadd) 1, e0 59 (.iastore) 1, ec 60 (.iconst 1) 1 1, e1 61 (.ireturn) 1 1], 62),
  (62, [true, true, false, false], [e1 62 (.aload_n 0) 1 0, e3 63 (.getfield 78) 3 22 28 2, e1 66 (.iload_n 1) 1 1, e1 67 (.aload_n 0) 1 0, e3 68 (.getfield 54) 3 22 18 2, e1 71 (.iload_n 1) 1 1, e0 72 (.laload) 1, ei 73 (.invokestatic 324) 3 0 246 1 0 3, e0 76 (.iastore) 1], 77),
  (77, [true, true, false, false], [ek 77 (.iinc 1 (-1)) 3 (-1) 1, e1 80 (.goto (-73)) 3 7], 83),
  (83, [false, false, false, false], [ec 83 (.iconst 0) 1 0, e1 84 (.ireturn) 1 1], 85)]
set_option maxRecDepth 100000 in
def K_X12_settle : List XB := [(0, [true, false, false, false, false, false, false], [e1 0 (.aload_n 0) 1 0, ei 1 (.invokevirtual 328) 3 22 244 1 0 3, e1 4 (.istore_n 1) 1 1, ec 5 (.lconst 1) 1 1, e1 6 (.lstore_n 2) 1 2, ec 7 (.iconst 0) 1 0, e1 8 (.istore 4) 2 4], 10),
  (10, [true, true, true, false, true, false, false], [e1 10 (.iload 4) 2 4, e1 12 (.aload_n 0) 1 0, e3 13 (.getfield 167) 3 22 9 0, e1 16 (.if_icmp .ge 44) 3 60, e1 19 (.aload_n 0) 1 0, e1 20 (.iload 4) 2 4, ei 22 (.invokevirtual 321) 3 22 243 2 0 2, e1 25 (.ifCond .eq 27) 3 52, e1 28 (.lload_n 2) 1 2, ec 29 (.ldc2_w 332) 3 3000, e0 32 (.lcmp) 1, e1 33 (.ifCond .gt 19) 3 52, e1 36 (.lload_n 2) 1 2, e1 37 (.aload_n 0) 1 0, e3 38 (.getfield 54) 3 22 18 2, e1 41 (.iload 4) 2 4, e0 43 (.laload) 1, ei 44 (.invokestatic 334) 3 0 247 1 0 4, e0 47 (.i2l) 1, e0 48 (.lmul) 1, e1 49 (.goto 4) 3 53], 52),
  (52, [true, true, true, false, true, false, false], [e1 52 (.lload_n 2) 1 2], 53),
  (53, [true, true, false, false, true, false, false], [e1 53 (.lstore_n 2) 1 2, ek 54 (.iinc 4 1) 3 1 4, e1 57 (.goto (-47)) 3 10], 60),
  (60, [true, true, true, false, false, false, false], [e1 60 (.iload_n 1) 1 1, ec 61 (.bipush 7) 2 7, e1 63 (.if_icmp .gt 11) 3 74, e1 66 (.lload_n 2) 1 2, ec 67 (.ldc2_w 332) 3 3000, e0 70 (.lcmp) 1, e1 71 (.ifCond .le 6) 3 77], 74),
  (74, [false, false, false, false, false, false, false], [ec 74 (.bipush (-3)) 2 (-3), e1 76 (.ireturn) 1 0], 77),
  (77, [true, true, false, false, false, false, false], [e1 77 (.aload_n 0) 1 0, e3 78 (.getfield 170) 3 22 22 0, e1 81 (.iload_n 1) 1 1, e0 82 (.iadd) 1, ec 83 (.sipush 300) 3 300, e1 86 (.if_icmp .le 6) 3 92, ec 89 (.bipush (-4)) 2 (-4), e1 91 (.ireturn) 1 0], 92),
  (92, [true, true, false, false, false, false, false], [ec 92 (.iconst 0) 1 0, e1 93 (.istore 4) 2 4], 95),
  (95, [true, true, false, false, true, false, false], [e1 95 (.iload 4) 2 4, e1 97 (.aload_n 0) 1 0, e3 98 (.getfield 167) 3 22 9 0, e1 101 (.if_icmp .ge 58) 3 159, e1 104 (.aload_n 0) 1 0, e3 105 (.getfield 78) 3 22 28 2, e1 108 (.iload 4) 2 4, e1 110 (.aload_n 0) 1 0, e1 111 (.iload 4) 2 4, ei 113 (.invokevirtual 321) 3 22 243 2 0 2, e1 116 (.ifCond .eq 16) 3 132, e1 119 (.aload_n 0) 1 0, e3 120 (.getfield 54) 3 22 18 2, e1 123 (.iload 4) 2 4, e0 125 (.laload) 1, ei 126 (.invokestatic 324) 3 0 246 1 0 3, e1 129 (.goto 23) 3 152], 132),
  (132, [true, true, false, false, true, false, false], [e1 132 (.aload_n 0) 1 0, e1 133 (.iload 4) 2 4, ei 135 (.invokevirtual 238) 3 22 208 2 0 2, e1 138 (.ifCond .eq 8) 3 146, ec 141 (.bipush (-9)) 2 (-9), e1 143 (.goto 9) 3 152], 146),
  (146, [true, true, false, false, true, false, false], [e1 146 (.aload_n 0) 1 0, e1 147 (.iload 4) 2 4, ei 149 (.invokevirtual 241) 3 22 215 2 0 2], 152),
  (152, [true, true, false, false, true, false, false], [e0 152 (.iastore) 1, ek 153 (.iinc 4 1) 3 1 4, e1 156 (.goto (-61)) 3 95], 159),
  (159, [true, true, false, false, false, false, false], [ec 159 (.iconst 1) 1 1, e1 160 (.istore 4) 2 4], 162),
  (162, [true, true, false, false, true, false, false], [e1 162 (.iload 4) 2 4, e1 164 (.ifCond .eq 19) 3 183, e1 167 (.aload_n 0) 1 0, ei 168 (.invokevirtual 337) 3 22 245 1 0 5, e1 171 (.ifCond .ne 12) 3 183, e1 174 (.aload_n 0) 1 0, ei 175 (.invokevirtual 341) 3 22 248 1 0 4, e1 178 (.istore 4) 2 4, e1 180 (.goto (-18)) 3 162], 183),
  (183, [true, true, false, false, true, false, false], [e1 183 (.iload 4) 2 4, e1 185 (.ifCond .ne 6) 3 191, ec 188 (.bipush (-5)) 2 (-5), e1 190 (.ireturn) 1 0], 191),
  (191, [true, true, false, false, false, false, false], [ec 191 (.iconst 0) 1 0, e1 192 (.istore 5) 2 5], 194),
  (194, [true, true, false, false, false, true, false], [e1 194 (.iload 5) 2 5, e1 196 (.aload_n 0) 1 0, e3 197 (.getfield 167) 3 22 9 0, e1 200 (.if_icmp .ge 33) 3 233, e1 203 (.aload_n 0) 1 0, e1 204 (.iload 5) 2 5, ei 206 (.invokevirtual 321) 3 22 243 2 0 2, e1 209 (.ifCond .eq 18) 3 227, e1 212 (.aload_n 0) 1 0, e1 213 (.iload 5) 2 5, e1 215 (.aload_n 0) 1 0, e3 216 (.getfield 78) 3 22 28 2, e1 219 (.iload 5) 2 5, e0 221 (.iaload) 1, ei 222 (.invokevirtual 284) 3 22 220 3 0 4, e1 225 (.istore 6) 2 6], 227),
  (227, [true, true, false, false, false, true, false], [ek 227 (.iinc 5 1) 3 1 5, e1 230 (.goto (-36)) 3 194], 233),
  (233, [false, true, false, false, false, false, false], [e1 233 (.iload_n 1) 1 1, e1 234 (.ireturn) 1 0], 235)]
set_option maxRecDepth 100000 in
def K_X12_set : List XB := [(0, [true, true], [e1 0 (.aload_n 0) 1 0, e1 1 (.iload_n 1) 1 1, e0 2 (.i2l) 1, ei 3 (.invokevirtual 262) 3 22 203 2 0 3, e1 6 (.ifCond .eq 12) 3 18, e1 9 (.aload_n 0) 1 0, e3 10 (.getfield 54) 3 22 18 2, e1 13 (.iload_n 1) 1 1, e0 14 (.laload) 1, e1 15 (.goto 4) 3 19], 18),
  (18, [false, false], [ec 18 (.lconst 0) 1 0], 19),
  (19, [false, false], [e0 19 (.lreturn) 1], 20)]
set_option maxRecDepth 100000 in
def K_X12_isRelation : List XB := [(0, [true, true], [e1 0 (.iload_n 1) 1 1, e0 1 (.i2l) 1, ec 2 (.lconst 0) 1 0, e1 3 (.aload_n 0) 1 0, e3 4 (.getfield 173) 3 22 29 0, ec 7 (.iconst 1) 1 1, e0 8 (.isub) 1, e0 9 (.i2l) 1, ei 10 (.invokestatic 191) 3 0 189 3 0 6, e1 13 (.ireturn) 1 1], 14)]
set_option maxRecDepth 100000 in
def K_X12_groupUp : List XB := [(0, [true, true, true, false, false, false, false], [ec 0 (.iconst 0) 1 0, e1 1 (.istore_n 3) 1 3], 2),
  (2, [true, true, true, true, false, false, false], [e1 2 (.iload_n 3) 1 3, e1 3 (.aload_n 0) 1 0, e3 4 (.getfield 167) 3 22 9 0, e1 7 (.if_icmp .ge 16) 3 23, e1 10 (.aload_n 0) 1 0, e3 11 (.getfield 84) 3 22 31 2, e1 14 (.iload_n 3) 1 3, e1 15 (.iload_n 3) 1 3, e0 16 (.iastore) 1, ek 17 (.iinc 3 1) 3 1 3, e1 20 (.goto (-18)) 3 2], 23),
  (23, [true, true, true, false, false, false, false], [ec 23 (.iconst 0) 1 0, e1 24 (.istore_n 3) 1 3], 25),
  (25, [true, true, true, true, false, false, false], [e1 25 (.iload_n 3) 1 3, e1 26 (.iload_n 2) 1 2, e1 27 (.if_icmp .ge 130) 3 157, e1 30 (.aload_n 0) 1 0, e3 31 (.getfield 66) 3 22 23 2, e1 34 (.iload_n 3) 1 3, e0 35 (.iaload) 1, ec 36 (.bipush 6) 2 6, e1 38 (.if_icmp .ne 113) 3 151, e1 41 (.aload_n 0) 1 0, e3 42 (.getfield 69) 3 22 24 2, e1 45 (.iload_n 3) 1 3, e0 46 (.iaload) 1, e1 47 (.iload_n 1) 1 1, e1 48 (.if_icmp .ne 103) 3 151, e1 51 (.aload_n 0) 1 0, e3 52 (.getfield 84) 3 22 31 2, e1 55 (.aload_n 0) 1 0, e3 56 (.getfield 72) 3 22 25 2, e1 59 (.iload_n 3) 1 3, e0 60 (.iaload) 1, e0 61 (.iaload) 1, e1 62 (.aload_n 0) 1 0, e3 63 (.getfield 84) 3 22 31 2, e1 66 (.aload_n 0) 1 0, e3 67 (.getfield 75) 3 22 26 2, e1 70 (.iload_n 3) 1 3, e0 71 (.iaload) 1, e0 72 (.iaload) 1, e1 73 (.if_icmp .eq 78) 3 151, e1 76 (.aload_n 0) 1 0, e3 77 (.getfield 84) 3 22 31 2, e1 80 (.aload_n 0) 1 0, e3 81 (.getfield 75) 3 22 26 2, e1 84 (.iload_n 3) 1 3, e0 85 (.iaload) 1, e0 86 (.iaload) 1, e1 87 (.istore 4) 2 4, e1 89 (.aload_n 0) 1 0, e3 90 (.getfield 84) 3 22 31 2, e1 93 (.aload_n 0) 1 0, e3 94 (.getfield 72) 3 22 25 2, e1 97 (.iload_n 3) 1 3, e0 98 (.iaload) 1, e0 99 (.iaload) 1, e1 100 (.istore 5) 2 5, ec 102 (.iconst 0) 1 0, e1 103 (.istore 6) 2 6], 105),
  (105, [true, true, true, true, true, true, true], [e1 105 (.iload 6) 2 6, e1 107 (.aload_n 0) 1 0, e3 108 (.getfield 167) 3 22 9 0, e1 111 (.if_icmp .ge 40) 3 151, e1 114 (.aload_n 0) 1 0, e3 115 (.getfield 84) 3 22 31 2, e1 118 (.iload 6) 2 6, e1 120 (.aload_n 0) 1 0, e3 121 (.getfield 84) 3 22 31 2, e1 124 (.iload 6) 2 6, e0 126 (.iaload) 1, e1 127 (.iload 4) 2 4, e1 129 (.if_icmp .ne 8) 3 137, e1 132 (.iload 5) 2 5, e1 134 (.goto 10) 3 144], 137),
  (137, [true, true, true, true, true, true, true], [e1 137 (.aload_n 0) 1 0, e3 138 (.getfield 84) 3 22 31 2, e1 141 (.iload 6) 2 6, e0 143 (.iaload) 1], 144),
  (144, [true, true, true, true, true, true, true], [e0 144 (.iastore) 1, ek 145 (.iinc 6 1) 3 1 6, e1 148 (.goto (-43)) 3 105], 151),
  (151, [true, true, true, true, false, false, false], [ek 151 (.iinc 3 1) 3 1 3, e1 154 (.goto (-129)) 3 25], 157),
  (157, [false, false, false, false, false, false, false], [e0 157 (.return_) 1], 158)]
set_option maxRecDepth 100000 in
def K_X12_told : List XB := [(0, [true, true, true, true, true, false], [ec 0 (.iconst 0) 1 0, e1 1 (.istore 5) 2 5], 3),
  (3, [true, true, true, true, true, true], [e1 3 (.iload 5) 2 5, e1 5 (.aload_n 0) 1 0, e3 6 (.getfield 170) 3 22 22 0, e1 9 (.if_icmp .ge 57) 3 66, e1 12 (.aload_n 0) 1 0, e3 13 (.getfield 66) 3 22 23 2, e1 16 (.iload 5) 2 5, e0 18 (.iaload) 1, e1 19 (.iload_n 1) 1 1, e1 20 (.if_icmp .ne 40) 3 60, e1 23 (.aload_n 0) 1 0, e3 24 (.getfield 69) 3 22 24 2, e1 27 (.iload 5) 2 5, e0 29 (.iaload) 1, e1 30 (.iload_n 2) 1 2, e1 31 (.if_icmp .ne 29) 3 60, e1 34 (.aload_n 0) 1 0, e3 35 (.getfield 72) 3 22 25 2, e1 38 (.iload 5) 2 5, e0 40 (.iaload) 1, e1 41 (.iload_n 3) 1 3, e1 42 (.if_icmp .ne 18) 3 60, e1 45 (.aload_n 0) 1 0, e3 46 (.getfield 75) 3 22 26 2, e1 49 (.iload 5) 2 5, e0 51 (.iaload) 1, e1 52 (.iload 4) 2 4, e1 54 (.if_icmp .ne 6) 3 60, e1 57 (.iload 5) 2 5, e1 59 (.ireturn) 1 0], 60),
  (60, [true, true, true, true, true, true], [ek 60 (.iinc 5 1) 3 1 5, e1 63 (.goto (-60)) 3 3], 66),
  (66, [false, false, false, false, false, false], [ec 66 (.bipush (-9)) 2 (-9), e1 68 (.ireturn) 1 0], 69)]
set_option maxRecDepth 100000 in
def K_X12_earlier : List XB := [(0, [true, true], [e1 0 (.iload_n 0) 1 0, ec 1 (.bipush (-9)) 2 (-9), e1 3 (.if_icmp .ne 7) 3 10, e1 6 (.iload_n 1) 1 1, e1 7 (.goto 19) 3 26], 10),
  (10, [true, true], [e1 10 (.iload_n 1) 1 1, ec 11 (.bipush (-9)) 2 (-9), e1 13 (.if_icmp .eq 8) 3 21, e1 16 (.iload_n 0) 1 0, e1 17 (.iload_n 1) 1 1, e1 18 (.if_icmp .ge 7) 3 25], 21),
  (21, [true, false], [e1 21 (.iload_n 0) 1 0, e1 22 (.goto 4) 3 26], 25),
  (25, [false, true], [e1 25 (.iload_n 1) 1 1], 26),
  (26, [false, false], [e1 26 (.ireturn) 1 0], 27)]
set_option maxRecDepth 100000 in
def K_X12_hasBy : List XB := [(0, [true, true, true, true, false], [e1 0 (.aload_n 0) 1 0, e3 1 (.getfield 81) 3 22 30 2, e1 4 (.iload_n 1) 1 1, e0 5 (.iaload) 1, ec 6 (.iconst 5) 1 5, e1 7 (.if_icmp .ne 63) 3 70, e1 10 (.aload_n 0) 1 0, e1 11 (.iload_n 1) 1 1, e1 12 (.aload_n 0) 1 0, e3 13 (.getfield 170) 3 22 22 0, ei 16 (.invokevirtual 344) 3 22 252 3 3 7, e1 19 (.aload_n 0) 1 0, e3 20 (.getfield 84) 3 22 31 2, e1 23 (.iload_n 2) 1 2, e0 24 (.iaload) 1, e1 25 (.aload_n 0) 1 0, e3 26 (.getfield 84) 3 22 31 2, e1 29 (.iload_n 3) 1 3, e0 30 (.iaload) 1, e1 31 (.if_icmp .eq 6) 3 37, ec 34 (.bipush (-9)) 2 (-9), e1 36 (.ireturn) 1 0], 37),
  (37, [true, true, true, true, false], [ec 37 (.iconst 0) 1 0, e1 38 (.istore 4) 2 4], 40),
  (40, [true, true, true, true, true], [ek 40 (.iinc 4 1) 3 1 4, e1 43 (.aload_n 0) 1 0, e1 44 (.iload_n 1) 1 1, e1 45 (.iload 4) 2 4, ei 47 (.invokevirtual 344) 3 22 252 3 3 7, e1 50 (.aload_n 0) 1 0, e3 51 (.getfield 84) 3 22 31 2, e1 54 (.iload_n 2) 1 2, e0 55 (.iaload) 1, e1 56 (.aload_n 0) 1 0, e3 57 (.getfield 84) 3 22 31 2, e1 60 (.iload_n 3) 1 3, e0 61 (.iaload) 1, e1 62 (.if_icmp .ne (-22)) 3 40, e1 65 (.iload 4) 2 4, ec 67 (.iconst 1) 1 1, e0 68 (.isub) 1, e1 69 (.ireturn) 1 0], 70),
  (70, [true, true, true, true, false], [e1 70 (.aload_n 0) 1 0, ec 71 (.bipush 6) 2 6, e1 73 (.iload_n 1) 1 1, e1 74 (.iload_n 2) 1 2, e1 75 (.iload_n 3) 1 3, ei 76 (.invokevirtual 348) 3 22 253 5 0 6, e1 79 (.istore 4) 2 4, e1 81 (.aload_n 0) 1 0, e3 82 (.getfield 81) 3 22 30 2, e1 85 (.iload_n 1) 1 1, e0 86 (.iaload) 1, ec 87 (.iconst 4) 1 4, e1 88 (.if_icmp .ne 20) 3 108, e1 91 (.iload 4) 2 4, e1 93 (.aload_n 0) 1 0, ec 94 (.bipush 6) 2 6, e1 96 (.iload_n 1) 1 1, e1 97 (.iload_n 3) 1 3, e1 98 (.iload_n 2) 1 2, ei 99 (.invokevirtual 348) 3 22 253 5 0 6, ei 102 (.invokestatic 351) 3 0 254 2 0 2, e1 105 (.goto 5) 3 110], 108),
  (108, [false, false, false, false, true], [e1 108 (.iload 4) 2 4], 110),
  (110, [false, false, false, false, false], [e1 110 (.ireturn) 1 0], 111)]
set_option maxRecDepth 100000 in
def K_X12_has : List XB := [(0, [true, true, true, true], [e1 0 (.iload_n 2) 1 2, e1 1 (.iload_n 3) 1 3, e1 2 (.if_icmp .ne 21) 3 23, e1 5 (.aload_n 0) 1 0, e3 6 (.getfield 81) 3 22 30 2, e1 9 (.iload_n 1) 1 1, e0 10 (.iaload) 1, ec 11 (.iconst 5) 1 5, e1 12 (.if_icmp .ne 7) 3 19, ec 15 (.iconst 1) 1 1, e1 16 (.goto 24) 3 40], 19),
  (19, [false, false, false, false], [ec 19 (.iconst 0) 1 0, e1 20 (.goto 20) 3 40], 23),
  (23, [true, true, true, true], [e1 23 (.aload_n 0) 1 0, e1 24 (.iload_n 1) 1 1, e1 25 (.iload_n 2) 1 2, e1 26 (.iload_n 3) 1 3, ei 27 (.invokevirtual 354) 3 22 255 4 0 5, ec 30 (.bipush (-9)) 2 (-9), e1 32 (.if_icmp .eq 7) 3 39, ec 35 (.iconst 1) 1 1, e1 36 (.goto 4) 3 40], 39),
  (39, [false, false, false, false], [ec 39 (.iconst 0) 1 0], 40),
  (40, [false, false, false, false], [e1 40 (.ireturn) 1 1], 41)]
set_option maxRecDepth 100000 in
def K_X12_deniedBy : List XB := [(0, [true, true, true, true, false], [e1 0 (.aload_n 0) 1 0, e3 1 (.getfield 81) 3 22 30 2, e1 4 (.iload_n 1) 1 1, e0 5 (.iaload) 1, ec 6 (.iconst 5) 1 5, e1 7 (.if_icmp .ne 143) 3 150, e1 10 (.aload_n 0) 1 0, e1 11 (.iload_n 1) 1 1, e1 12 (.aload_n 0) 1 0, e3 13 (.getfield 170) 3 22 22 0, ei 16 (.invokevirtual 344) 3 22 252 3 3 7, ec 19 (.iconst 0) 1 0, e1 20 (.istore 4) 2 4], 22),
  (22, [true, true, true, true, true], [e1 22 (.iload 4) 2 4, e1 24 (.aload_n 0) 1 0, e3 25 (.getfield 170) 3 22 22 0, e1 28 (.if_icmp .ge 119) 3 147, e1 31 (.aload_n 0) 1 0, e3 32 (.getfield 66) 3 22 23 2, e1 35 (.iload 4) 2 4, e0 37 (.iaload) 1, ec 38 (.bipush 7) 2 7, e1 40 (.if_icmp .ne 101) 3 141, e1 43 (.aload_n 0) 1 0, e3 44 (.getfield 69) 3 22 24 2, e1 47 (.iload 4) 2 4, e0 49 (.iaload) 1, e1 50 (.iload_n 1) 1 1, e1 51 (.if_icmp .ne 90) 3 141, e1 54 (.aload_n 0) 1 0, e3 55 (.getfield 84) 3 22 31 2, e1 58 (.aload_n 0) 1 0, e3 59 (.getfield 72) 3 22 25 2, e1 62 (.iload 4) 2 4, e0 64 (.iaload) 1, e0 65 (.iaload) 1, e1 66 (.aload_n 0) 1 0, e3 67 (.getfield 84) 3 22 31 2, e1 70 (.iload_n 2) 1 2, e0 71 (.iaload) 1, e1 72 (.if_icmp .ne 24) 3 96, e1 75 (.aload_n 0) 1 0, e3 76 (.getfield 84) 3 22 31 2, e1 79 (.aload_n 0) 1 0, e3 80 (.getfield 75) 3 22 26 2, e1 83 (.iload 4) 2 4, e0 85 (.iaload) 1, e0 86 (.iaload) 1, e1 87 (.aload_n 0) 1 0, e3 88 (.getfield 84) 3 22 31 2, e1 91 (.iload_n 3) 1 3, e0 92 (.iaload) 1, e1 93 (.if_icmp .eq 45) 3 138], 96),
  (96, [true, true, true, true, true], [e1 96 (.aload_n 0) 1 0, e3 97 (.getfield 84) 3 22 31 2, e1 100 (.aload_n 0) 1 0, e3 101 (.getfield 72) 3 22 25 2, e1 104 (.iload 4) 2 4, e0 106 (.iaload) 1, e0 107 (.iaload) 1, e1 108 (.aload_n 0) 1 0, e3 109 (.getfield 84) 3 22 31 2, e1 112 (.iload_n 3) 1 3, e0 113 (.iaload) 1, e1 114 (.if_icmp .ne 27) 3 141, e1 117 (.aload_n 0) 1 0, e3 118 (.getfield 84) 3 22 31 2, e1 121 (.aload_n 0) 1 0, e3 122 (.getfield 75) 3 22 26 2, e1 125 (.iload 4) 2 4, e0 127 (.iaload) 1, e0 128 (.iaload) 1, e1 129 (.aload_n 0) 1 0, e3 130 (.getfield 84) 3 22 31 2, e1 133 (.iload_n 2) 1 2, e0 134 (.iaload) 1, e1 135 (.if_icmp .ne 6) 3 141], 138),
  (138, [false, false, false, false, true], [e1 138 (.iload 4) 2 4, e1 140 (.ireturn) 1 0], 141),
  (141, [true, true, true, true, true], [ek 141 (.iinc 4 1) 3 1 4, e1 144 (.goto (-122)) 3 22], 147),
  (147, [false, false, false, false, false], [ec 147 (.bipush (-9)) 2 (-9), e1 149 (.ireturn) 1 0], 150),
  (150, [true, true, true, true, false], [e1 150 (.aload_n 0) 1 0, ec 151 (.bipush 7) 2 7, e1 153 (.iload_n 1) 1 1, e1 154 (.iload_n 2) 1 2, e1 155 (.iload_n 3) 1 3, ei 156 (.invokevirtual 348) 3 22 253 5 0 6, e1 159 (.istore 4) 2 4, e1 161 (.aload_n 0) 1 0, e3 162 (.getfield 81) 3 22 30 2, e1 165 (.iload_n 1) 1 1, e0 166 (.iaload) 1, ec 167 (.iconst 4) 1 4, e1 168 (.if_icmp .ne 20) 3 188, e1 171 (.iload 4) 2 4, e1 173 (.aload_n 0) 1 0, ec 174 (.bipush 7) 2 7, e1 176 (.iload_n 1) 1 1, e1 177 (.iload_n 3) 1 3, e1 178 (.iload_n 2) 1 2, ei 179 (.invokevirtual 348) 3 22 253 5 0 6, ei 182 (.invokestatic 351) 3 0 254 2 0 2, e1 185 (.goto 5) 3 190], 188),
  (188, [false, false, false, false, true], [e1 188 (.iload 4) 2 4], 190),
  (190, [false, false, false, false, false], [e1 190 (.ireturn) 1 0], 191)]
set_option maxRecDepth 100000 in
def K_X12_oneOnly : List XB := [(0, [true, true, true, true, false, false], [e1 0 (.aload_n 0) 1 0, e3 1 (.getfield 81) 3 22 30 2, e1 4 (.iload_n 1) 1 1, e0 5 (.iaload) 1, e1 6 (.istore 4) 2 4, ec 8 (.iconst 0) 1 0, e1 9 (.istore 5) 2 5], 11),
  (11, [true, true, true, true, true, true], [e1 11 (.iload 5) 2 5, e1 13 (.aload_n 0) 1 0, e3 14 (.getfield 170) 3 22 22 0, e1 17 (.if_icmp .ge 57) 3 74, e1 20 (.iload 4) 2 4, e1 22 (.ifCond .eq 9) 3 31, e1 25 (.iload 4) 2 4, ec 27 (.iconst 2) 1 2, e1 28 (.if_icmp .ne 46) 3 74], 31),
  (31, [true, true, true, true, true, true], [e1 31 (.aload_n 0) 1 0, e3 32 (.getfield 66) 3 22 23 2, e1 35 (.iload 5) 2 5, e0 37 (.iaload) 1, ec 38 (.bipush 6) 2 6, e1 40 (.if_icmp .ne 28) 3 68, e1 43 (.aload_n 0) 1 0, e3 44 (.getfield 69) 3 22 24 2, e1 47 (.iload 5) 2 5, e0 49 (.iaload) 1, e1 50 (.iload_n 1) 1 1, e1 51 (.if_icmp .ne 17) 3 68, e1 54 (.aload_n 0) 1 0, e3 55 (.getfield 72) 3 22 25 2, e1 58 (.iload 5) 2 5, e0 60 (.iaload) 1, e1 61 (.iload_n 2) 1 2, e1 62 (.if_icmp .ne 6) 3 68, e1 65 (.iload 5) 2 5, e1 67 (.ireturn) 1 0], 68),
  (68, [true, true, true, true, true, true], [ek 68 (.iinc 5 1) 3 1 5, e1 71 (.goto (-60)) 3 11], 74),
  (74, [true, true, false, true, true, false], [ec 74 (.iconst 0) 1 0, e1 75 (.istore 5) 2 5], 77),
  (77, [true, true, false, true, true, true], [e1 77 (.iload 5) 2 5, e1 79 (.aload_n 0) 1 0, e3 80 (.getfield 170) 3 22 22 0, e1 83 (.if_icmp .ge 52) 3 135, e1 86 (.iload 4) 2 4, ec 88 (.iconst 2) 1 2, e1 89 (.if_icmp .ge 46) 3 135, e1 92 (.aload_n 0) 1 0, e3 93 (.getfield 66) 3 22 23 2, e1 96 (.iload 5) 2 5, e0 98 (.iaload) 1, ec 99 (.bipush 6) 2 6, e1 101 (.if_icmp .ne 28) 3 129, e1 104 (.aload_n 0) 1 0, e3 105 (.getfield 69) 3 22 24 2, e1 108 (.iload 5) 2 5, e0 110 (.iaload) 1, e1 111 (.iload_n 1) 1 1, e1 112 (.if_icmp .ne 17) 3 129, e1 115 (.aload_n 0) 1 0, e3 116 (.getfield 75) 3 22 26 2, e1 119 (.iload 5) 2 5, e0 121 (.iaload) 1, e1 122 (.iload_n 3) 1 3, e1 123 (.if_icmp .ne 6) 3 129, e1 126 (.iload 5) 2 5, e1 128 (.ireturn) 1 0], 129),
  (129, [true, true, false, true, true, true], [ek 129 (.iinc 5 1) 3 1 5, e1 132 (.goto (-55)) 3 77], 135),
  (135, [false, false, false, false, false, false], [ec 135 (.bipush (-9)) 2 (-9), e1 137 (.ireturn) 1 0], 138)]
set_option maxRecDepth 100000 in
def K_X12_relation : List XB := [(0, [true, true], [e1 0 (.iload_n 1) 1 1, e0 1 (.i2l) 1, ec 2 (.lconst 0) 1 0, ec 3 (.ldc2_w 357) 3 5, ei 6 (.invokestatic 191) 3 0 189 3 0 6, e1 9 (.ifCond .ne 6) 3 15, ec 12 (.bipush (-2)) 2 (-2), e1 14 (.ireturn) 1 0], 15),
  (15, [true, true], [e1 15 (.aload_n 0) 1 0, e3 16 (.getfield 173) 3 22 29 0, ec 19 (.bipush 8) 2 8, e1 21 (.if_icmp .ne 6) 3 27, ec 24 (.bipush (-4)) 2 (-4), e1 26 (.ireturn) 1 0], 27),
  (27, [true, true], [e1 27 (.aload_n 0) 1 0, e3 28 (.getfield 81) 3 22 30 2, e1 31 (.aload_n 0) 1 0, e3 32 (.getfield 173) 3 22 29 0, e1 35 (.iload_n 1) 1 1, e0 36 (.iastore) 1, e1 37 (.aload_n 0) 1 0, e0 38 (.dup) 1, e3 39 (.getfield 173) 3 22 29 0, ec 42 (.iconst 1) 1 1, e0 43 (.iadd) 1, e3 44 (.putfield 173) 3 22 29 0, e1 47 (.aload_n 0) 1 0, e3 48 (.getfield 173) 3 22 29 0, ec 51 (.iconst 1) 1 1, e0 52 (.isub) 1, e1 53 (.ireturn) 1 0], 54)]
set_option maxRecDepth 100000 in
def K_X12_isCouple : List XB := [(0, [true, true, true, true], [e1 0 (.aload_n 0) 1 0, e1 1 (.iload_n 1) 1 1, ei 2 (.invokevirtual 359) 3 22 251 2 0 2, e1 5 (.ifCond .eq 25) 3 30, e1 8 (.aload_n 0) 1 0, e1 9 (.iload_n 2) 1 2, e0 10 (.i2l) 1, ei 11 (.invokevirtual 262) 3 22 203 2 0 3, e1 14 (.ifCond .eq 16) 3 30, e1 17 (.aload_n 0) 1 0, e1 18 (.iload_n 3) 1 3, e0 19 (.i2l) 1, ei 20 (.invokevirtual 262) 3 22 203 2 0 3, e1 23 (.ifCond .eq 7) 3 30, ec 26 (.iconst 1) 1 1, e1 27 (.goto 4) 3 31], 30),
  (30, [false, false, false, false], [ec 30 (.iconst 0) 1 0], 31),
  (31, [false, false, false, false], [e1 31 (.ireturn) 1 1], 32)]
set_option maxRecDepth 100000 in
def K_X12_relate : List XB := [(0, [true, true, true, true, false], [e1 0 (.aload_n 0) 1 0, e1 1 (.iload_n 1) 1 1, e1 2 (.iload_n 2) 1 2, e1 3 (.iload_n 3) 1 3, ei 4 (.invokevirtual 362) 3 22 260 4 0 4, e1 7 (.ifCond .ne 5) 3 12, ec 10 (.iconst (-1)) 1 (-1), e1 11 (.ireturn) 1 0], 12),
  (12, [true, true, true, true, false], [e1 12 (.iload_n 2) 1 2, e1 13 (.iload_n 3) 1 3, e1 14 (.if_icmp .eq 13) 3 27, e1 17 (.aload_n 0) 1 0, e1 18 (.iload_n 1) 1 1, e1 19 (.iload_n 2) 1 2, e1 20 (.iload_n 3) 1 3, ei 21 (.invokevirtual 366) 3 22 256 4 0 4, e1 24 (.ifCond .eq 6) 3 30], 27),
  (27, [false, false, false, false, false], [ec 27 (.bipush (-3)) 2 (-3), e1 29 (.ireturn) 1 0], 30),
  (30, [true, true, true, true, false], [e1 30 (.aload_n 0) 1 0, e3 31 (.getfield 170) 3 22 22 0, ec 34 (.sipush 300) 3 300, e1 37 (.if_icmp .ne 6) 3 43, ec 40 (.bipush (-4)) 2 (-4), e1 42 (.ireturn) 1 0], 43),
  (43, [true, true, true, true, false], [e1 43 (.aload_n 0) 1 0, e1 44 (.iload_n 1) 1 1, e1 45 (.iload_n 2) 1 2, e1 46 (.iload_n 3) 1 3, ei 47 (.invokevirtual 369) 3 22 257 4 0 5, e1 50 (.istore 4) 2 4, e1 52 (.iload 4) 2 4, ec 54 (.bipush (-9)) 2 (-9), e1 56 (.if_icmp .ne 13) 3 69, e1 59 (.aload_n 0) 1 0, e1 60 (.iload_n 1) 1 1, e1 61 (.iload_n 2) 1 2, e1 62 (.iload_n 3) 1 3, ei 63 (.invokevirtual 372) 3 22 258 4 0 6, e1 66 (.goto 5) 3 71], 69),
  (69, [true, true, true, true, true], [e1 69 (.iload 4) 2 4], 71),
  (71, [true, true, true, true, false], [e1 71 (.istore 4) 2 4, e1 73 (.iload 4) 2 4, ec 75 (.bipush (-9)) 2 (-9), e1 77 (.if_icmp .eq 11) 3 88, e1 80 (.iload 4) 2 4, ei 82 (.invokestatic 281) 3 0 211 1 0 1, e1 85 (.goto 12) 3 97], 88),
  (88, [true, true, true, true, false], [e1 88 (.aload_n 0) 1 0, ec 89 (.bipush 6) 2 6, e1 91 (.iload_n 1) 1 1, e1 92 (.iload_n 2) 1 2, e1 93 (.iload_n 3) 1 3, ei 94 (.invokevirtual 258) 3 22 210 5 0 5], 97),
  (97, [false, false, false, false, false], [e1 97 (.ireturn) 1 0], 98)]
set_option maxRecDepth 100000 in
def K_X12_deny : List XB := [(0, [true, true, true, true, false], [e1 0 (.aload_n 0) 1 0, e1 1 (.iload_n 1) 1 1, e1 2 (.iload_n 2) 1 2, e1 3 (.iload_n 3) 1 3, ei 4 (.invokevirtual 362) 3 22 260 4 0 4, e1 7 (.ifCond .ne 5) 3 12, ec 10 (.iconst (-1)) 1 (-1), e1 11 (.ireturn) 1 0], 12),
  (12, [true, true, true, true, false], [e1 12 (.iload_n 2) 1 2, e1 13 (.iload_n 3) 1 3, e1 14 (.if_icmp .eq 17) 3 31, e1 17 (.aload_n 0) 1 0, ec 18 (.bipush 7) 2 7, e1 20 (.iload_n 1) 1 1, e1 21 (.iload_n 2) 1 2, e1 22 (.iload_n 3) 1 3, ei 23 (.invokevirtual 348) 3 22 253 5 0 6, ec 26 (.bipush (-9)) 2 (-9), e1 28 (.if_icmp .eq 6) 3 34], 31),
  (31, [false, false, false, false, false], [ec 31 (.bipush (-3)) 2 (-3), e1 33 (.ireturn) 1 0], 34),
  (34, [true, true, true, true, false], [e1 34 (.aload_n 0) 1 0, e3 35 (.getfield 170) 3 22 22 0, ec 38 (.sipush 300) 3 300, e1 41 (.if_icmp .ne 6) 3 47, ec 44 (.bipush (-4)) 2 (-4), e1 46 (.ireturn) 1 0], 47),
  (47, [true, true, true, true, false], [e1 47 (.aload_n 0) 1 0, e1 48 (.iload_n 1) 1 1, e1 49 (.iload_n 2) 1 2, e1 50 (.iload_n 3) 1 3, ei 51 (.invokevirtual 354) 3 22 255 4 0 5, e1 54 (.istore 4) 2 4, e1 56 (.iload 4) 2 4, ec 58 (.bipush (-9)) 2 (-9), e1 60 (.if_icmp .eq 11) 3 71, e1 63 (.iload 4) 2 4, ei 65 (.invokestatic 281) 3 0 211 1 0 1, e1 68 (.goto 12) 3 80], 71),
  (71, [true, true, true, true, false], [e1 71 (.aload_n 0) 1 0, ec 72 (.bipush 7) 2 7, e1 74 (.iload_n 1) 1 1, e1 75 (.iload_n 2) 1 2, e1 76 (.iload_n 3) 1 3, ei 77 (.invokevirtual 258) 3 22 210 5 0 5], 80),
  (80, [false, false, false, false, false], [e1 80 (.ireturn) 1 0], 81)]
set_option maxRecDepth 100000 in
def K_X12_related : List XB := [(0, [true, true, true, true], [e1 0 (.aload_n 0) 1 0, e1 1 (.iload_n 1) 1 1, e1 2 (.iload_n 2) 1 2, e1 3 (.iload_n 3) 1 3, ei 4 (.invokevirtual 362) 3 22 260 4 0 4, e1 7 (.ifCond .ne 7) 3 14, ec 10 (.iconst (-1)) 1 (-1), e1 11 (.goto 18) 3 29], 14),
  (14, [true, true, true, true], [e1 14 (.aload_n 0) 1 0, e1 15 (.iload_n 1) 1 1, e1 16 (.iload_n 2) 1 2, e1 17 (.iload_n 3) 1 3, ei 18 (.invokevirtual 366) 3 22 256 4 0 4, e1 21 (.ifCond .eq 7) 3 28, ec 24 (.iconst 1) 1 1, e1 25 (.goto 4) 3 29], 28),
  (28, [false, false, false, false], [ec 28 (.iconst 0) 1 0], 29),
  (29, [false, false, false, false], [e1 29 (.ireturn) 1 0], 30)]
set_option maxRecDepth 100000 in
def K_X12_couples : List XB := [(0, [true, true, false, false], [e1 0 (.aload_n 0) 1 0, e3 1 (.getfield 81) 3 22 30 2, e1 4 (.iload_n 1) 1 1, e0 5 (.iaload) 1, ec 6 (.iconst 5) 1 5, e1 7 (.if_icmp .ne 12) 3 19, e1 10 (.aload_n 0) 1 0, e1 11 (.iload_n 1) 1 1, e1 12 (.aload_n 0) 1 0, e3 13 (.getfield 170) 3 22 22 0, ei 16 (.invokevirtual 344) 3 22 252 3 3 7], 19),
  (19, [true, true, false, false], [ec 19 (.iconst 0) 1 0, e1 20 (.istore_n 2) 1 2], 21),
  (21, [true, true, true, false], [e1 21 (.iload_n 2) 1 2, e1 22 (.aload_n 0) 1 0, e3 23 (.getfield 167) 3 22 9 0, e1 26 (.if_icmp .ge 71) 3 97, ec 29 (.iconst 0) 1 0, e1 30 (.istore_n 3) 1 3], 31),
  (31, [true, true, true, true], [e1 31 (.iload_n 3) 1 3, e1 32 (.aload_n 0) 1 0, e3 33 (.getfield 167) 3 22 9 0, e1 36 (.if_icmp .ge 55) 3 91, e1 39 (.aload_n 0) 1 0, e3 40 (.getfield 93) 3 22 34 2, ec 43 (.bipush 64) 2 64, e1 45 (.iload_n 2) 1 2, e0 46 (.imul) 1, e1 47 (.iload_n 3) 1 3, e0 48 (.iadd) 1, e1 49 (.aload_n 0) 1 0, e3 50 (.getfield 81) 3 22 30 2, e1 53 (.iload_n 1) 1 1, e0 54 (.iaload) 1, ec 55 (.iconst 5) 1 5, e1 56 (.if_icmp .ne 27) 3 83, e1 59 (.iload_n 2) 1 2, e1 60 (.iload_n 3) 1 3, e1 61 (.if_icmp .eq 22) 3 83, e1 64 (.aload_n 0) 1 0, e3 65 (.getfield 84) 3 22 31 2, e1 68 (.iload_n 2) 1 2, e0 69 (.iaload) 1, e1 70 (.aload_n 0) 1 0, e3 71 (.getfield 84) 3 22 31 2, e1 74 (.iload_n 3) 1 3, e0 75 (.iaload) 1, e1 76 (.if_icmp .ne 7) 3 83, ec 79 (.iconst 1) 1 1, e1 80 (.goto 4) 3 84], 83),
  (83, [true, true, true, true], [ec 83 (.iconst 0) 1 0], 84),
  (84, [true, true, true, true], [e0 84 (.bastore) 1, ek 85 (.iinc 3 1) 3 1 3, e1 88 (.goto (-57)) 3 31], 91),
  (91, [true, true, true, false], [ek 91 (.iinc 2 1) 3 1 2, e1 94 (.goto (-73)) 3 21], 97),
  (97, [true, true, false, false], [ec 97 (.iconst 0) 1 0, e1 98 (.istore_n 2) 1 2], 99),
  (99, [true, true, true, false], [e1 99 (.iload_n 2) 1 2, e1 100 (.aload_n 0) 1 0, e3 101 (.getfield 170) 3 22 22 0, e1 104 (.if_icmp .ge 101) 3 205, e1 107 (.aload_n 0) 1 0, e3 108 (.getfield 81) 3 22 30 2, e1 111 (.iload_n 1) 1 1, e0 112 (.iaload) 1, ec 113 (.iconst 5) 1 5, e1 114 (.if_icmp .eq 91) 3 205, e1 117 (.aload_n 0) 1 0, e3 118 (.getfield 66) 3 22 23 2, e1 121 (.iload_n 2) 1 2, e0 122 (.iaload) 1, ec 123 (.bipush 6) 2 6, e1 125 (.if_icmp .ne 74) 3 199, e1 128 (.aload_n 0) 1 0, e3 129 (.getfield 69) 3 22 24 2, e1 132 (.iload_n 2) 1 2, e0 133 (.iaload) 1, e1 134 (.iload_n 1) 1 1, e1 135 (.if_icmp .ne 64) 3 199, e1 138 (.aload_n 0) 1 0, e3 139 (.getfield 93) 3 22 34 2, ec 142 (.bipush 64) 2 64, e1 144 (.aload_n 0) 1 0, e3 145 (.getfield 72) 3 22 25 2, e1 148 (.iload_n 2) 1 2, e0 149 (.iaload) 1, e0 150 (.imul) 1, e1 151 (.aload_n 0) 1 0, e3 152 (.getfield 75) 3 22 26 2, e1 155 (.iload_n 2) 1 2, e0 156 (.iaload) 1, e0 157 (.iadd) 1, ec 158 (.iconst 1) 1 1, e0 159 (.bastore) 1, e1 160 (.aload_n 0) 1 0, e3 161 (.getfield 93) 3 22 34 2, ec 164 (.bipush 64) 2 64, e1 166 (.aload_n 0) 1 0, e3 167 (.getfield 75) 3 22 26 2, e1 170 (.iload_n 2) 1 2, e0 171 (.iaload) 1, e0 172 (.imul) 1, e1 173 (.aload_n 0) 1 0, e3 174 (.getfield 72) 3 22 25 2, e1 177 (.iload_n 2) 1 2, e0 178 (.iaload) 1, e0 179 (.iadd) 1, e0 180 (.dup2) 1, e0 181 (.baload) 1, e1 182 (.aload_n 0) 1 0, e3 183 (.getfield 81) 3 22 30 2, e1 186 (.iload_n 1) 1 1, e0 187 (.iaload) 1, ec 188 (.iconst 4) 1 4, e1 189 (.if_icmp .ne 7) 3 196, ec 192 (.iconst 1) 1 1, e1 193 (.goto 4) 3 197], 196),
  (196, [true, true, true, false], [ec 196 (.iconst 0) 1 0], 197),
  (197, [true, true, true, false], [e0 197 (.ior) 1, e0 198 (.bastore) 1], 199),
  (199, [true, true, true, false], [ek 199 (.iinc 2 1) 3 1 2, e1 202 (.goto (-103)) 3 99], 205),
  (205, [false, false, false, false], [e0 205 (.return_) 1], 206)]
set_option maxRecDepth 100000 in
def K_X12_goBack : List XB := [(0, [true, true, false, false, false], [ec 0 (.iconst 0) 1 0, e1 1 (.istore_n 2) 1 2], 2),
  (2, [true, true, true, false, false], [e1 2 (.iload_n 2) 1 2, e1 3 (.aload_n 0) 1 0, e3 4 (.getfield 167) 3 22 9 0, e1 7 (.if_icmp .ge 17) 3 24, e1 10 (.aload_n 0) 1 0, e3 11 (.getfield 87) 3 22 32 2, e1 14 (.iload_n 2) 1 2, ec 15 (.bipush (-9)) 2 (-9), e0 17 (.iastore) 1, ek 18 (.iinc 2 1) 3 1 2, e1 21 (.goto (-19)) 3 2], 24),
  (24, [true, true, false, false, false], [e1 24 (.aload_n 0) 1 0, e3 25 (.getfield 87) 3 22 32 2, e1 28 (.iload_n 1) 1 1, ec 29 (.iconst 0) 1 0, e0 30 (.iastore) 1, e1 31 (.aload_n 0) 1 0, e3 32 (.getfield 90) 3 22 33 2, ec 35 (.iconst 0) 1 0, e1 36 (.iload_n 1) 1 1, e0 37 (.iastore) 1, ec 38 (.iconst 1) 1 1, e1 39 (.istore_n 2) 1 2, ec 40 (.iconst 0) 1 0, e1 41 (.istore_n 3) 1 3], 42),
  (42, [true, false, true, true, false], [e1 42 (.iload_n 3) 1 3, e1 43 (.iload_n 2) 1 2, e1 44 (.if_icmp .ge 90) 3 134, ec 47 (.iconst 0) 1 0, e1 48 (.istore 4) 2 4], 50),
  (50, [true, false, true, true, true], [e1 50 (.iload 4) 2 4, e1 52 (.aload_n 0) 1 0, e3 53 (.getfield 167) 3 22 9 0, e1 56 (.if_icmp .ge 72) 3 128, e1 59 (.aload_n 0) 1 0, e3 60 (.getfield 87) 3 22 32 2, e1 63 (.iload 4) 2 4, e0 65 (.iaload) 1, ec 66 (.bipush (-9)) 2 (-9), e1 68 (.if_icmp .ne 54) 3 122, e1 71 (.aload_n 0) 1 0, e3 72 (.getfield 93) 3 22 34 2, ec 75 (.bipush 64) 2 64, e1 77 (.iload 4) 2 4, e0 79 (.imul) 1, e1 80 (.aload_n 0) 1 0, e3 81 (.getfield 90) 3 22 33 2, e1 84 (.iload_n 3) 1 3, e0 85 (.iaload) 1, e0 86 (.iadd) 1, e0 87 (.baload) 1, e1 88 (.ifCond .eq 34) 3 122, e1 91 (.aload_n 0) 1 0, e3 92 (.getfield 87) 3 22 32 2, e1 95 (.iload 4) 2 4, e1 97 (.aload_n 0) 1 0, e3 98 (.getfield 87) 3 22 32 2, e1 101 (.aload_n 0) 1 0, e3 102 (.getfield 90) 3 22 33 2, e1 105 (.iload_n 3) 1 3, e0 106 (.iaload) 1, e0 107 (.iaload) 1, ec 108 (.iconst 1) 1 1, e0 109 (.iadd) 1, e0 110 (.iastore) 1, e1 111 (.aload_n 0) 1 0, e3 112 (.getfield 90) 3 22 33 2, e1 115 (.iload_n 2) 1 2, e1 116 (.iload 4) 2 4, e0 118 (.iastore) 1, ek 119 (.iinc 2 1) 3 1 2], 122),
  (122, [true, false, true, true, true], [ek 122 (.iinc 4 1) 3 1 4, e1 125 (.goto (-75)) 3 50], 128),
  (128, [true, false, true, true, false], [ek 128 (.iinc 3 1) 3 1 3, e1 131 (.goto (-89)) 3 42], 134),
  (134, [false, false, false, false, false], [e0 134 (.return_) 1], 135)]
set_option maxRecDepth 100000 in
def K_X12_along : List XB := [(0, [true, true, true, true], [e1 0 (.aload_n 0) 1 0, e1 1 (.iload_n 1) 1 1, e1 2 (.iload_n 2) 1 2, e1 3 (.iload_n 3) 1 3, ei 4 (.invokevirtual 362) 3 22 260 4 0 4, e1 7 (.ifCond .ne 5) 3 12, ec 10 (.iconst (-1)) 1 (-1), e1 11 (.ireturn) 1 0], 12),
  (12, [true, true, true, true], [e1 12 (.aload_n 0) 1 0, e1 13 (.iload_n 1) 1 1, ei 14 (.invokevirtual 375) 3 22 264 2 3 4, e1 17 (.aload_n 0) 1 0, e1 18 (.iload_n 3) 1 3, ei 19 (.invokevirtual 379) 3 22 265 2 3 5, e1 22 (.aload_n 0) 1 0, e3 23 (.getfield 87) 3 22 32 2, e1 26 (.iload_n 2) 1 2, e0 27 (.iaload) 1, e1 28 (.ireturn) 1 0], 29)]
set_option maxRecDepth 100000 in
def K_X12_next : List XB := [(0, [true, true, true, true, false], [e1 0 (.aload_n 0) 1 0, e1 1 (.iload_n 1) 1 1, e1 2 (.iload_n 2) 1 2, e1 3 (.iload_n 3) 1 3, ei 4 (.invokevirtual 362) 3 22 260 4 0 4, e1 7 (.ifCond .ne 5) 3 12, ec 10 (.iconst (-1)) 1 (-1), e1 11 (.ireturn) 1 0], 12),
  (12, [true, true, true, true, false], [e1 12 (.aload_n 0) 1 0, e1 13 (.iload_n 1) 1 1, ei 14 (.invokevirtual 375) 3 22 264 2 3 4, e1 17 (.aload_n 0) 1 0, e1 18 (.iload_n 3) 1 3, ei 19 (.invokevirtual 379) 3 22 265 2 3 5, e1 22 (.iload_n 2) 1 2, e1 23 (.iload_n 3) 1 3, e1 24 (.if_icmp .eq 14) 3 38, e1 27 (.aload_n 0) 1 0, e3 28 (.getfield 87) 3 22 32 2, e1 31 (.iload_n 2) 1 2, e0 32 (.iaload) 1, ec 33 (.bipush (-9)) 2 (-9), e1 35 (.if_icmp .ne 6) 3 41], 38),
  (38, [false, false, false, false, false], [ec 38 (.bipush (-9)) 2 (-9), e1 40 (.ireturn) 1 0], 41),
  (41, [true, false, true, false, false], [ec 41 (.iconst 0) 1 0, e1 42 (.istore 4) 2 4], 44),
  (44, [true, false, true, false, true], [e1 44 (.aload_n 0) 1 0, e3 45 (.getfield 93) 3 22 34 2, ec 48 (.bipush 64) 2 64, e1 50 (.iload_n 2) 1 2, e0 51 (.imul) 1, e1 52 (.iload 4) 2 4, e0 54 (.iadd) 1, e0 55 (.baload) 1, e1 56 (.ifCond .eq 21) 3 77, e1 59 (.aload_n 0) 1 0, e3 60 (.getfield 87) 3 22 32 2, e1 63 (.iload 4) 2 4, e0 65 (.iaload) 1, e1 66 (.aload_n 0) 1 0, e3 67 (.getfield 87) 3 22 32 2, e1 70 (.iload_n 2) 1 2, e0 71 (.iaload) 1, ec 72 (.iconst 1) 1 1, e0 73 (.isub) 1, e1 74 (.if_icmp .eq 9) 3 83], 77),
  (77, [true, false, true, false, true], [ek 77 (.iinc 4 1) 3 1 4, e1 80 (.goto (-36)) 3 44], 83),
  (83, [false, false, false, false, true], [e1 83 (.iload 4) 2 4, e1 85 (.ireturn) 1 0], 86)]
set_option maxRecDepth 100000 in
def K_X12_isRoom : List XB := [(0, [true, true], [e1 0 (.aload_n 0) 1 0, e1 1 (.iload_n 1) 1 1, e0 2 (.i2l) 1, ei 3 (.invokevirtual 262) 3 22 203 2 0 3, e1 6 (.ifCond .eq 16) 3 22, e1 9 (.aload_n 0) 1 0, e1 10 (.iload_n 1) 1 1, ei 11 (.invokevirtual 230) 3 22 204 2 0 2, ec 14 (.iconst 1) 1 1, e1 15 (.if_icmp .ne 7) 3 22, ec 18 (.iconst 1) 1 1, e1 19 (.goto 4) 3 23], 22),
  (22, [false, false], [ec 22 (.iconst 0) 1 0], 23),
  (23, [false, false], [e1 23 (.ireturn) 1 1], 24)]
set_option maxRecDepth 100000 in
def K_X12_lead : List XB := [(0, [true, true, true, true, true, true], [e1 0 (.aload_n 0) 1 0, e3 1 (.getfield 96) 3 22 35 2, e1 4 (.iload_n 1) 1 1, e1 5 (.iload_n 2) 1 2, e0 6 (.iastore) 1, e1 7 (.aload_n 0) 1 0, e3 8 (.getfield 99) 3 22 36 2, e1 11 (.iload_n 1) 1 1, e1 12 (.iload_n 3) 1 3, e0 13 (.iastore) 1, e1 14 (.aload_n 0) 1 0, e3 15 (.getfield 102) 3 22 37 2, e1 18 (.iload_n 1) 1 1, e1 19 (.iload 4) 2 4, e0 21 (.iastore) 1, e1 22 (.aload_n 0) 1 0, e3 23 (.getfield 105) 3 22 38 2, e1 26 (.iload_n 1) 1 1, e1 27 (.iload 5) 2 5, e0 29 (.iastore) 1, e0 30 (.return_) 1], 31)]
set_option maxRecDepth 100000 in
def K_X12_exit : List XB := [(0, [true, true, true, true, false, false, false], [e1 0 (.aload_n 0) 1 0, e1 1 (.iload_n 1) 1 1, ei 2 (.invokevirtual 382) 3 22 268 2 0 2, e1 5 (.ifCond .eq 17) 3 22, e1 8 (.iload_n 3) 1 3, ec 9 (.bipush (-9)) 2 (-9), e1 11 (.if_icmp .eq 13) 3 24, e1 14 (.aload_n 0) 1 0, e1 15 (.iload_n 3) 1 3, ei 16 (.invokevirtual 382) 3 22 268 2 0 2, e1 19 (.ifCond .ne 5) 3 24], 22),
  (22, [false, false, false, false, false, false, false], [ec 22 (.iconst (-1)) 1 (-1), e1 23 (.ireturn) 1 0], 24),
  (24, [true, true, true, true, false, false, false], [e1 24 (.iload_n 2) 1 2, e0 25 (.i2l) 1, ec 26 (.lconst 0) 1 0, ec 27 (.ldc2_w 385) 3 7, ei 30 (.invokestatic 191) 3 0 189 3 0 6, e1 33 (.ifCond .ne 6) 3 39, ec 36 (.bipush (-2)) 2 (-2), e1 38 (.ireturn) 1 0], 39),
  (39, [true, true, true, true, false, false, false], [ec 39 (.bipush 8) 2 8, e1 41 (.iload_n 1) 1 1, e0 42 (.imul) 1, e1 43 (.iload_n 2) 1 2, e0 44 (.iadd) 1, e1 45 (.istore 4) 2 4, e1 47 (.aload_n 0) 1 0, e3 48 (.getfield 96) 3 22 35 2, e1 51 (.iload 4) 2 4, e0 53 (.iaload) 1, ec 54 (.iconst 2) 1 2, e1 55 (.if_icmp .eq 14) 3 69, e1 58 (.aload_n 0) 1 0, e3 59 (.getfield 96) 3 22 35 2, e1 62 (.iload 4) 2 4, e0 64 (.iaload) 1, ec 65 (.iconst 4) 1 4, e1 66 (.if_icmp .ne 17) 3 83], 69),
  (69, [true, true, true, true, true, false, false], [e1 69 (.aload_n 0) 1 0, e3 70 (.getfield 99) 3 22 36 2, e1 73 (.iload 4) 2 4, e0 75 (.iaload) 1, e1 76 (.iload_n 3) 1 3, e1 77 (.if_icmp .ne 6) 3 83, ec 80 (.bipush (-3)) 2 (-3), e1 82 (.ireturn) 1 0], 83),
  (83, [true, true, true, true, true, false, false], [e1 83 (.aload_n 0) 1 0, e3 84 (.getfield 170) 3 22 22 0, ec 87 (.sipush 300) 3 300, e1 90 (.if_icmp .ne 6) 3 96, ec 93 (.bipush (-4)) 2 (-4), e1 95 (.ireturn) 1 0], 96),
  (96, [true, true, true, true, true, false, false], [e1 96 (.aload_n 0) 1 0, e3 97 (.getfield 96) 3 22 35 2, e1 100 (.iload 4) 2 4, e0 102 (.iaload) 1, ec 103 (.iconst 1) 1 1, e1 104 (.if_icmp .le 14) 3 118, e1 107 (.aload_n 0) 1 0, e3 108 (.getfield 102) 3 22 37 2, e1 111 (.iload 4) 2 4, e0 113 (.iaload) 1, ei 114 (.invokestatic 281) 3 0 211 1 0 1, e1 117 (.ireturn) 1 0], 118),
  (118, [true, true, true, true, true, false, false], [e1 118 (.aload_n 0) 1 0, ec 119 (.bipush 8) 2 8, e1 121 (.iload_n 1) 1 1, e1 122 (.iload_n 2) 1 2, e1 123 (.iload_n 3) 1 3, ei 124 (.invokevirtual 258) 3 22 210 5 0 5, e1 127 (.istore 5) 2 5, e1 129 (.aload_n 0) 1 0, e1 130 (.iload 4) 2 4, e1 132 (.iload_n 3) 1 3, ec 133 (.bipush (-9)) 2 (-9), e1 135 (.if_icmp .ne 7) 3 142, ec 138 (.iconst 4) 1 4, e1 139 (.goto 4) 3 143], 142),
  (142, [true, true, true, true, false, true, false], [ec 142 (.iconst 2) 1 2], 143),
  (143, [true, true, true, true, false, true, false], [e1 143 (.iload_n 3) 1 3, e1 144 (.iload 5) 2 5, ec 146 (.bipush (-9)) 2 (-9), ei 148 (.invokevirtual 387) 3 22 269 6 3 6, ec 151 (.bipush 8) 2 8, e1 153 (.iload_n 3) 1 3, e0 154 (.imul) 1, e1 155 (.iload_n 2) 1 2, ec 156 (.iconst 1) 1 1, e0 157 (.ixor) 1, e0 158 (.iadd) 1, e1 159 (.istore 6) 2 6, e1 161 (.iload_n 3) 1 3, ec 162 (.bipush (-9)) 2 (-9), e1 164 (.if_icmp .eq 25) 3 189, e1 167 (.aload_n 0) 1 0, e3 168 (.getfield 96) 3 22 35 2, e1 171 (.iload 6) 2 6, e0 173 (.iaload) 1, e1 174 (.ifCond .ne 15) 3 189, e1 177 (.aload_n 0) 1 0, e1 178 (.iload 6) 2 6, ec 180 (.iconst 1) 1 1, e1 181 (.iload_n 1) 1 1, ec 182 (.bipush (-9)) 2 (-9), ec 184 (.bipush (-9)) 2 (-9), ei 186 (.invokevirtual 387) 3 22 269 6 3 6], 189),
  (189, [false, false, false, false, false, true, false], [e1 189 (.iload 5) 2 5, e1 191 (.ireturn) 1 0], 192)]
set_option maxRecDepth 100000 in
def K_X12_door : List XB := [(0, [true, true, true, true, true, false, false, false], [e1 0 (.aload_n 0) 1 0, e1 1 (.iload_n 1) 1 1, e0 2 (.i2l) 1, ei 3 (.invokevirtual 262) 3 22 203 2 0 3, e1 6 (.ifCond .eq 20) 3 26, e1 9 (.aload_n 0) 1 0, e1 10 (.iload_n 2) 1 2, ei 11 (.invokevirtual 382) 3 22 268 2 0 2, e1 14 (.ifCond .eq 12) 3 26, e1 17 (.aload_n 0) 1 0, e1 18 (.iload 4) 2 4, ei 20 (.invokevirtual 382) 3 22 268 2 0 2, e1 23 (.ifCond .ne 5) 3 28], 26),
  (26, [false, false, false, false, false, false, false, false], [ec 26 (.iconst (-1)) 1 (-1), e1 27 (.ireturn) 1 0], 28),
  (28, [true, true, true, true, true, false, false, false], [e1 28 (.iload_n 3) 1 3, e0 29 (.i2l) 1, ec 30 (.lconst 0) 1 0, ec 31 (.ldc2_w 385) 3 7, ei 34 (.invokestatic 191) 3 0 189 3 0 6, e1 37 (.ifCond .ne 6) 3 43, ec 40 (.bipush (-2)) 2 (-2), e1 42 (.ireturn) 1 0], 43),
  (43, [true, true, true, true, true, false, false, false], [e1 43 (.aload_n 0) 1 0, e1 44 (.iload_n 1) 1 1, ei 45 (.invokevirtual 230) 3 22 204 2 0 2, ec 48 (.iconst 2) 1 2, e1 49 (.if_icmp .ne 9) 3 58, e1 52 (.iload_n 2) 1 2, e1 53 (.iload 4) 2 4, e1 55 (.if_icmp .ne 6) 3 61], 58),
  (58, [false, false, false, false, false, false, false, false], [ec 58 (.bipush (-3)) 2 (-3), e1 60 (.ireturn) 1 0], 61),
  (61, [true, true, true, true, true, false, false, false], [e1 61 (.aload_n 0) 1 0, e3 62 (.getfield 170) 3 22 22 0, ec 65 (.sipush 300) 3 300, e1 68 (.if_icmp .ne 6) 3 74, ec 71 (.bipush (-4)) 2 (-4), e1 73 (.ireturn) 1 0], 74),
  (74, [true, true, true, true, true, false, false, false], [ec 74 (.iconst 0) 1 0, e1 75 (.istore 5) 2 5], 77),
  (77, [true, true, true, true, true, true, false, false], [e1 77 (.iload 5) 2 5, e1 79 (.aload_n 0) 1 0, e3 80 (.getfield 170) 3 22 22 0, e1 83 (.if_icmp .ge 38) 3 121, e1 86 (.aload_n 0) 1 0, e3 87 (.getfield 66) 3 22 23 2, e1 90 (.iload 5) 2 5, e0 92 (.iaload) 1, ec 93 (.bipush 9) 2 9, e1 95 (.if_icmp .ne 20) 3 115, e1 98 (.aload_n 0) 1 0, e3 99 (.getfield 69) 3 22 24 2, e1 102 (.iload 5) 2 5, e0 104 (.iaload) 1, e1 105 (.iload_n 1) 1 1, e1 106 (.if_icmp .ne 9) 3 115, e1 109 (.iload 5) 2 5, ei 111 (.invokestatic 281) 3 0 211 1 0 1, e1 114 (.ireturn) 1 0], 115),
  (115, [true, true, true, true, true, true, false, false], [ek 115 (.iinc 5 1) 3 1 5, e1 118 (.goto (-41)) 3 77], 121),
  (121, [true, true, true, true, true, false, false, false], [ec 121 (.bipush 8) 2 8, e1 123 (.iload_n 2) 1 2, e0 124 (.imul) 1, e1 125 (.iload_n 3) 1 3, e0 126 (.iadd) 1, e1 127 (.istore 5) 2 5, ec 129 (.bipush 8) 2 8, e1 131 (.iload 4) 2 4, e0 133 (.imul) 1, e1 134 (.iload_n 3) 1 3, ec 135 (.iconst 1) 1 1, e0 136 (.ixor) 1, e0 137 (.iadd) 1, e1 138 (.istore 6) 2 6, e1 140 (.aload_n 0) 1 0, e3 141 (.getfield 96) 3 22 35 2, e1 144 (.iload 5) 2 5, e0 146 (.iaload) 1, ec 147 (.iconst 1) 1 1, e1 148 (.if_icmp .le 14) 3 162, e1 151 (.aload_n 0) 1 0, e3 152 (.getfield 102) 3 22 37 2, e1 155 (.iload 5) 2 5, e0 157 (.iaload) 1, ei 158 (.invokestatic 281) 3 0 211 1 0 1, e1 161 (.ireturn) 1 0], 162),
  (162, [true, true, true, true, true, true, true, false], [e1 162 (.aload_n 0) 1 0, e3 163 (.getfield 96) 3 22 35 2, e1 166 (.iload 6) 2 6, e0 168 (.iaload) 1, ec 169 (.iconst 1) 1 1, e1 170 (.if_icmp .le 14) 3 184, e1 173 (.aload_n 0) 1 0, e3 174 (.getfield 102) 3 22 37 2, e1 177 (.iload 6) 2 6, e0 179 (.iaload) 1, ei 180 (.invokestatic 281) 3 0 211 1 0 1, e1 183 (.ireturn) 1 0], 184),
  (184, [true, true, true, true, true, true, true, false], [e1 184 (.aload_n 0) 1 0, ec 185 (.bipush 9) 2 9, e1 187 (.iload_n 1) 1 1, e1 188 (.iload_n 2) 1 2, e1 189 (.iload_n 3) 1 3, ei 190 (.invokevirtual 258) 3 22 210 5 0 5, e1 193 (.istore 7) 2 7, e1 195 (.aload_n 0) 1 0, e1 196 (.iload 5) 2 5, ec 198 (.iconst 3) 1 3, e1 199 (.iload 4) 2 4, e1 201 (.iload 7) 2 7, e1 203 (.iload_n 1) 1 1, ei 204 (.invokevirtual 387) 3 22 269 6 3 6, e1 207 (.aload_n 0) 1 0, e1 208 (.iload 6) 2 6, ec 210 (.iconst 3) 1 3, e1 211 (.iload_n 2) 1 2, e1 212 (.iload 7) 2 7, e1 214 (.iload_n 1) 1 1, ei 215 (.invokevirtual 387) 3 22 269 6 3 6, e1 218 (.iload 7) 2 7, e1 220 (.ireturn) 1 0], 221)]
set_option maxRecDepth 100000 in
def K_X12_leads : List XB := [(0, [true, true, true], [e1 0 (.aload_n 0) 1 0, e1 1 (.iload_n 1) 1 1, ei 2 (.invokevirtual 382) 3 22 268 2 0 2, e1 5 (.ifCond .ne 7) 3 12, ec 8 (.iconst (-1)) 1 (-1), e1 9 (.goto 50) 3 59], 12),
  (12, [true, true, true], [e1 12 (.iload_n 2) 1 2, e0 13 (.i2l) 1, ec 14 (.lconst 0) 1 0, ec 15 (.ldc2_w 385) 3 7, ei 18 (.invokestatic 191) 3 0 189 3 0 6, e1 21 (.ifCond .ne 8) 3 29, ec 24 (.bipush (-2)) 2 (-2), e1 26 (.goto 33) 3 59], 29),
  (29, [true, true, true], [e1 29 (.aload_n 0) 1 0, e3 30 (.getfield 96) 3 22 35 2, ec 33 (.bipush 8) 2 8, e1 35 (.iload_n 1) 1 1, e0 36 (.imul) 1, e1 37 (.iload_n 2) 1 2, e0 38 (.iadd) 1, e0 39 (.iaload) 1, e1 40 (.ifCond .ne 8) 3 48, ec 43 (.bipush (-9)) 2 (-9), e1 45 (.goto 14) 3 59], 48),
  (48, [true, true, true], [e1 48 (.aload_n 0) 1 0, e3 49 (.getfield 99) 3 22 36 2, ec 52 (.bipush 8) 2 8, e1 54 (.iload_n 1) 1 1, e0 55 (.imul) 1, e1 56 (.iload_n 2) 1 2, e0 57 (.iadd) 1, e0 58 (.iaload) 1], 59),
  (59, [false, false, false], [e1 59 (.ireturn) 1 0], 60)]
set_option maxRecDepth 100000 in
def K_X12_sort : List XB := [(0, [true, true, true], [e1 0 (.aload_n 0) 1 0, e1 1 (.iload_n 1) 1 1, ei 2 (.invokevirtual 382) 3 22 268 2 0 2, e1 5 (.ifCond .ne 7) 3 12, ec 8 (.iconst (-1)) 1 (-1), e1 9 (.goto 31) 3 40], 12),
  (12, [true, true, true], [e1 12 (.iload_n 2) 1 2, e0 13 (.i2l) 1, ec 14 (.lconst 0) 1 0, ec 15 (.ldc2_w 385) 3 7, ei 18 (.invokestatic 191) 3 0 189 3 0 6, e1 21 (.ifCond .ne 8) 3 29, ec 24 (.bipush (-2)) 2 (-2), e1 26 (.goto 14) 3 40], 29),
  (29, [true, true, true], [e1 29 (.aload_n 0) 1 0, e3 30 (.getfield 96) 3 22 35 2, ec 33 (.bipush 8) 2 8, e1 35 (.iload_n 1) 1 1, e0 36 (.imul) 1, e1 37 (.iload_n 2) 1 2, e0 38 (.iadd) 1, e0 39 (.iaload) 1], 40),
  (40, [false, false, false], [e1 40 (.ireturn) 1 0], 41)]
set_option maxRecDepth 100000 in
def K_X12_goes : List XB := [(0, [true, true, true], [e1 0 (.aload_n 0) 1 0, e3 1 (.getfield 96) 3 22 35 2, e1 4 (.iload_n 1) 1 1, e0 5 (.iaload) 1, e1 6 (.ifCond .le 46) 3 52, e1 9 (.aload_n 0) 1 0, e3 10 (.getfield 99) 3 22 36 2, e1 13 (.iload_n 1) 1 1, e0 14 (.iaload) 1, ec 15 (.bipush (-9)) 2 (-9), e1 17 (.if_icmp .eq 35) 3 52, e1 20 (.iload_n 2) 1 2, e1 21 (.ifCond .ne 27) 3 48, e1 24 (.aload_n 0) 1 0, e3 25 (.getfield 96) 3 22 35 2, e1 28 (.iload_n 1) 1 1, e0 29 (.iaload) 1, ec 30 (.iconst 3) 1 3, e1 31 (.if_icmp .ne 17) 3 48, e1 34 (.aload_n 0) 1 0, e3 35 (.getfield 42) 3 22 14 2, e1 38 (.aload_n 0) 1 0, e3 39 (.getfield 105) 3 22 38 2, e1 42 (.iload_n 1) 1 1, e0 43 (.iaload) 1, e0 44 (.baload) 1, e1 45 (.ifCond .eq 7) 3 52], 48),
  (48, [false, false, false], [ec 48 (.iconst 1) 1 1, e1 49 (.goto 4) 3 53], 52),
  (52, [false, false, false], [ec 52 (.iconst 0) 1 0], 53),
  (53, [false, false, false], [e1 53 (.ireturn) 1 1], 54)]
set_option maxRecDepth 100000 in
def K_X12_routeBack : List XB := [(0, [true, true, true, false, false, false, false, false], [ec 0 (.iconst 0) 1 0, e1 1 (.istore_n 3) 1 3], 2),
  (2, [true, true, true, true, false, false, false, false], [e1 2 (.iload_n 3) 1 3, e1 3 (.aload_n 0) 1 0, e3 4 (.getfield 167) 3 22 9 0, e1 7 (.if_icmp .ge 17) 3 24, e1 10 (.aload_n 0) 1 0, e3 11 (.getfield 87) 3 22 32 2, e1 14 (.iload_n 3) 1 3, ec 15 (.bipush (-9)) 2 (-9), e0 17 (.iastore) 1, ek 18 (.iinc 3 1) 3 1 3, e1 21 (.goto (-19)) 3 2], 24),
  (24, [true, true, true, false, false, false, false, false], [e1 24 (.aload_n 0) 1 0, e3 25 (.getfield 87) 3 22 32 2, e1 28 (.iload_n 1) 1 1, ec 29 (.iconst 0) 1 0, e0 30 (.iastore) 1, e1 31 (.aload_n 0) 1 0, e3 32 (.getfield 90) 3 22 33 2, ec 35 (.iconst 0) 1 0, e1 36 (.iload_n 1) 1 1, e0 37 (.iastore) 1, ec 38 (.iconst 1) 1 1, e1 39 (.istore_n 3) 1 3, ec 40 (.iconst 0) 1 0, e1 41 (.istore 4) 2 4], 43),
  (43, [true, false, true, true, true, false, false, false], [e1 43 (.iload 4) 2 4, e1 45 (.iload_n 3) 1 3, e1 46 (.if_icmp .ge 155) 3 201, ec 49 (.iconst 0) 1 0, e1 50 (.istore 5) 2 5], 52),
  (52, [true, false, true, true, true, true, false, false], [e1 52 (.iload 5) 2 5, e1 54 (.aload_n 0) 1 0, e3 55 (.getfield 167) 3 22 9 0, e1 58 (.if_icmp .ge 137) 3 195, ec 61 (.iconst 0) 1 0, e1 62 (.istore 6) 2 6, ec 64 (.iconst 0) 1 0, e1 65 (.istore 7) 2 7], 67),
  (67, [true, false, true, true, true, true, true, true], [e1 67 (.iload 7) 2 7, ec 69 (.bipush 8) 2 8, e1 71 (.if_icmp .ge 69) 3 140, e1 74 (.aload_n 0) 1 0, e1 75 (.iload 5) 2 5, ei 77 (.invokevirtual 382) 3 22 268 2 0 2, e1 80 (.ifCond .eq 60) 3 140, e1 83 (.iload 6) 2 6, e1 85 (.ifCond .ne 42) 3 127, e1 88 (.aload_n 0) 1 0, ec 89 (.bipush 8) 2 8, e1 91 (.iload 5) 2 5, e0 93 (.imul) 1, e1 94 (.iload 7) 2 7, e0 96 (.iadd) 1, e1 97 (.iload_n 2) 1 2, ei 98 (.invokevirtual 391) 3 22 274 3 0 3, e1 101 (.ifCond .eq 30) 3 131, e1 104 (.aload_n 0) 1 0, e3 105 (.getfield 99) 3 22 36 2, ec 108 (.bipush 8) 2 8, e1 110 (.iload 5) 2 5, e0 112 (.imul) 1, e1 113 (.iload 7) 2 7, e0 115 (.iadd) 1, e0 116 (.iaload) 1, e1 117 (.aload_n 0) 1 0, e3 118 (.getfield 90) 3 22 33 2, e1 121 (.iload 4) 2 4, e0 123 (.iaload) 1, e1 124 (.if_icmp .ne 7) 3 131], 127),
  (127, [true, false, true, true, true, true, false, true], [ec 127 (.iconst 1) 1 1, e1 128 (.goto 4) 3 132], 131),
  (131, [true, false, true, true, true, true, false, true], [ec 131 (.iconst 0) 1 0], 132),
  (132, [true, false, true, true, true, true, false, true], [e1 132 (.istore 6) 2 6, ek 134 (.iinc 7 1) 3 1 7, e1 137 (.goto (-70)) 3 67], 140),
  (140, [true, false, true, true, true, true, true, false], [e1 140 (.iload 6) 2 6, e1 142 (.ifCond .eq 47) 3 189, e1 145 (.aload_n 0) 1 0, e3 146 (.getfield 87) 3 22 32 2, e1 149 (.iload 5) 2 5, e0 151 (.iaload) 1, ec 152 (.bipush (-9)) 2 (-9), e1 154 (.if_icmp .ne 35) 3 189, e1 157 (.aload_n 0) 1 0, e3 158 (.getfield 87) 3 22 32 2, e1 161 (.iload 5) 2 5, e1 163 (.aload_n 0) 1 0, e3 164 (.getfield 87) 3 22 32 2, e1 167 (.aload_n 0) 1 0, e3 168 (.getfield 90) 3 22 33 2, e1 171 (.iload 4) 2 4, e0 173 (.iaload) 1, e0 174 (.iaload) 1, ec 175 (.iconst 1) 1 1, e0 176 (.iadd) 1, e0 177 (.iastore) 1, e1 178 (.aload_n 0) 1 0, e3 179 (.getfield 90) 3 22 33 2, e1 182 (.iload_n 3) 1 3, e1 183 (.iload 5) 2 5, e0 185 (.iastore) 1, ek 186 (.iinc 3 1) 3 1 3], 189),
  (189, [true, false, true, true, true, true, false, false], [ek 189 (.iinc 5 1) 3 1 5, e1 192 (.goto (-140)) 3 52], 195),
  (195, [true, false, true, true, true, false, false, false], [ek 195 (.iinc 4 1) 3 1 4, e1 198 (.goto (-155)) 3 43], 201),
  (201, [false, false, false, false, false, false, false, false], [e0 201 (.return_) 1], 202)]
set_option maxRecDepth 100000 in
def K_X12_route : List XB := [(0, [true, true, true, true], [e1 0 (.aload_n 0) 1 0, e1 1 (.iload_n 1) 1 1, ei 2 (.invokevirtual 382) 3 22 268 2 0 2, e1 5 (.ifCond .eq 11) 3 16, e1 8 (.aload_n 0) 1 0, e1 9 (.iload_n 2) 1 2, ei 10 (.invokevirtual 382) 3 22 268 2 0 2, e1 13 (.ifCond .ne 5) 3 18], 16),
  (16, [false, false, false, false], [ec 16 (.iconst (-1)) 1 (-1), e1 17 (.ireturn) 1 0], 18),
  (18, [true, true, true, true], [e1 18 (.aload_n 0) 1 0, e1 19 (.iload_n 2) 1 2, e1 20 (.iload_n 3) 1 3, ei 21 (.invokevirtual 395) 3 22 275 3 3 8, e1 24 (.aload_n 0) 1 0, e3 25 (.getfield 87) 3 22 32 2, e1 28 (.iload_n 1) 1 1, e0 29 (.iaload) 1, e1 30 (.ireturn) 1 0], 31)]
set_option maxRecDepth 100000 in
def K_X12_first_ : List XB := [(0, [true, true, true, true, false], [e1 0 (.aload_n 0) 1 0, e1 1 (.iload_n 1) 1 1, ei 2 (.invokevirtual 382) 3 22 268 2 0 2, e1 5 (.ifCond .eq 11) 3 16, e1 8 (.aload_n 0) 1 0, e1 9 (.iload_n 2) 1 2, ei 10 (.invokevirtual 382) 3 22 268 2 0 2, e1 13 (.ifCond .ne 5) 3 18], 16),
  (16, [false, false, false, false, false], [ec 16 (.iconst (-1)) 1 (-1), e1 17 (.ireturn) 1 0], 18),
  (18, [true, true, true, true, false], [e1 18 (.aload_n 0) 1 0, e1 19 (.iload_n 2) 1 2, e1 20 (.iload_n 3) 1 3, ei 21 (.invokevirtual 395) 3 22 275 3 3 8, e1 24 (.iload_n 1) 1 1, e1 25 (.iload_n 2) 1 2, e1 26 (.if_icmp .eq 14) 3 40, e1 29 (.aload_n 0) 1 0, e3 30 (.getfield 87) 3 22 32 2, e1 33 (.iload_n 1) 1 1, e0 34 (.iaload) 1, ec 35 (.bipush (-9)) 2 (-9), e1 37 (.if_icmp .ne 6) 3 43], 40),
  (40, [false, false, false, false, false], [ec 40 (.bipush (-9)) 2 (-9), e1 42 (.ireturn) 1 0], 43),
  (43, [true, true, false, true, false], [ec 43 (.iconst 0) 1 0, e1 44 (.istore 4) 2 4], 46),
  (46, [true, true, false, true, true], [e1 46 (.aload_n 0) 1 0, ec 47 (.bipush 8) 2 8, e1 49 (.iload_n 1) 1 1, e0 50 (.imul) 1, e1 51 (.iload 4) 2 4, e0 53 (.iadd) 1, e1 54 (.iload_n 3) 1 3, ei 55 (.invokevirtual 391) 3 22 274 3 0 3, e1 58 (.ifCond .eq 31) 3 89, e1 61 (.aload_n 0) 1 0, e3 62 (.getfield 87) 3 22 32 2, e1 65 (.aload_n 0) 1 0, e3 66 (.getfield 99) 3 22 36 2, ec 69 (.bipush 8) 2 8, e1 71 (.iload_n 1) 1 1, e0 72 (.imul) 1, e1 73 (.iload 4) 2 4, e0 75 (.iadd) 1, e0 76 (.iaload) 1, e0 77 (.iaload) 1, e1 78 (.aload_n 0) 1 0, e3 79 (.getfield 87) 3 22 32 2, e1 82 (.iload_n 1) 1 1, e0 83 (.iaload) 1, ec 84 (.iconst 1) 1 1, e0 85 (.isub) 1, e1 86 (.if_icmp .eq 9) 3 95], 89),
  (89, [true, true, false, true, true], [ek 89 (.iinc 4 1) 3 1 4, e1 92 (.goto (-46)) 3 46], 95),
  (95, [false, false, false, false, true], [e1 95 (.iload 4) 2 4, e1 97 (.ireturn) 1 0], 98)]
set_option maxRecDepth 100000 in
def K_X12_isShelf : List XB := [(0, [true, true], [e1 0 (.iload_n 1) 1 1, e0 1 (.i2l) 1, ec 2 (.lconst 0) 1 0, e1 3 (.aload_n 0) 1 0, e3 4 (.getfield 176) 3 22 39 0, ec 7 (.iconst 1) 1 1, e0 8 (.isub) 1, e0 9 (.i2l) 1, ei 10 (.invokestatic 191) 3 0 189 3 0 6, e1 13 (.ireturn) 1 1], 14)]
set_option maxRecDepth 100000 in
def K_X12_takes : List XB := [(0, [true, true, true], [e1 0 (.iload_n 2) 1 2, ec 1 (.bipush (-9)) 2 (-9), e1 3 (.if_icmp .eq 21) 3 24, e1 6 (.aload_n 0) 1 0, e1 7 (.aload_n 0) 1 0, e1 8 (.iload_n 2) 1 2, ei 9 (.invokevirtual 230) 3 22 204 2 0 2, e1 12 (.aload_n 0) 1 0, e3 13 (.getfield 108) 3 22 40 2, e1 16 (.iload_n 1) 1 1, e0 17 (.iaload) 1, ei 18 (.invokevirtual 199) 3 22 194 3 0 4, e1 21 (.ifCond .eq 7) 3 28], 24),
  (24, [false, false, false], [ec 24 (.iconst 1) 1 1, e1 25 (.goto 4) 3 29], 28),
  (28, [false, false, false], [ec 28 (.iconst 0) 1 0], 29),
  (29, [false, false, false], [e1 29 (.ireturn) 1 1], 30)]
set_option maxRecDepth 100000 in
def K_X12_shelf : List XB := [(0, [true, true, true, false], [e1 0 (.aload_n 0) 1 0, e1 1 (.iload_n 1) 1 1, ei 2 (.invokevirtual 195) 3 22 192 2 0 2, e1 5 (.ifCond .ne 5) 3 10, ec 8 (.iconst (-1)) 1 (-1), e1 9 (.ireturn) 1 0], 10),
  (10, [true, true, true, false], [e1 10 (.iload_n 2) 1 2, ec 11 (.bipush 16) 2 16, e1 13 (.if_icmp .le 6) 3 19, ec 16 (.bipush (-2)) 2 (-2), e1 18 (.ireturn) 1 0], 19),
  (19, [true, true, true, false], [e1 19 (.aload_n 0) 1 0, e3 20 (.getfield 176) 3 22 39 0, ec 23 (.bipush 10) 2 10, e1 25 (.if_icmp .ne 6) 3 31, ec 28 (.bipush (-4)) 2 (-4), e1 30 (.ireturn) 1 0], 31),
  (31, [true, true, true, false], [e1 31 (.iload_n 2) 1 2, e1 32 (.ifCond .ge 10) 3 42, e1 35 (.aload_n 0) 1 0, ec 36 (.bipush (-15)) 2 (-15), ei 38 (.invokevirtual 223) 3 22 190 2 0 2, e1 41 (.ireturn) 1 0], 42),
  (42, [true, true, true, false], [e1 42 (.aload_n 0) 1 0, e3 43 (.getfield 108) 3 22 40 2, e1 46 (.aload_n 0) 1 0, e3 47 (.getfield 176) 3 22 39 0, e1 50 (.aload_n 0) 1 0, e1 51 (.iload_n 1) 1 1, ei 52 (.invokevirtual 205) 3 22 195 2 0 3, e0 55 (.iastore) 1, e1 56 (.aload_n 0) 1 0, e3 57 (.getfield 111) 3 22 41 2, e1 60 (.aload_n 0) 1 0, e3 61 (.getfield 176) 3 22 39 0, e1 64 (.iload_n 2) 1 2, e0 65 (.iastore) 1, ec 66 (.iconst 0) 1 0, e1 67 (.istore_n 3) 1 3], 68),
  (68, [true, false, false, true], [e1 68 (.iload_n 3) 1 3, ec 69 (.bipush 16) 2 16, e1 71 (.if_icmp .ge 25) 3 96, e1 74 (.aload_n 0) 1 0, e3 75 (.getfield 114) 3 22 42 2, ec 78 (.bipush 16) 2 16, e1 80 (.aload_n 0) 1 0, e3 81 (.getfield 176) 3 22 39 0, e0 84 (.imul) 1, e1 85 (.iload_n 3) 1 3, e0 86 (.iadd) 1, ec 87 (.bipush (-9)) 2 (-9), e0 89 (.iastore) 1, ek 90 (.iinc 3 1) 3 1 3, e1 93 (.goto (-25)) 3 68], 96),
  (96, [true, false, false, false], [e1 96 (.aload_n 0) 1 0, e0 97 (.dup) 1, e3 98 (.getfield 176) 3 22 39 0, ec 101 (.iconst 1) 1 1, e0 102 (.iadd) 1, e3 103 (.putfield 176) 3 22 39 0, e1 106 (.aload_n 0) 1 0, e3 107 (.getfield 176) 3 22 39 0, ec 110 (.iconst 1) 1 1, e0 111 (.isub) 1, e1 112 (.ireturn) 1 0], 113)]
set_option maxRecDepth 100000 in
def K_X12_stand : List XB := [(0, [true, true, true, true], [e1 0 (.aload_n 0) 1 0, e1 1 (.iload_n 1) 1 1, ei 2 (.invokevirtual 399) 3 22 278 2 0 2, e1 5 (.ifCond .eq 18) 3 23, e1 8 (.iload_n 3) 1 3, ec 9 (.bipush (-9)) 2 (-9), e1 11 (.if_icmp .eq 14) 3 25, e1 14 (.aload_n 0) 1 0, e1 15 (.iload_n 3) 1 3, e0 16 (.i2l) 1, ei 17 (.invokevirtual 262) 3 22 203 2 0 3, e1 20 (.ifCond .ne 5) 3 25], 23),
  (23, [false, false, false, false], [ec 23 (.iconst (-1)) 1 (-1), e1 24 (.ireturn) 1 0], 25),
  (25, [true, true, true, true], [e1 25 (.iload_n 2) 1 2, e0 26 (.i2l) 1, ec 27 (.lconst 0) 1 0, e1 28 (.aload_n 0) 1 0, e3 29 (.getfield 111) 3 22 41 2, e1 32 (.iload_n 1) 1 1, e0 33 (.iaload) 1, ec 34 (.iconst 1) 1 1, e0 35 (.isub) 1, e0 36 (.i2l) 1, ei 37 (.invokestatic 191) 3 0 189 3 0 6, e1 40 (.ifCond .ne 10) 3 50, e1 43 (.aload_n 0) 1 0, ec 44 (.bipush (-12)) 2 (-12), ei 46 (.invokevirtual 223) 3 22 190 2 0 2, e1 49 (.ireturn) 1 0], 50),
  (50, [true, true, true, true], [e1 50 (.aload_n 0) 1 0, e1 51 (.iload_n 1) 1 1, e1 52 (.iload_n 3) 1 3, ei 53 (.invokevirtual 402) 3 22 279 3 0 3, e1 56 (.ifCond .ne 10) 3 66, e1 59 (.aload_n 0) 1 0, ec 60 (.bipush (-14)) 2 (-14), ei 62 (.invokevirtual 223) 3 22 190 2 0 2, e1 65 (.ireturn) 1 0], 66),
  (66, [true, true, true, true], [e1 66 (.aload_n 0) 1 0, e3 67 (.getfield 114) 3 22 42 2, ec 70 (.bipush 16) 2 16, e1 72 (.iload_n 1) 1 1, e0 73 (.imul) 1, e1 74 (.iload_n 2) 1 2, e0 75 (.iadd) 1, e1 76 (.iload_n 3) 1 3, e0 77 (.iastore) 1, ec 78 (.iconst 1) 1 1, e1 79 (.ireturn) 1 0], 80)]
set_option maxRecDepth 100000 in
def K_X12_stands : List XB := [(0, [true, true, true], [e1 0 (.aload_n 0) 1 0, e1 1 (.iload_n 1) 1 1, ei 2 (.invokevirtual 399) 3 22 278 2 0 2, e1 5 (.ifCond .ne 7) 3 12, ec 8 (.iconst (-1)) 1 (-1), e1 9 (.goto 41) 3 50], 12),
  (12, [true, true, true], [e1 12 (.iload_n 2) 1 2, e0 13 (.i2l) 1, ec 14 (.lconst 0) 1 0, e1 15 (.aload_n 0) 1 0, e3 16 (.getfield 111) 3 22 41 2, e1 19 (.iload_n 1) 1 1, e0 20 (.iaload) 1, ec 21 (.iconst 1) 1 1, e0 22 (.isub) 1, e0 23 (.i2l) 1, ei 24 (.invokestatic 191) 3 0 189 3 0 6, e1 27 (.ifCond .eq 17) 3 44, e1 30 (.aload_n 0) 1 0, e3 31 (.getfield 114) 3 22 42 2, ec 34 (.bipush 16) 2 16, e1 36 (.iload_n 1) 1 1, e0 37 (.imul) 1, e1 38 (.iload_n 2) 1 2, e0 39 (.iadd) 1, e0 40 (.iaload) 1, e1 41 (.goto 9) 3 50], 44),
  (44, [true, false, false], [e1 44 (.aload_n 0) 1 0, ec 45 (.bipush (-12)) 2 (-12), ei 47 (.invokevirtual 223) 3 22 190 2 0 2], 50),
  (50, [false, false, false], [e1 50 (.ireturn) 1 0], 51)]
set_option maxRecDepth 100000 in
def K_X12_haul : List XB := [(0, [true, true, true, true, true, true, false], [e1 0 (.aload_n 0) 1 0, e1 1 (.iload_n 1) 1 1, ei 2 (.invokevirtual 399) 3 22 278 2 0 2, e1 5 (.ifCond .eq 11) 3 16, e1 8 (.aload_n 0) 1 0, e1 9 (.iload_n 3) 1 3, ei 10 (.invokevirtual 399) 3 22 278 2 0 2, e1 13 (.ifCond .ne 5) 3 18], 16),
  (16, [false, false, false, false, false, false, false], [ec 16 (.iconst (-1)) 1 (-1), e1 17 (.ireturn) 1 0], 18),
  (18, [true, true, true, true, true, true, false], [e1 18 (.iload_n 2) 1 2, e1 19 (.ifCond .lt 48) 3 67, e1 22 (.iload 4) 2 4, e1 24 (.ifCond .lt 43) 3 67, e1 27 (.iload 5) 2 5, e1 29 (.ifCond .lt 38) 3 67, e1 32 (.iload_n 2) 1 2, e0 33 (.i2l) 1, e1 34 (.iload 5) 2 5, e0 36 (.i2l) 1, e0 37 (.ladd) 1, e1 38 (.aload_n 0) 1 0, e3 39 (.getfield 111) 3 22 41 2, e1 42 (.iload_n 1) 1 1, e0 43 (.iaload) 1, e0 44 (.i2l) 1, e0 45 (.lcmp) 1, e1 46 (.ifCond .gt 21) 3 67, e1 49 (.iload 4) 2 4, e0 51 (.i2l) 1, e1 52 (.iload 5) 2 5, e0 54 (.i2l) 1, e0 55 (.ladd) 1, e1 56 (.aload_n 0) 1 0, e3 57 (.getfield 111) 3 22 41 2, e1 60 (.iload_n 3) 1 3, e0 61 (.iaload) 1, e0 62 (.i2l) 1, e0 63 (.lcmp) 1, e1 64 (.ifCond .le 10) 3 74], 67),
  (67, [true, false, false, false, false, false, false], [e1 67 (.aload_n 0) 1 0, ec 68 (.bipush (-12)) 2 (-12), ei 70 (.invokevirtual 223) 3 22 190 2 0 2, e1 73 (.ireturn) 1 0], 74),
  (74, [true, true, true, true, true, true, false], [ec 74 (.iconst 0) 1 0, e1 75 (.istore 6) 2 6], 77),
  (77, [true, true, true, true, true, true, true], [e1 77 (.iload 6) 2 6, e1 79 (.iload 5) 2 5, e1 81 (.if_icmp .ge 30) 3 111, e1 84 (.aload_n 0) 1 0, e3 85 (.getfield 117) 3 22 43 2, e1 88 (.iload 6) 2 6, e1 90 (.aload_n 0) 1 0, e3 91 (.getfield 114) 3 22 42 2, ec 94 (.bipush 16) 2 16, e1 96 (.iload_n 1) 1 1, e0 97 (.imul) 1, e1 98 (.iload_n 2) 1 2, e0 99 (.iadd) 1, e1 100 (.iload 6) 2 6, e0 102 (.iadd) 1, e0 103 (.iaload) 1, e0 104 (.iastore) 1, ek 105 (.iinc 6 1) 3 1 6, e1 108 (.goto (-31)) 3 77], 111),
  (111, [true, false, false, true, true, true, false], [e1 111 (.aload_n 0) 1 0, ec 112 (.iconst 0) 1 0, e3 113 (.putfield 188) 3 22 44 0], 116),
  (116, [true, false, false, true, true, true, false], [e1 116 (.aload_n 0) 1 0, e3 117 (.getfield 188) 3 22 44 0, e1 120 (.iload 5) 2 5, e1 122 (.if_icmp .ge 59) 3 181, e1 125 (.aload_n 0) 1 0, e1 126 (.iload_n 3) 1 3, e1 127 (.aload_n 0) 1 0, e3 128 (.getfield 117) 3 22 43 2, e1 131 (.aload_n 0) 1 0, e3 132 (.getfield 188) 3 22 44 0, e0 135 (.iaload) 1, ei 136 (.invokevirtual 402) 3 22 279 3 0 3, e1 139 (.ifCond .eq 42) 3 181, e1 142 (.aload_n 0) 1 0, e3 143 (.getfield 114) 3 22 42 2, ec 146 (.bipush 16) 2 16, e1 148 (.iload_n 3) 1 3, e0 149 (.imul) 1, e1 150 (.iload 4) 2 4, e0 152 (.iadd) 1, e1 153 (.aload_n 0) 1 0, e3 154 (.getfield 188) 3 22 44 0, e0 157 (.iadd) 1, e1 158 (.aload_n 0) 1 0, e3 159 (.getfield 117) 3 22 43 2, e1 162 (.aload_n 0) 1 0, e3 163 (.getfield 188) 3 22 44 0, e0 166 (.iaload) 1, e0 167 (.iastore) 1, e1 168 (.aload_n 0) 1 0, e0 169 (.dup) 1, e3 170 (.getfield 188) 3 22 44 0, ec 173 (.iconst 1) 1 1, e0 174 (.iadd) 1, e3 175 (.putfield 188) 3 22 44 0, e1 178 (.goto (-62)) 3 116], 181),
  (181, [true, false, false, false, false, true, false], [e1 181 (.aload_n 0) 1 0, e3 182 (.getfield 188) 3 22 44 0, e1 185 (.iload 5) 2 5, e1 187 (.if_icmp .ne 8) 3 195, e1 190 (.iload 5) 2 5, e1 192 (.goto 9) 3 201], 195),
  (195, [true, false, false, false, false, false, false], [e1 195 (.aload_n 0) 1 0, ec 196 (.bipush (-14)) 2 (-14), ei 198 (.invokevirtual 223) 3 22 190 2 0 2], 201),
  (201, [false, false, false, false, false, false, false], [e1 201 (.ireturn) 1 0], 202)]
set_option maxRecDepth 100000 in
def K_X12_came : List XB := [(0, [true], [e1 0 (.aload_n 0) 1 0, e3 1 (.getfield 188) 3 22 44 0, e1 4 (.ireturn) 1 0], 5)]
set_option maxRecDepth 100000 in
def K_X12_isTable : List XB := [(0, [true, true], [e1 0 (.iload_n 1) 1 1, e0 1 (.i2l) 1, ec 2 (.lconst 0) 1 0, e1 3 (.aload_n 0) 1 0, e3 4 (.getfield 179) 3 22 45 0, ec 7 (.iconst 1) 1 1, e0 8 (.isub) 1, e0 9 (.i2l) 1, ei 10 (.invokestatic 191) 3 0 189 3 0 6, e1 13 (.ireturn) 1 1], 14)]
set_option maxRecDepth 100000 in
def K_X12_table : List XB := [(0, [true, true, true, true, false, false, false], [e1 0 (.iload_n 1) 1 1, e0 1 (.i2l) 1, ec 2 (.lconst 1) 1 1, ec 3 (.ldc2_w 405) 3 16, ei 6 (.invokestatic 191) 3 0 189 3 0 6, e1 9 (.ifCond .eq 23) 3 32, e1 12 (.iload_n 2) 1 2, e0 13 (.i2l) 1, ec 14 (.lconst 1) 1 1, ec 15 (.ldc2_w 357) 3 5, ei 18 (.invokestatic 191) 3 0 189 3 0 6, e1 21 (.ifCond .eq 11) 3 32, e1 24 (.iload_n 3) 1 3, e1 25 (.ifCond .lt 7) 3 32, ec 28 (.iconst 1) 1 1, e1 29 (.goto 4) 3 33], 32),
  (32, [true, true, true, true, false, false, false], [ec 32 (.iconst 0) 1 0], 33),
  (33, [true, true, true, true, false, false, false], [e1 33 (.istore 4) 2 4, e1 35 (.iload_n 3) 1 3, e1 36 (.istore 5) 2 5, ec 38 (.iconst 0) 1 0, e1 39 (.istore 6) 2 6], 41),
  (41, [true, true, true, true, true, true, true], [e1 41 (.iload 6) 2 6, e1 43 (.iload_n 2) 1 2, e1 44 (.if_icmp .ge 38) 3 82, e1 47 (.iload 4) 2 4, e1 49 (.ifCond .eq 33) 3 82, e1 52 (.iload 5) 2 5, ec 54 (.bipush 10) 2 10, e0 56 (.irem) 1, ec 57 (.bipush 8) 2 8, e1 59 (.if_icmp .ge 7) 3 66, ec 62 (.iconst 1) 1 1, e1 63 (.goto 4) 3 67], 66),
  (66, [true, true, true, true, false, true, true], [ec 66 (.iconst 0) 1 0], 67),
  (67, [true, true, true, true, false, true, true], [e1 67 (.istore 4) 2 4, e1 69 (.iload 5) 2 5, ec 71 (.bipush 10) 2 10, e0 73 (.idiv) 1, e1 74 (.istore 5) 2 5, ek 76 (.iinc 6 1) 3 1 6, e1 79 (.goto (-38)) 3 41], 82),
  (82, [true, true, true, true, true, true, false], [e1 82 (.iload 4) 2 4, e1 84 (.ifCond .eq 8) 3 92, e1 87 (.iload 5) 2 5, e1 89 (.ifCond .le 6) 3 95], 92),
  (92, [false, false, false, false, false, false, false], [ec 92 (.bipush (-2)) 2 (-2), e1 94 (.ireturn) 1 0], 95),
  (95, [true, true, true, true, false, false, false], [e1 95 (.aload_n 0) 1 0, e3 96 (.getfield 179) 3 22 45 0, ec 99 (.bipush 6) 2 6, e1 101 (.if_icmp .ne 6) 3 107, ec 104 (.bipush (-4)) 2 (-4), e1 106 (.ireturn) 1 0], 107),
  (107, [true, true, true, true, false, false, false], [e1 107 (.aload_n 0) 1 0, e3 108 (.getfield 120) 3 22 46 2, e1 111 (.aload_n 0) 1 0, e3 112 (.getfield 179) 3 22 45 0, e1 115 (.iload_n 1) 1 1, e0 116 (.iastore) 1, e1 117 (.aload_n 0) 1 0, e3 118 (.getfield 123) 3 22 47 2, e1 121 (.aload_n 0) 1 0, e3 122 (.getfield 179) 3 22 45 0, e1 125 (.iload_n 2) 1 2, e0 126 (.iastore) 1, e1 127 (.iload_n 3) 1 3, e1 128 (.istore 5) 2 5, ec 130 (.iconst 0) 1 0, e1 131 (.istore 6) 2 6], 133),
  (133, [true, false, true, false, false, true, true], [e1 133 (.iload 6) 2 6, e1 135 (.iload_n 2) 1 2, e1 136 (.if_icmp .ge 35) 3 171, e1 139 (.aload_n 0) 1 0, e3 140 (.getfield 126) 3 22 48 2, ec 143 (.iconst 5) 1 5, e1 144 (.aload_n 0) 1 0, e3 145 (.getfield 179) 3 22 45 0, e0 148 (.imul) 1, e1 149 (.iload 6) 2 6, e0 151 (.iadd) 1, e1 152 (.iload 5) 2 5, ec 154 (.bipush 10) 2 10, e0 156 (.irem) 1, e0 157 (.iastore) 1, e1 158 (.iload 5) 2 5, ec 160 (.bipush 10) 2 10, e0 162 (.idiv) 1, e1 163 (.istore 5) 2 5, ek 165 (.iinc 6 1) 3 1 6, e1 168 (.goto (-35)) 3 133], 171),
  (171, [true, false, false, false, false, false, false], [ec 171 (.iconst 0) 1 0, e1 172 (.istore 6) 2 6], 174),
  (174, [true, false, false, false, false, false, true], [e1 174 (.iload 6) 2 6, ec 176 (.bipush 80) 2 80, e1 178 (.if_icmp .ge 25) 3 203, e1 181 (.aload_n 0) 1 0, e3 182 (.getfield 129) 3 22 49 2, ec 185 (.bipush 80) 2 80, e1 187 (.aload_n 0) 1 0, e3 188 (.getfield 179) 3 22 45 0, e0 191 (.imul) 1, e1 192 (.iload 6) 2 6, e0 194 (.iadd) 1, ec 195 (.iconst 1) 1 1, e0 196 (.bastore) 1, ek 197 (.iinc 6 1) 3 1 6, e1 200 (.goto (-26)) 3 174], 203),
  (203, [true, false, false, false, false, false, false], [e1 203 (.aload_n 0) 1 0, e0 204 (.dup) 1, e3 205 (.getfield 179) 3 22 45 0, ec 208 (.iconst 1) 1 1, e0 209 (.iadd) 1, e3 210 (.putfield 179) 3 22 45 0, e1 213 (.aload_n 0) 1 0, e3 214 (.getfield 179) 3 22 45 0, ec 217 (.iconst 1) 1 1, e0 218 (.isub) 1, e1 219 (.ireturn) 1 0], 220)]
set_option maxRecDepth 100000 in
def K_X12_isColumn : List XB := [(0, [true, true, true], [e1 0 (.iload_n 2) 1 2, e0 1 (.i2l) 1, ec 2 (.lconst 0) 1 0, e1 3 (.aload_n 0) 1 0, e3 4 (.getfield 123) 3 22 47 2, e1 7 (.iload_n 1) 1 1, e0 8 (.iaload) 1, ec 9 (.iconst 1) 1 1, e0 10 (.isub) 1, e0 11 (.i2l) 1, ei 12 (.invokestatic 191) 3 0 189 3 0 6, e1 15 (.ireturn) 1 1], 16)]
set_option maxRecDepth 100000 in
def K_X12_isCell : List XB := [(0, [true, true, true, true], [e1 0 (.iload_n 2) 1 2, e0 1 (.i2l) 1, ec 2 (.lconst 0) 1 0, e1 3 (.aload_n 0) 1 0, e3 4 (.getfield 120) 3 22 46 2, e1 7 (.iload_n 1) 1 1, e0 8 (.iaload) 1, ec 9 (.iconst 1) 1 1, e0 10 (.isub) 1, e0 11 (.i2l) 1, ei 12 (.invokestatic 191) 3 0 189 3 0 6, e1 15 (.ifCond .eq 16) 3 31, e1 18 (.aload_n 0) 1 0, e1 19 (.iload_n 1) 1 1, e1 20 (.iload_n 3) 1 3, ei 21 (.invokevirtual 407) 3 22 287 3 0 3, e1 24 (.ifCond .eq 7) 3 31, ec 27 (.iconst 1) 1 1, e1 28 (.goto 4) 3 32], 31),
  (31, [false, false, false, false], [ec 31 (.iconst 0) 1 0], 32),
  (32, [false, false, false, false], [e1 32 (.ireturn) 1 1], 33)]
set_option maxRecDepth 100000 in
def K_X12_cellAt : List XB := [(0, [true, true, true], [ec 0 (.bipush 80) 2 80, e1 2 (.iload_n 0) 1 0, e0 3 (.imul) 1, ec 4 (.iconst 5) 1 5, e1 5 (.iload_n 1) 1 1, e0 6 (.imul) 1, e0 7 (.iadd) 1, e1 8 (.iload_n 2) 1 2, e0 9 (.iadd) 1, e1 10 (.ireturn) 1 0], 11)]
set_option maxRecDepth 100000 in
def K_X12_fill : List XB := [(0, [true, true, true, true, true, false, false, false], [e1 0 (.aload_n 0) 1 0, e1 1 (.iload_n 1) 1 1, ei 2 (.invokevirtual 410) 3 22 285 2 0 2, e1 5 (.ifCond .ne 5) 3 10, ec 8 (.iconst (-1)) 1 (-1), e1 9 (.ireturn) 1 0], 10),
  (10, [true, true, true, true, true, false, false, false], [e1 10 (.aload_n 0) 1 0, e1 11 (.iload_n 1) 1 1, e1 12 (.iload_n 2) 1 2, e1 13 (.iload_n 3) 1 3, ei 14 (.invokevirtual 413) 3 22 288 4 0 4, e1 17 (.ifCond .ne 10) 3 27, e1 20 (.aload_n 0) 1 0, ec 21 (.bipush (-12)) 2 (-12), ei 23 (.invokevirtual 223) 3 22 190 2 0 2, e1 26 (.ireturn) 1 0], 27),
  (27, [true, true, true, true, true, false, false, false], [e1 27 (.iload_n 1) 1 1, e1 28 (.iload_n 2) 1 2, e1 29 (.iload_n 3) 1 3, ei 30 (.invokestatic 416) 3 0 289 3 0 3, e1 33 (.istore 6) 2 6, e1 35 (.aload_n 0) 1 0, e3 36 (.getfield 126) 3 22 48 2, ec 39 (.iconst 5) 1 5, e1 40 (.iload_n 1) 1 1, e0 41 (.imul) 1, e1 42 (.iload_n 3) 1 3, e0 43 (.iadd) 1, e0 44 (.iaload) 1, e1 45 (.istore 7) 2 7, e1 47 (.aload_n 0) 1 0, e3 48 (.getfield 129) 3 22 49 2, e1 51 (.iload 6) 2 6, ec 53 (.iconst 0) 1 0, e0 54 (.bastore) 1, e1 55 (.aload_n 0) 1 0, e3 56 (.getfield 132) 3 22 50 2, e1 59 (.iload 6) 2 6, e1 61 (.iload 7) 2 7, e1 63 (.lload 4) 2 4, ei 65 (.invokestatic 226) 3 0 199 2 1 3, e0 68 (.lastore) 1, e1 69 (.aload_n 0) 1 0, e3 70 (.getfield 135) 3 22 51 2, e1 73 (.iload 6) 2 6, e1 75 (.iload 7) 2 7, ec 77 (.bipush 6) 2 6, e1 79 (.if_icmp .ne 10) 3 89, e1 82 (.lload 4) 2 4, e0 84 (.l2f) 1, e0 85 (.f2d) 1, e1 86 (.goto 17) 3 103], 89),
  (89, [false, false, false, false, true, false, false, true], [e1 89 (.iload 7) 2 7, ec 91 (.bipush 7) 2 7, e1 93 (.if_icmp .ne 9) 3 102, e1 96 (.lload 4) 2 4, e0 98 (.l2d) 1, e1 99 (.goto 4) 3 103], 102),
  (102, [false, false, false, false, false, false, false, false], [ec 102 (.dconst 0) 1 0], 103),
  (103, [false, false, false, false, false, false, false, false], [e0 103 (.dastore) 1, ec 104 (.iconst 1) 1 1, e1 105 (.ireturn) 1 0], 106)]
set_option maxRecDepth 100000 in
def K_X12_blank : List XB := [(0, [true, true, true, true, false, false], [e1 0 (.aload_n 0) 1 0, e1 1 (.iload_n 1) 1 1, ei 2 (.invokevirtual 410) 3 22 285 2 0 2, e1 5 (.ifCond .ne 5) 3 10, ec 8 (.iconst (-1)) 1 (-1), e1 9 (.ireturn) 1 0], 10),
  (10, [true, true, true, true, false, false], [e1 10 (.aload_n 0) 1 0, e1 11 (.iload_n 1) 1 1, e1 12 (.iload_n 2) 1 2, e1 13 (.iload_n 3) 1 3, ei 14 (.invokevirtual 413) 3 22 288 4 0 4, e1 17 (.ifCond .ne 10) 3 27, e1 20 (.aload_n 0) 1 0, ec 21 (.bipush (-12)) 2 (-12), ei 23 (.invokevirtual 223) 3 22 190 2 0 2, e1 26 (.ireturn) 1 0], 27),
  (27, [true, true, true, true, false, false], [e1 27 (.iload_n 1) 1 1, e1 28 (.iload_n 2) 1 2, e1 29 (.iload_n 3) 1 3, ei 30 (.invokestatic 416) 3 0 289 3 0 3, e1 33 (.istore 4) 2 4, e1 35 (.aload_n 0) 1 0, e3 36 (.getfield 129) 3 22 49 2, e1 39 (.iload 4) 2 4, e0 41 (.baload) 1, e1 42 (.ifCond .eq 7) 3 49, ec 45 (.iconst 0) 1 0, e1 46 (.goto 4) 3 50], 49),
  (49, [true, false, false, false, true, false], [ec 49 (.iconst 1) 1 1], 50),
  (50, [true, false, false, false, true, false], [e1 50 (.istore 5) 2 5, e1 52 (.aload_n 0) 1 0, e3 53 (.getfield 129) 3 22 49 2, e1 56 (.iload 4) 2 4, ec 58 (.iconst 1) 1 1, e0 59 (.bastore) 1, e1 60 (.iload 5) 2 5, e1 62 (.ireturn) 1 0], 63)]
set_option maxRecDepth 100000 in
def K_X12_read : List XB := [(0, [true, true, true, true, false], [e1 0 (.aload_n 0) 1 0, e1 1 (.iload_n 1) 1 1, ei 2 (.invokevirtual 410) 3 22 285 2 0 2, e1 5 (.ifCond .ne 7) 3 12, ec 8 (.ldc2_w 287) 3 (-1), e0 11 (.lreturn) 1], 12),
  (12, [true, true, true, true, false], [e1 12 (.aload_n 0) 1 0, e1 13 (.iload_n 1) 1 1, e1 14 (.iload_n 2) 1 2, e1 15 (.iload_n 3) 1 3, ei 16 (.invokevirtual 413) 3 22 288 4 0 4, e1 19 (.ifCond .ne 11) 3 30, e1 22 (.aload_n 0) 1 0, ec 23 (.bipush (-12)) 2 (-12), ei 25 (.invokevirtual 223) 3 22 190 2 0 2, e0 28 (.i2l) 1, e0 29 (.lreturn) 1], 30),
  (30, [true, true, true, true, false], [e1 30 (.iload_n 1) 1 1, e1 31 (.iload_n 2) 1 2, e1 32 (.iload_n 3) 1 3, ei 33 (.invokestatic 416) 3 0 289 3 0 3, e1 36 (.istore 4) 2 4, e1 38 (.aload_n 0) 1 0, e3 39 (.getfield 129) 3 22 49 2, e1 42 (.iload 4) 2 4, e0 44 (.baload) 1, e1 45 (.ifCond .eq 13) 3 58, e1 48 (.aload_n 0) 1 0, ec 49 (.bipush (-11)) 2 (-11), ei 51 (.invokevirtual 223) 3 22 190 2 0 2, e0 54 (.i2l) 1, e1 55 (.goto 10) 3 65], 58),
  (58, [true, false, false, false, true], [e1 58 (.aload_n 0) 1 0, e3 59 (.getfield 132) 3 22 50 2, e1 62 (.iload 4) 2 4, e0 64 (.laload) 1], 65),
  (65, [false, false, false, false, false], [e0 65 (.lreturn) 1], 66)]
set_option maxRecDepth 100000 in
def K_X12_choose : List XB := [(0, [true, true, true, true, false, true, false, false], [e1 0 (.aload_n 0) 1 0, e1 1 (.iload_n 1) 1 1, ei 2 (.invokevirtual 410) 3 22 285 2 0 2, e1 5 (.ifCond .ne 5) 3 10, ec 8 (.iconst (-1)) 1 (-1), e1 9 (.ireturn) 1 0], 10),
  (10, [true, true, true, true, false, true, false, false], [e1 10 (.iload 5) 2 5, e0 12 (.i2l) 1, ec 13 (.lconst 0) 1 0, ec 14 (.ldc2_w 419) 3 15, ei 17 (.invokestatic 191) 3 0 189 3 0 6, e1 20 (.ifCond .ne 6) 3 26, ec 23 (.bipush (-2)) 2 (-2), e1 25 (.ireturn) 1 0], 26),
  (26, [true, true, true, true, false, true, false, false], [e1 26 (.aload_n 0) 1 0, e1 27 (.iload_n 1) 1 1, e1 28 (.iload_n 2) 1 2, ei 29 (.invokevirtual 407) 3 22 287 3 0 3, e1 32 (.ifCond .ne 10) 3 42, e1 35 (.aload_n 0) 1 0, ec 36 (.bipush (-12)) 2 (-12), ei 38 (.invokevirtual 223) 3 22 190 2 0 2, e1 41 (.ireturn) 1 0], 42),
  (42, [true, true, true, true, false, true, false, false], [e1 42 (.iload 5) 2 5, e1 44 (.istore 6) 2 6], 46),
  (46, [true, true, true, true, false, false, true, false], [e1 46 (.iload 6) 2 6, e1 48 (.aload_n 0) 1 0, e3 49 (.getfield 120) 3 22 46 2, e1 52 (.iload_n 1) 1 1, e0 53 (.iaload) 1, e1 54 (.if_icmp .ge 43) 3 97, e1 57 (.iload_n 1) 1 1, e1 58 (.iload 6) 2 6, e1 60 (.iload_n 2) 1 2, ei 61 (.invokestatic 416) 3 0 289 3 0 3, e1 64 (.istore 7) 2 7, e1 66 (.aload_n 0) 1 0, e3 67 (.getfield 129) 3 22 49 2, e1 70 (.iload 7) 2 7, e0 72 (.baload) 1, e1 73 (.ifCond .ne 18) 3 91, e1 76 (.aload_n 0) 1 0, e3 77 (.getfield 132) 3 22 50 2, e1 80 (.iload 7) 2 7, e0 82 (.laload) 1, e1 83 (.lload_n 3) 1 3, e0 84 (.lcmp) 1, e1 85 (.ifCond .ne 6) 3 91, e1 88 (.iload 6) 2 6, e1 90 (.ireturn) 1 0], 91),
  (91, [true, true, true, true, false, false, true, false], [ek 91 (.iinc 6 1) 3 1 6, e1 94 (.goto (-48)) 3 46], 97),
  (97, [false, false, false, false, false, false, false, false], [ec 97 (.bipush (-9)) 2 (-9), e1 99 (.ireturn) 1 0], 100)]
set_option maxRecDepth 100000 in
def K_X12_isAhead : List XB := [(0, [true, true, true, true, true, true, false, false, false, false, false], [e1 0 (.iload_n 1) 1 1, e1 1 (.iload_n 3) 1 3, e1 2 (.iload_n 2) 1 2, ei 3 (.invokestatic 416) 3 0 289 3 0 3, e1 6 (.istore 6) 2 6, e1 8 (.iload_n 1) 1 1, e1 9 (.iload 4) 2 4, e1 11 (.iload_n 2) 1 2, ei 12 (.invokestatic 416) 3 0 289 3 0 3, e1 15 (.istore 7) 2 7, e1 17 (.aload_n 0) 1 0, e3 18 (.getfield 129) 3 22 49 2, e1 21 (.iload 6) 2 6, e0 23 (.baload) 1, e1 24 (.ifCond .ne 13) 3 37, e1 27 (.aload_n 0) 1 0, e3 28 (.getfield 129) 3 22 49 2, e1 31 (.iload 7) 2 7, e0 33 (.baload) 1, e1 34 (.ifCond .eq 29) 3 63], 37),
  (37, [true, false, false, false, false, false, true, true, false, false, false], [e1 37 (.aload_n 0) 1 0, e3 38 (.getfield 129) 3 22 49 2, e1 41 (.iload 6) 2 6, e0 43 (.baload) 1, e1 44 (.ifCond .ne 17) 3 61, e1 47 (.aload_n 0) 1 0, e3 48 (.getfield 129) 3 22 49 2, e1 51 (.iload 7) 2 7, e0 53 (.baload) 1, e1 54 (.ifCond .eq 7) 3 61, ec 57 (.iconst 1) 1 1, e1 58 (.goto 4) 3 62], 61),
  (61, [false, false, false, false, false, false, false, false, false, false, false], [ec 61 (.iconst 0) 1 0], 62),
  (62, [false, false, false, false, false, false, false, false, false, false, false], [e1 62 (.ireturn) 1 1], 63),
  (63, [true, true, true, false, false, true, true, true, false, false, false], [e1 63 (.aload_n 0) 1 0, e3 64 (.getfield 126) 3 22 48 2, ec 67 (.iconst 5) 1 5, e1 68 (.iload_n 1) 1 1, e0 69 (.imul) 1, e1 70 (.iload_n 2) 1 2, e0 71 (.iadd) 1, e0 72 (.iaload) 1, e1 73 (.istore 8) 2 8, e1 75 (.iload 8) 2 8, ec 77 (.bipush 6) 2 6, e1 79 (.if_icmp .eq 10) 3 89, e1 82 (.iload 8) 2 8, ec 84 (.bipush 7) 2 7, e1 86 (.if_icmp .ne 29) 3 115], 89),
  (89, [true, false, false, false, false, true, true, true, true, false, false], [e1 89 (.aload_n 0) 1 0, e3 90 (.getfield 135) 3 22 51 2, e1 93 (.iload 6) 2 6, e0 95 (.daload) 1, e1 96 (.aload_n 0) 1 0, e3 97 (.getfield 135) 3 22 51 2, e1 100 (.iload 7) 2 7, e0 102 (.daload) 1, e0 103 (.dcmp .g) 1, e1 104 (.ifCond .ge 7) 3 111, ec 107 (.iconst 1) 1 1, e1 108 (.goto 30) 3 138], 111),
  (111, [true, false, false, false, false, true, true, true, true, false, false], [ec 111 (.iconst 0) 1 0, e1 112 (.goto 26) 3 138], 115),
  (115, [true, false, false, false, false, true, true, true, true, false, false], [e1 115 (.aload_n 0) 1 0, e3 116 (.getfield 132) 3 22 50 2, e1 119 (.iload 6) 2 6, e0 121 (.laload) 1, e1 122 (.aload_n 0) 1 0, e3 123 (.getfield 132) 3 22 50 2, e1 126 (.iload 7) 2 7, e0 128 (.laload) 1, e0 129 (.lcmp) 1, e1 130 (.ifCond .ge 7) 3 137, ec 133 (.iconst 1) 1 1, e1 134 (.goto 4) 3 138], 137),
  (137, [true, false, false, false, false, true, true, true, true, false, false], [ec 137 (.iconst 0) 1 0], 138),
  (138, [true, false, false, false, false, true, true, true, true, false, false], [e1 138 (.istore 9) 2 9, e1 140 (.iload 8) 2 8, ec 142 (.bipush 6) 2 6, e1 144 (.if_icmp .eq 10) 3 154, e1 147 (.iload 8) 2 8, ec 149 (.bipush 7) 2 7, e1 151 (.if_icmp .ne 29) 3 180], 154),
  (154, [true, false, false, false, false, true, true, true, false, true, false], [e1 154 (.aload_n 0) 1 0, e3 155 (.getfield 135) 3 22 51 2, e1 158 (.iload 6) 2 6, e0 160 (.daload) 1, e1 161 (.aload_n 0) 1 0, e3 162 (.getfield 135) 3 22 51 2, e1 165 (.iload 7) 2 7, e0 167 (.daload) 1, e0 168 (.dcmp .l) 1, e1 169 (.ifCond .le 7) 3 176, ec 172 (.iconst 1) 1 1, e1 173 (.goto 30) 3 203], 176),
  (176, [false, false, false, false, false, true, false, false, false, true, false], [ec 176 (.iconst 0) 1 0, e1 177 (.goto 26) 3 203], 180),
  (180, [true, false, false, false, false, true, true, true, false, true, false], [e1 180 (.aload_n 0) 1 0, e3 181 (.getfield 132) 3 22 50 2, e1 184 (.iload 6) 2 6, e0 186 (.laload) 1, e1 187 (.aload_n 0) 1 0, e3 188 (.getfield 132) 3 22 50 2, e1 191 (.iload 7) 2 7, e0 193 (.laload) 1, e0 194 (.lcmp) 1, e1 195 (.ifCond .le 7) 3 202, ec 198 (.iconst 1) 1 1, e1 199 (.goto 4) 3 203], 202),
  (202, [false, false, false, false, false, true, false, false, false, true, false], [ec 202 (.iconst 0) 1 0], 203),
  (203, [false, false, false, false, false, true, false, false, false, true, false], [e1 203 (.istore 10) 2 10, e1 205 (.iload 5) 2 5, e1 207 (.ifCond .eq 8) 3 215, e1 210 (.iload 10) 2 10, e1 212 (.goto 5) 3 217], 215),
  (215, [false, false, false, false, false, false, false, false, false, true, false], [e1 215 (.iload 9) 2 9], 217),
  (217, [false, false, false, false, false, false, false, false, false, false, false], [e1 217 (.ireturn) 1 1], 218)]
set_option maxRecDepth 100000 in
def K_X12_rank : List XB := [(0, [true, true, true, true, false, false, false], [e1 0 (.aload_n 0) 1 0, e1 1 (.iload_n 1) 1 1, ei 2 (.invokevirtual 410) 3 22 285 2 0 2, e1 5 (.ifCond .ne 5) 3 10, ec 8 (.iconst (-1)) 1 (-1), e1 9 (.ireturn) 1 0], 10),
  (10, [true, true, true, true, false, false, false], [e1 10 (.aload_n 0) 1 0, e1 11 (.iload_n 1) 1 1, e1 12 (.iload_n 2) 1 2, ei 13 (.invokevirtual 407) 3 22 287 3 0 3, e1 16 (.ifCond .ne 10) 3 26, e1 19 (.aload_n 0) 1 0, ec 20 (.bipush (-12)) 2 (-12), ei 22 (.invokevirtual 223) 3 22 190 2 0 2, e1 25 (.ireturn) 1 0], 26),
  (26, [true, true, true, true, false, false, false], [ec 26 (.iconst 0) 1 0, e1 27 (.istore 4) 2 4], 29),
  (29, [true, true, true, true, true, false, false], [e1 29 (.iload 4) 2 4, e1 31 (.aload_n 0) 1 0, e3 32 (.getfield 120) 3 22 46 2, e1 35 (.iload_n 1) 1 1, e0 36 (.iaload) 1, e1 37 (.if_icmp .ge 70) 3 107, e1 40 (.iload 4) 2 4, e1 42 (.istore 5) 2 5], 44),
  (44, [true, true, true, true, true, true, false], [e1 44 (.iload 5) 2 5, e1 46 (.ifCond .le 46) 3 92, e1 49 (.aload_n 0) 1 0, e1 50 (.iload_n 1) 1 1, e1 51 (.iload_n 2) 1 2, e1 52 (.iload 4) 2 4, e1 54 (.aload_n 0) 1 0, e3 55 (.getfield 139) 3 22 52 2, e1 58 (.iload 5) 2 5, ec 60 (.iconst 1) 1 1, e0 61 (.isub) 1, e0 62 (.iaload) 1, e1 63 (.iload_n 3) 1 3, ei 64 (.invokevirtual 421) 3 22 294 6 0 11, e1 67 (.ifCond .eq 25) 3 92, e1 70 (.aload_n 0) 1 0, e3 71 (.getfield 139) 3 22 52 2, e1 74 (.iload 5) 2 5, e1 76 (.aload_n 0) 1 0, e3 77 (.getfield 139) 3 22 52 2, e1 80 (.iload 5) 2 5, ec 82 (.iconst 1) 1 1, e0 83 (.isub) 1, e0 84 (.iaload) 1, e0 85 (.iastore) 1, ek 86 (.iinc 5 (-1)) 3 (-1) 5, e1 89 (.goto (-45)) 3 44], 92),
  (92, [true, true, true, true, true, true, false], [e1 92 (.aload_n 0) 1 0, e3 93 (.getfield 139) 3 22 52 2, e1 96 (.iload 5) 2 5, e1 98 (.iload 4) 2 4, e0 100 (.iastore) 1, ek 101 (.iinc 4 1) 3 1 4, e1 104 (.goto (-75)) 3 29], 107),
  (107, [true, true, false, false, false, false, false], [ec 107 (.iconst 0) 1 0, e1 108 (.istore 4) 2 4], 110),
  (110, [true, true, false, false, true, false, false], [e1 110 (.iload 4) 2 4, ec 112 (.bipush 80) 2 80, e1 114 (.if_icmp .ge 66) 3 180, e1 117 (.aload_n 0) 1 0, e3 118 (.getfield 142) 3 22 53 2, e1 121 (.iload 4) 2 4, e1 123 (.aload_n 0) 1 0, e3 124 (.getfield 129) 3 22 49 2, ec 127 (.bipush 80) 2 80, e1 129 (.iload_n 1) 1 1, e0 130 (.imul) 1, e1 131 (.iload 4) 2 4, e0 133 (.iadd) 1, e0 134 (.baload) 1, e0 135 (.bastore) 1, e1 136 (.aload_n 0) 1 0, e3 137 (.getfield 145) 3 22 54 2, e1 140 (.iload 4) 2 4, e1 142 (.aload_n 0) 1 0, e3 143 (.getfield 132) 3 22 50 2, ec 146 (.bipush 80) 2 80, e1 148 (.iload_n 1) 1 1, e0 149 (.imul) 1, e1 150 (.iload 4) 2 4, e0 152 (.iadd) 1, e0 153 (.laload) 1, e0 154 (.lastore) 1, e1 155 (.aload_n 0) 1 0, e3 156 (.getfield 148) 3 22 55 2, e1 159 (.iload 4) 2 4, e1 161 (.aload_n 0) 1 0, e3 162 (.getfield 135) 3 22 51 2, ec 165 (.bipush 80) 2 80, e1 167 (.iload_n 1) 1 1, e0 168 (.imul) 1, e1 169 (.iload 4) 2 4, e0 171 (.iadd) 1, e0 172 (.daload) 1, e0 173 (.dastore) 1, ek 174 (.iinc 4 1) 3 1 4, e1 177 (.goto (-67)) 3 110], 180),
  (180, [true, true, false, false, false, false, false], [ec 180 (.iconst 0) 1 0, e1 181 (.istore 4) 2 4, ec 183 (.iconst 0) 1 0, e1 184 (.istore 5) 2 5], 186),
  (186, [true, true, false, false, true, true, false], [e1 186 (.iload 5) 2 5, e1 188 (.aload_n 0) 1 0, e3 189 (.getfield 120) 3 22 46 2, e1 192 (.iload_n 1) 1 1, e0 193 (.iaload) 1, e1 194 (.if_icmp .ge 148) 3 342, e1 197 (.iload 4) 2 4, e1 199 (.aload_n 0) 1 0, e3 200 (.getfield 139) 3 22 52 2, e1 203 (.iload 5) 2 5, e0 205 (.iaload) 1, e1 206 (.iload 5) 2 5, e1 208 (.if_icmp .eq 7) 3 215, ec 211 (.iconst 1) 1 1, e1 212 (.goto 4) 3 216], 215),
  (215, [true, true, false, false, false, true, false], [ec 215 (.iconst 0) 1 0], 216),
  (216, [true, true, false, false, false, true, false], [e0 216 (.iadd) 1, e1 217 (.istore 4) 2 4, ec 219 (.iconst 0) 1 0, e1 220 (.istore 6) 2 6], 222),
  (222, [true, true, false, false, true, true, true], [e1 222 (.iload 6) 2 6, ec 224 (.iconst 5) 1 5, e1 225 (.if_icmp .ge 111) 3 336, e1 228 (.aload_n 0) 1 0, e3 229 (.getfield 129) 3 22 49 2, ec 232 (.bipush 80) 2 80, e1 234 (.iload_n 1) 1 1, e0 235 (.imul) 1, ec 236 (.iconst 5) 1 5, e1 237 (.iload 5) 2 5, e0 239 (.imul) 1, e0 240 (.iadd) 1, e1 241 (.iload 6) 2 6, e0 243 (.iadd) 1, e1 244 (.aload_n 0) 1 0, e3 245 (.getfield 142) 3 22 53 2, ec 248 (.iconst 5) 1 5, e1 249 (.aload_n 0) 1 0, e3 250 (.getfield 139) 3 22 52 2, e1 253 (.iload 5) 2 5, e0 255 (.iaload) 1, e0 256 (.imul) 1, e1 257 (.iload 6) 2 6, e0 259 (.iadd) 1, e0 260 (.baload) 1, e0 261 (.bastore) 1, e1 262 (.aload_n 0) 1 0, e3 263 (.getfield 132) 3 22 50 2, ec 266 (.bipush 80) 2 80, e1 268 (.iload_n 1) 1 1, e0 269 (.imul) 1, ec 270 (.iconst 5) 1 5, e1 271 (.iload 5) 2 5, e0 273 (.imul) 1, e0 274 (.iadd) 1, e1 275 (.iload 6) 2 6, e0 277 (.iadd) 1, e1 278 (.aload_n 0) 1 0, e3 279 (.getfield 145) 3 22 54 2, ec 282 (.iconst 5) 1 5, e1 283 (.aload_n 0) 1 0, e3 284 (.getfield 139) 3 22 52 2, e1 287 (.iload 5) 2 5, e0 289 (.iaload) 1, e0 290 (.imul) 1, e1 291 (.iload 6) 2 6, e0 293 (.iadd) 1, e0 294 (.laload) 1, e0 295 (.lastore) 1, e1 296 (.aload_n 0) 1 0, e3 297 (.getfield 135) 3 22 51 2, ec 300 (.bipush 80) 2 80, e1 302 (.iload_n 1) 1 1, e0 303 (.imul) 1, ec 304 (.iconst 5) 1 5, e1 305 (.iload 5) 2 5, e0 307 (.imul) 1, e0 308 (.iadd) 1, e1 309 (.iload 6) 2 6, e0 311 (.iadd) 1, e1 312 (.aload_n 0) 1 0, e3 313 (.getfield 148) 3 22 55 2, ec 316 (.iconst 5) 1 5, e1 317 (.aload_n 0) 1 0, e3 318 (.getfield 139) 3 22 52 2, e1 321 (.iload 5) 2 5, e0 323 (.iaload) 1, e0 324 (.imul) 1, e1 325 (.iload 6) 2 6, e0 327 (.iadd) 1, e0 328 (.daload) 1, e0 329 (.dastore) 1, ek 330 (.iinc 6 1) 3 1 6, e1 333 (.goto (-111)) 3 222], 336),
  (336, [true, true, false, false, true, true, false], [ek 336 (.iinc 5 1) 3 1 5, e1 339 (.goto (-153)) 3 186], 342),
  (342, [false, false, false, false, true, false, false], [e1 342 (.iload 4) 2 4, e1 344 (.ireturn) 1 0], 345)]
set_option maxRecDepth 100000 in
def K_X12_filledIn : List XB := [(0, [true, true, true, false, false], [ec 0 (.iconst 0) 1 0, e1 1 (.istore_n 3) 1 3, ec 2 (.iconst 0) 1 0, e1 3 (.istore 4) 2 4], 5),
  (5, [true, true, true, true, true], [e1 5 (.iload 4) 2 4, e1 7 (.aload_n 0) 1 0, e3 8 (.getfield 120) 3 22 46 2, e1 11 (.iload_n 1) 1 1, e0 12 (.iaload) 1, e1 13 (.if_icmp .ge 32) 3 45, e1 16 (.iload_n 3) 1 3, e1 17 (.aload_n 0) 1 0, e3 18 (.getfield 129) 3 22 49 2, e1 21 (.iload_n 1) 1 1, e1 22 (.iload 4) 2 4, e1 24 (.iload_n 2) 1 2, ei 25 (.invokestatic 416) 3 0 289 3 0 3, e0 28 (.baload) 1, e1 29 (.ifCond .eq 7) 3 36, ec 32 (.iconst 0) 1 0, e1 33 (.goto 4) 3 37], 36),
  (36, [true, true, true, false, true], [ec 36 (.iconst 1) 1 1], 37),
  (37, [true, true, true, false, true], [e0 37 (.iadd) 1, e1 38 (.istore_n 3) 1 3, ek 39 (.iinc 4 1) 3 1 4, e1 42 (.goto (-37)) 3 5], 45),
  (45, [false, false, false, true, false], [e1 45 (.iload_n 3) 1 3, e1 46 (.ireturn) 1 0], 47)]
set_option maxRecDepth 100000 in
def K_X12_sumOf : List XB := [(0, [true, true, true, false, false, false, false], [ec 0 (.lconst 0) 1 0, e1 1 (.lstore_n 3) 1 3, ec 2 (.iconst 0) 1 0, e1 3 (.istore 5) 2 5], 5),
  (5, [true, true, true, true, false, true, false], [e1 5 (.iload 5) 2 5, e1 7 (.aload_n 0) 1 0, e3 8 (.getfield 120) 3 22 46 2, e1 11 (.iload_n 1) 1 1, e0 12 (.iaload) 1, e1 13 (.if_icmp .ge 42) 3 55, e1 16 (.iload_n 1) 1 1, e1 17 (.iload 5) 2 5, e1 19 (.iload_n 2) 1 2, ei 20 (.invokestatic 416) 3 0 289 3 0 3, e1 23 (.istore 6) 2 6, e1 25 (.lload_n 3) 1 3, e1 26 (.aload_n 0) 1 0, e3 27 (.getfield 129) 3 22 49 2, e1 30 (.iload 6) 2 6, e0 32 (.baload) 1, e1 33 (.ifCond .eq 7) 3 40, ec 36 (.lconst 0) 1 0, e1 37 (.goto 10) 3 47], 40),
  (40, [true, true, true, false, false, true, true], [e1 40 (.aload_n 0) 1 0, e3 41 (.getfield 132) 3 22 50 2, e1 44 (.iload 6) 2 6, e0 46 (.laload) 1], 47),
  (47, [true, true, true, false, false, true, false], [e0 47 (.ladd) 1, e1 48 (.lstore_n 3) 1 3, ek 49 (.iinc 5 1) 3 1 5, e1 52 (.goto (-47)) 3 5], 55),
  (55, [false, false, false, true, false, false, false], [e1 55 (.lload_n 3) 1 3, e0 56 (.lreturn) 1], 57)]
set_option maxRecDepth 100000 in
def K_X12_total : List XB := [(0, [true, true, true], [e1 0 (.aload_n 0) 1 0, e1 1 (.iload_n 1) 1 1, ei 2 (.invokevirtual 410) 3 22 285 2 0 2, e1 5 (.ifCond .ne 9) 3 14, ec 8 (.ldc2_w 287) 3 (-1), e1 11 (.goto 28) 3 39], 14),
  (14, [true, true, true], [e1 14 (.aload_n 0) 1 0, e1 15 (.iload_n 1) 1 1, e1 16 (.iload_n 2) 1 2, ei 17 (.invokevirtual 407) 3 22 287 3 0 3, e1 20 (.ifCond .eq 12) 3 32, e1 23 (.aload_n 0) 1 0, e1 24 (.iload_n 1) 1 1, e1 25 (.iload_n 2) 1 2, ei 26 (.invokevirtual 425) 3 22 297 3 1 7, e1 29 (.goto 10) 3 39], 32),
  (32, [true, false, false], [e1 32 (.aload_n 0) 1 0, ec 33 (.bipush (-12)) 2 (-12), ei 35 (.invokevirtual 223) 3 22 190 2 0 2, e0 38 (.i2l) 1], 39),
  (39, [false, false, false], [e0 39 (.lreturn) 1], 40)]
set_option maxRecDepth 100000 in
def K_X12_mean : List XB := [(0, [true, true, true, false], [e1 0 (.aload_n 0) 1 0, e1 1 (.iload_n 1) 1 1, ei 2 (.invokevirtual 410) 3 22 285 2 0 2, e1 5 (.ifCond .ne 7) 3 12, ec 8 (.ldc2_w 287) 3 (-1), e0 11 (.lreturn) 1], 12),
  (12, [true, true, true, false], [e1 12 (.aload_n 0) 1 0, e1 13 (.iload_n 1) 1 1, e1 14 (.iload_n 2) 1 2, ei 15 (.invokevirtual 407) 3 22 287 3 0 3, e1 18 (.ifCond .ne 11) 3 29, e1 21 (.aload_n 0) 1 0, ec 22 (.bipush (-12)) 2 (-12), ei 24 (.invokevirtual 223) 3 22 190 2 0 2, e0 27 (.i2l) 1, e0 28 (.lreturn) 1], 29),
  (29, [true, true, true, false], [e1 29 (.aload_n 0) 1 0, e1 30 (.iload_n 1) 1 1, e1 31 (.iload_n 2) 1 2, ei 32 (.invokevirtual 428) 3 22 296 3 0 5, e1 35 (.istore_n 3) 1 3, e1 36 (.iload_n 3) 1 3, e1 37 (.ifCond .ne 13) 3 50, e1 40 (.aload_n 0) 1 0, ec 41 (.bipush (-16)) 2 (-16), ei 43 (.invokevirtual 223) 3 22 190 2 0 2, e0 46 (.i2l) 1, e1 47 (.goto 12) 3 59], 50),
  (50, [true, true, true, true], [e1 50 (.aload_n 0) 1 0, e1 51 (.iload_n 1) 1 1, e1 52 (.iload_n 2) 1 2, ei 53 (.invokevirtual 425) 3 22 297 3 1 7, e1 56 (.iload_n 3) 1 3, e0 57 (.i2l) 1, e0 58 (.ldiv) 1], 59),
  (59, [false, false, false, false], [e0 59 (.lreturn) 1], 60)]
set_option maxRecDepth 100000 in
def K_X12_add : List XB := [(0, [true, true], [e1 0 (.aload_n 0) 1 0, e3 1 (.getfield 151) 3 22 57 2, e1 4 (.aload_n 0) 1 0, e3 5 (.getfield 182) 3 22 56 0, e1 8 (.iload_n 1) 1 1, e0 9 (.iastore) 1, e1 10 (.aload_n 0) 1 0, e0 11 (.dup) 1, e3 12 (.getfield 182) 3 22 56 0, ec 15 (.iconst 1) 1 1, e0 16 (.iadd) 1, e3 17 (.putfield 182) 3 22 56 0, e0 20 (.return_) 1], 21)]
set_option maxRecDepth 100000 in
def K_X12_make : List XB := [(0, [true, false, false, false, false], [ec 0 (.iconst 0) 1 0, e1 1 (.istore_n 1) 1 1, ec 2 (.iconst 0) 1 0, e1 3 (.istore_n 2) 1 2], 4),
  (4, [true, true, true, false, false], [e1 4 (.iload_n 2) 1 2, e1 5 (.aload_n 0) 1 0, e3 6 (.getfield 167) 3 22 9 0, e1 9 (.if_icmp .ge 27) 3 36, e1 12 (.iload_n 1) 1 1, e1 13 (.ifCond .ne 11) 3 24, e1 16 (.aload_n 0) 1 0, e1 17 (.iload_n 2) 1 2, ei 18 (.invokevirtual 382) 3 22 268 2 0 2, e1 21 (.ifCond .eq 7) 3 28], 24),
  (24, [true, false, true, false, false], [ec 24 (.iconst 1) 1 1, e1 25 (.goto 4) 3 29], 28),
  (28, [true, false, true, false, false], [ec 28 (.iconst 0) 1 0], 29),
  (29, [true, false, true, false, false], [e1 29 (.istore_n 1) 1 1, ek 30 (.iinc 2 1) 3 1 2, e1 33 (.goto (-29)) 3 4], 36),
  (36, [true, true, false, false, false], [e1 36 (.iload_n 1) 1 1, e1 37 (.ifCond .eq 10) 3 47, e1 40 (.aload_n 0) 1 0, ei 41 (.invokevirtual 328) 3 22 244 1 0 3, e1 44 (.ifCond .le 6) 3 50], 47),
  (47, [false, false, false, false, false], [ec 47 (.bipush (-3)) 2 (-3), e1 49 (.ireturn) 1 0], 50),
  (50, [true, false, false, false, false], [e1 50 (.aload_n 0) 1 0, ec 51 (.iconst 0) 1 0, e3 52 (.putfield 182) 3 22 56 0, e1 55 (.aload_n 0) 1 0, e1 56 (.aload_n 0) 1 0, e3 57 (.getfield 161) 3 22 1 0, ei 60 (.invokevirtual 431) 3 22 300 2 3 2, e1 63 (.aload_n 0) 1 0, e1 64 (.aload_n 0) 1 0, e3 65 (.getfield 167) 3 22 9 0, ei 68 (.invokevirtual 431) 3 22 300 2 3 2, ec 71 (.iconst 0) 1 0, e1 72 (.istore_n 2) 1 2], 73),
  (73, [true, false, true, false, false], [e1 73 (.iload_n 2) 1 2, e1 74 (.aload_n 0) 1 0, e3 75 (.getfield 167) 3 22 9 0, e1 78 (.if_icmp .ge 84) 3 162, e1 81 (.aload_n 0) 1 0, e1 82 (.aload_n 0) 1 0, e3 83 (.getfield 30) 3 22 10 2, e1 86 (.iload_n 2) 1 2, e0 87 (.iaload) 1, ei 88 (.invokevirtual 431) 3 22 300 2 3 2, e1 91 (.aload_n 0) 1 0, e1 92 (.aload_n 0) 1 0, e1 93 (.iload_n 2) 1 2, ei 94 (.invokevirtual 241) 3 22 215 2 0 2, ei 97 (.invokevirtual 431) 3 22 300 2 3 2, e1 100 (.aload_n 0) 1 0, e1 101 (.aload_n 0) 1 0, e3 102 (.getfield 33) 3 22 11 2, e1 105 (.iload_n 2) 1 2, e0 106 (.iaload) 1, ei 107 (.invokevirtual 431) 3 22 300 2 3 2, ec 110 (.iconst 0) 1 0, e1 111 (.istore_n 3) 1 3], 112),
  (112, [true, false, true, true, false], [e1 112 (.iload_n 3) 1 3, e1 113 (.aload_n 0) 1 0, e3 114 (.getfield 164) 3 22 3 0, e1 117 (.if_icmp .ge 39) 3 156, e1 120 (.aload_n 0) 1 0, e1 121 (.aload_n 0) 1 0, e3 122 (.getfield 30) 3 22 10 2, e1 125 (.iload_n 2) 1 2, e0 126 (.iaload) 1, e1 127 (.aload_n 0) 1 0, e3 128 (.getfield 13) 3 22 4 2, e1 131 (.iload_n 3) 1 3, e0 132 (.iaload) 1, ei 133 (.invokevirtual 199) 3 22 194 3 0 4, e1 136 (.ifCond .eq 14) 3 150, e1 139 (.aload_n 0) 1 0, e1 140 (.aload_n 0) 1 0, e1 141 (.iload_n 2) 1 2, e1 142 (.iload_n 3) 1 3, ei 143 (.invokevirtual 291) 3 22 224 3 1 5, e0 146 (.l2i) 1, ei 147 (.invokevirtual 431) 3 22 300 2 3 2], 150),
  (150, [true, false, true, true, false], [ek 150 (.iinc 3 1) 3 1 3, e1 153 (.goto (-41)) 3 112], 156),
  (156, [true, false, true, false, false], [ek 156 (.iinc 2 1) 3 1 2, e1 159 (.goto (-86)) 3 73], 162),
  (162, [true, false, false, false, false], [ec 162 (.iconst 0) 1 0, e1 163 (.istore_n 2) 1 2], 164),
  (164, [true, false, true, false, false], [e1 164 (.iload_n 2) 1 2, e1 165 (.aload_n 0) 1 0, e3 166 (.getfield 167) 3 22 9 0, e1 169 (.if_icmp .ge 41) 3 210, ec 172 (.iconst 0) 1 0, e1 173 (.istore_n 3) 1 3], 174),
  (174, [true, false, true, true, false], [e1 174 (.iload_n 3) 1 3, ec 175 (.bipush 8) 2 8, e1 177 (.if_icmp .ge 27) 3 204, e1 180 (.aload_n 0) 1 0, e1 181 (.iload_n 2) 1 2, ei 182 (.invokevirtual 382) 3 22 268 2 0 2, e1 185 (.ifCond .eq 19) 3 204, e1 188 (.aload_n 0) 1 0, e1 189 (.aload_n 0) 1 0, e1 190 (.iload_n 2) 1 2, e1 191 (.iload_n 3) 1 3, ei 192 (.invokevirtual 434) 3 22 272 3 0 3, ei 195 (.invokevirtual 431) 3 22 300 2 3 2, ek 198 (.iinc 3 1) 3 1 3, e1 201 (.goto (-27)) 3 174], 204),
  (204, [true, false, true, false, false], [ek 204 (.iinc 2 1) 3 1 2, e1 207 (.goto (-43)) 3 164], 210),
  (210, [true, false, false, false, false], [ec 210 (.iconst 0) 1 0, e1 211 (.istore_n 2) 1 2], 212),
  (212, [true, false, true, false, false], [e1 212 (.iload_n 2) 1 2, e1 213 (.aload_n 0) 1 0, e3 214 (.getfield 173) 3 22 29 0, e1 217 (.if_icmp .ge 82) 3 299, e1 220 (.aload_n 0) 1 0, e1 221 (.iload_n 2) 1 2, ei 222 (.invokevirtual 375) 3 22 264 2 3 4, ec 225 (.iconst 0) 1 0, e1 226 (.istore_n 3) 1 3, ec 227 (.iconst 0) 1 0, e1 228 (.istore 4) 2 4], 230),
  (230, [true, false, true, true, true], [e1 230 (.iload 4) 2 4, ec 232 (.bipush 64) 2 64, e1 234 (.aload_n 0) 1 0, e3 235 (.getfield 167) 3 22 9 0, e0 238 (.imul) 1, e1 239 (.if_icmp .ge 39) 3 278, e1 242 (.iload_n 3) 1 3, e1 243 (.iload 4) 2 4, ec 245 (.bipush 64) 2 64, e0 247 (.irem) 1, e1 248 (.aload_n 0) 1 0, e3 249 (.getfield 167) 3 22 9 0, e1 252 (.if_icmp .ge 17) 3 269, e1 255 (.aload_n 0) 1 0, e3 256 (.getfield 93) 3 22 34 2, e1 259 (.iload 4) 2 4, e0 261 (.baload) 1, e1 262 (.ifCond .eq 7) 3 269, ec 265 (.iconst 1) 1 1, e1 266 (.goto 4) 3 270], 269),
  (269, [true, false, true, false, true], [ec 269 (.iconst 0) 1 0], 270),
  (270, [true, false, true, false, true], [e0 270 (.iadd) 1, e1 271 (.istore_n 3) 1 3, ek 272 (.iinc 4 1) 3 1 4, e1 275 (.goto (-45)) 3 230], 278),
  (278, [true, false, true, true, false], [e1 278 (.aload_n 0) 1 0, e1 279 (.aload_n 0) 1 0, e3 280 (.getfield 81) 3 22 30 2, e1 283 (.iload_n 2) 1 2, e0 284 (.iaload) 1, ei 285 (.invokevirtual 431) 3 22 300 2 3 2, e1 288 (.aload_n 0) 1 0, e1 289 (.iload_n 3) 1 3, ei 290 (.invokevirtual 431) 3 22 300 2 3 2, ek 293 (.iinc 2 1) 3 1 2, e1 296 (.goto (-84)) 3 212], 299),
  (299, [true, false, false, false, false], [e1 299 (.aload_n 0) 1 0, e3 300 (.getfield 182) 3 22 56 0, e1 303 (.ireturn) 1 0], 304)]
set_option maxRecDepth 100000 in
def K_X12_word : List XB := [(0, [true, true], [e1 0 (.iload_n 1) 1 1, e0 1 (.i2l) 1, ec 2 (.lconst 0) 1 0, e1 3 (.aload_n 0) 1 0, e3 4 (.getfield 182) 3 22 56 0, ec 7 (.iconst 1) 1 1, e0 8 (.isub) 1, e0 9 (.i2l) 1, ei 10 (.invokestatic 191) 3 0 189 3 0 6, e1 13 (.ifCond .eq 12) 3 25, e1 16 (.aload_n 0) 1 0, e3 17 (.getfield 151) 3 22 57 2, e1 20 (.iload_n 1) 1 1, e0 21 (.iaload) 1, e1 22 (.goto 5) 3 27], 25),
  (25, [false, false], [ec 25 (.bipush (-9)) 2 (-9)], 27),
  (27, [false, false], [e1 27 (.ireturn) 1 0], 28)]
set_option maxRecDepth 100000 in
def K_X12_digest : List XB := [(0, [true, false, false, false], [ec 0 (.ldc2_w 437) 3 17, e1 3 (.lstore_n 1) 1 1, ec 4 (.iconst 0) 1 0, e1 5 (.istore_n 3) 1 3], 6),
  (6, [true, true, false, true], [e1 6 (.iload_n 3) 1 3, e1 7 (.aload_n 0) 1 0, e3 8 (.getfield 182) 3 22 56 0, e1 11 (.if_icmp .ge 23) 3 34, ec 14 (.ldc2_w 439) 3 31, e1 17 (.lload_n 1) 1 1, e0 18 (.lmul) 1, e1 19 (.aload_n 0) 1 0, e3 20 (.getfield 151) 3 22 57 2, e1 23 (.iload_n 3) 1 3, e0 24 (.iaload) 1, e0 25 (.i2l) 1, e0 26 (.ladd) 1, e1 27 (.lstore_n 1) 1 1, ek 28 (.iinc 3 1) 3 1 3, e1 31 (.goto (-25)) 3 6], 34),
  (34, [false, true, false, false], [e1 34 (.lload_n 1) 1 1, e0 35 (.lreturn) 1], 36)]
set_option maxRecDepth 100000 in
def K_X12_sentence : List XB := [(0, [true, true, true], [e1 0 (.iload_n 1) 1 1, e0 1 (.i2l) 1, ec 2 (.lconst 0) 1 0, e1 3 (.aload_n 0) 1 0, e3 4 (.getfield 170) 3 22 22 0, ec 7 (.iconst 1) 1 1, e0 8 (.isub) 1, e0 9 (.i2l) 1, ei 10 (.invokestatic 191) 3 0 189 3 0 6, e1 13 (.ifCond .ne 5) 3 18, ec 16 (.iconst (-1)) 1 (-1), e1 17 (.ireturn) 1 0], 18),
  (18, [true, true, true], [e1 18 (.iload_n 2) 1 2, e1 19 (.ifCond .ne 12) 3 31, e1 22 (.aload_n 0) 1 0, e3 23 (.getfield 66) 3 22 23 2, e1 26 (.iload_n 1) 1 1, e0 27 (.iaload) 1, e1 28 (.goto 33) 3 61], 31),
  (31, [true, true, true], [e1 31 (.iload_n 2) 1 2, ec 32 (.iconst 1) 1 1, e1 33 (.if_icmp .ne 12) 3 45, e1 36 (.aload_n 0) 1 0, e3 37 (.getfield 69) 3 22 24 2, e1 40 (.iload_n 1) 1 1, e0 41 (.iaload) 1, e1 42 (.goto 19) 3 61], 45),
  (45, [true, true, true], [e1 45 (.iload_n 2) 1 2, ec 46 (.iconst 2) 1 2, e1 47 (.if_icmp .ne 12) 3 59, e1 50 (.aload_n 0) 1 0, e3 51 (.getfield 72) 3 22 25 2, e1 54 (.iload_n 1) 1 1, e0 55 (.iaload) 1, e1 56 (.goto 5) 3 61], 59),
  (59, [false, false, false], [ec 59 (.bipush (-2)) 2 (-2)], 61),
  (61, [false, false, false], [e1 61 (.ireturn) 1 0], 62)]
set_option maxRecDepth 100000 in
def K_X12_count : List XB := [(0, [true, true], [e1 0 (.iload_n 1) 1 1, es 1 (.tableswitch 105 0 9 #[55, 60, 65, 70, 75, 80, 85, 90, 95, 100]) 55 0 106 [56, 61, 66, 71, 76, 81, 86, 91, 96, 101]], 56),
  (56, [true, false], [e1 56 (.aload_n 0) 1 0, e3 57 (.getfield 161) 3 22 1 0, e1 60 (.ireturn) 1 0], 61),
  (61, [true, false], [e1 61 (.aload_n 0) 1 0, e3 62 (.getfield 164) 3 22 3 0, e1 65 (.ireturn) 1 0], 66),
  (66, [true, false], [e1 66 (.aload_n 0) 1 0, e3 67 (.getfield 167) 3 22 9 0, e1 70 (.ireturn) 1 0], 71),
  (71, [true, false], [e1 71 (.aload_n 0) 1 0, e3 72 (.getfield 170) 3 22 22 0, e1 75 (.ireturn) 1 0], 76),
  (76, [true, false], [e1 76 (.aload_n 0) 1 0, e3 77 (.getfield 173) 3 22 29 0, e1 80 (.ireturn) 1 0], 81),
  (81, [true, false], [e1 81 (.aload_n 0) 1 0, e3 82 (.getfield 176) 3 22 39 0, e1 85 (.ireturn) 1 0], 86),
  (86, [true, false], [e1 86 (.aload_n 0) 1 0, e3 87 (.getfield 179) 3 22 45 0, e1 90 (.ireturn) 1 0], 91),
  (91, [true, false], [e1 91 (.aload_n 0) 1 0, ei 92 (.invokevirtual 328) 3 22 244 1 0 3, e1 95 (.ireturn) 1 0], 96),
  (96, [true, false], [e1 96 (.aload_n 0) 1 0, e3 97 (.getfield 182) 3 22 56 0, e1 100 (.ireturn) 1 0], 101),
  (101, [true, false], [e1 101 (.aload_n 0) 1 0, e3 102 (.getfield 185) 3 22 27 0, e1 105 (.ireturn) 1 0], 106),
  (106, [false, false], [ec 106 (.bipush (-2)) 2 (-2), e1 108 (.ireturn) 1 0], 109)]
set_option maxRecDepth 100000 in
def K_X12_fault : List XB := [(0, [true], [e1 0 (.aload_n 0) 1 0, e3 1 (.getfield 157) 3 22 0 0, e1 4 (.ireturn) 1 0], 5)]
set_option maxRecDepth 100000 in
def K_X12_clear : List XB := [(0, [true, false], [e1 0 (.aload_n 0) 1 0, e3 1 (.getfield 167) 3 22 9 0, e1 4 (.istore_n 1) 1 1, e1 5 (.aload_n 0) 1 0, ei 6 (.invokevirtual 154) 3 22 191 1 3 2, e1 9 (.iload_n 1) 1 1, e1 10 (.ireturn) 1 0], 11)]
set_option maxRecDepth 100000 in
def K_J13_bitCount_95d88 : List XB := [(0, [true, false], [e1 0 (.lload_n 0) 1 0, e1 1 (.lload_n 0) 1 0, ec 2 (.iconst 1) 1 1, e0 3 (.lushr) 1, ec 4 (.ldc2_w 314) 3 6148914691236517205, e0 7 (.land) 1, e0 8 (.lsub) 1, e1 9 (.lstore_n 0) 1 0, e1 10 (.lload_n 0) 1 0, ec 11 (.ldc2_w 316) 3 3689348814741910323, e0 14 (.land) 1, e1 15 (.lload_n 0) 1 0, ec 16 (.iconst 2) 1 2, e0 17 (.lushr) 1, ec 18 (.ldc2_w 316) 3 3689348814741910323, e0 21 (.land) 1, e0 22 (.ladd) 1, e1 23 (.lstore_n 0) 1 0, e1 24 (.lload_n 0) 1 0, e1 25 (.lload_n 0) 1 0, ec 26 (.iconst 4) 1 4, e0 27 (.lushr) 1, e0 28 (.ladd) 1, ec 29 (.ldc2_w 318) 3 1085102592571150095, e0 32 (.land) 1, e1 33 (.lstore_n 0) 1 0, e1 34 (.lload_n 0) 1 0, e1 35 (.lload_n 0) 1 0, ec 36 (.bipush 8) 2 8, e0 38 (.lushr) 1, e0 39 (.ladd) 1, e1 40 (.lstore_n 0) 1 0, e1 41 (.lload_n 0) 1 0, e1 42 (.lload_n 0) 1 0, ec 43 (.bipush 16) 2 16, e0 45 (.lushr) 1, e0 46 (.ladd) 1, e1 47 (.lstore_n 0) 1 0, e1 48 (.lload_n 0) 1 0, e1 49 (.lload_n 0) 1 0, ec 50 (.bipush 32) 2 32, e0 52 (.lushr) 1, e0 53 (.ladd) 1, e1 54 (.lstore_n 0) 1 0, e1 55 (.lload_n 0) 1 0, e0 56 (.l2i) 1, ec 57 (.bipush 127) 2 127, e0 59 (.iand) 1, e1 60 (.ireturn) 1 0], 61)]
set_option maxRecDepth 100000 in
def K_J9_max_7cf53 : List XB := [(0, [true, true], [e1 0 (.iload_n 0) 1 0, e1 1 (.iload_n 1) 1 1, e1 2 (.if_icmp .lt 7) 3 9, e1 5 (.iload_n 0) 1 0, e1 6 (.goto 4) 3 10], 9),
  (9, [false, true], [e1 9 (.iload_n 1) 1 1], 10),
  (10, [false, false], [e1 10 (.ireturn) 1 0], 11)]
set_option maxRecDepth 100000 in
def K_L_law : List XB := [(0, [true, false, false, false], [e1 0 (.new 7) 3 21, e0 3 (.dup) 1, ei 4 (.invokespecial 9) 3 21 119 1 3 3, e1 7 (.astore_n 1) 1 1, e1 8 (.new 10) 3 22, e0 11 (.dup) 1, ei 12 (.invokespecial 12) 3 22 188 1 3 1, e1 15 (.astore_n 2) 1 2, ec 16 (.iconst 0) 1 0, e1 17 (.istore_n 3) 1 3], 18),
  (18, [true, true, true, true], [e1 18 (.iload_n 3) 1 3, e1 19 (.aload_n 0) 1 0, e0 20 (.arraylength) 1, ec 21 (.bipush 6) 2 6, e0 23 (.isub) 1, e1 24 (.if_icmp .gt 2385) 3 2409, e1 27 (.aload_n 0) 1 0, e1 28 (.iload_n 3) 1 3, e0 29 (.iaload) 1, ec 30 (.bipush 63) 2 63, e0 32 (.iand) 1, es 33 (.tableswitch 2370 0 53 #[231, 254, 287, 330, 403, 436, 469, 502, 575, 609, 642, 686, 719, 752, 795, 828, 871, 920, 983, 1042, 1075, 1088, 1112, 1135, 1178, 1221, 1264, 1307, 1350, 1393, 1446, 1479, 1512, 1571, 1630, 1663, 1706, 1739, 1802, 1815, 1858, 1941, 1984, 2028, 2111, 2170, 2204, 2238, 2251, 2274, 2288, 2321, 2344, 2357]) 231 0 2403 [264, 287, 320, 363, 436, 469, 502, 535, 608, 642, 675, 719, 752, 785, 828, 861, 904, 953, 1016, 1075, 1108, 1121, 1145, 1168, 1211, 1254, 1297, 1340, 1383, 1426, 1479, 1512, 1545, 1604, 1663, 1696, 1739, 1772, 1835, 1848, 1891, 1974, 2017, 2061, 2144, 2203, 2237, 2271, 2284, 2307, 2321, 2354, 2377, 2390]], 264),
  (264, [true, true, true, true], [e1 264 (.aload_n 1) 1 1, e1 265 (.aload_n 0) 1 0, e1 266 (.iload_n 3) 1 3, ec 267 (.iconst 1) 1 1, e0 268 (.iadd) 1, e0 269 (.iaload) 1, ei 270 (.invokevirtual 13) 3 21 124 2 0 2, e1 273 (.aload_n 2) 1 2, e1 274 (.aload_n 0) 1 0, e1 275 (.iload_n 3) 1 3, ec 276 (.iconst 1) 1 1, e0 277 (.iadd) 1, e0 278 (.iaload) 1, ei 279 (.invokevirtual 17) 3 22 196 2 0 2, e1 282 (.if_icmp .eq 2121) 3 2403, ec 285 (.iconst 0) 1 0, e1 286 (.ireturn) 1 1], 287),
  (287, [true, true, true, true], [e1 287 (.aload_n 1) 1 1, e1 288 (.aload_n 0) 1 0, e1 289 (.iload_n 3) 1 3, ec 290 (.iconst 1) 1 1, e0 291 (.iadd) 1, e0 292 (.iaload) 1, e1 293 (.aload_n 0) 1 0, e1 294 (.iload_n 3) 1 3, ec 295 (.iconst 2) 1 2, e0 296 (.iadd) 1, e0 297 (.iaload) 1, ei 298 (.invokevirtual 18) 3 21 125 3 0 3, e1 301 (.aload_n 2) 1 2, e1 302 (.aload_n 0) 1 0, e1 303 (.iload_n 3) 1 3, ec 304 (.iconst 1) 1 1, e0 305 (.iadd) 1, e0 306 (.iaload) 1, e1 307 (.aload_n 0) 1 0, e1 308 (.iload_n 3) 1 3, ec 309 (.iconst 2) 1 2, e0 310 (.iadd) 1, e0 311 (.iaload) 1, ei 312 (.invokevirtual 22) 3 22 197 3 0 3, e1 315 (.if_icmp .eq 2088) 3 2403, ec 318 (.iconst 0) 1 0, e1 319 (.ireturn) 1 1], 320),
  (320, [true, true, true, true], [e1 320 (.aload_n 1) 1 1, e1 321 (.aload_n 0) 1 0, e1 322 (.iload_n 3) 1 3, ec 323 (.iconst 1) 1 1, e0 324 (.iadd) 1, e0 325 (.iaload) 1, e1 326 (.aload_n 0) 1 0, e1 327 (.iload_n 3) 1 3, ec 328 (.iconst 2) 1 2, e0 329 (.iadd) 1, e0 330 (.iaload) 1, e1 331 (.aload_n 0) 1 0, e1 332 (.iload_n 3) 1 3, ec 333 (.iconst 3) 1 3, e0 334 (.iadd) 1, e0 335 (.iaload) 1, ei 336 (.invokevirtual 23) 3 21 126 4 0 4, e1 339 (.aload_n 2) 1 2, e1 340 (.aload_n 0) 1 0, e1 341 (.iload_n 3) 1 3, ec 342 (.iconst 1) 1 1, e0 343 (.iadd) 1, e0 344 (.iaload) 1, e1 345 (.aload_n 0) 1 0, e1 346 (.iload_n 3) 1 3, ec 347 (.iconst 2) 1 2, e0 348 (.iadd) 1, e0 349 (.iaload) 1, e1 350 (.aload_n 0) 1 0, e1 351 (.iload_n 3) 1 3, ec 352 (.iconst 3) 1 3, e0 353 (.iadd) 1, e0 354 (.iaload) 1, ei 355 (.invokevirtual 27) 3 22 198 4 0 5, e1 358 (.if_icmp .eq 2045) 3 2403, ec 361 (.iconst 0) 1 0, e1 362 (.ireturn) 1 1], 363),
  (363, [true, true, true, true], [e1 363 (.aload_n 1) 1 1, e1 364 (.aload_n 0) 1 0, e1 365 (.iload_n 3) 1 3, ec 366 (.iconst 1) 1 1, e0 367 (.iadd) 1, e0 368 (.iaload) 1, e1 369 (.aload_n 0) 1 0, e1 370 (.iload_n 3) 1 3, ec 371 (.iconst 2) 1 2, e0 372 (.iadd) 1, e0 373 (.iaload) 1, e1 374 (.aload_n 0) 1 0, e1 375 (.iload_n 3) 1 3, ec 376 (.iconst 3) 1 3, e0 377 (.iadd) 1, e0 378 (.iaload) 1, e0 379 (.i2l) 1, ec 380 (.bipush 32) 2 32, e0 382 (.lshl) 1, e1 383 (.aload_n 0) 1 0, e1 384 (.iload_n 3) 1 3, ec 385 (.iconst 4) 1 4, e0 386 (.iadd) 1, e0 387 (.iaload) 1, e0 388 (.i2l) 1, ec 389 (.ldc2_w 28) 3 4294967295, e0 392 (.land) 1, e0 393 (.lor) 1, ei 394 (.invokevirtual 30) 3 21 127 4 0 5, e1 397 (.aload_n 2) 1 2, e1 398 (.aload_n 0) 1 0, e1 399 (.iload_n 3) 1 3, ec 400 (.iconst 1) 1 1, e0 401 (.iadd) 1, e0 402 (.iaload) 1, e1 403 (.aload_n 0) 1 0, e1 404 (.iload_n 3) 1 3, ec 405 (.iconst 2) 1 2, e0 406 (.iadd) 1, e0 407 (.iaload) 1, e1 408 (.aload_n 0) 1 0, e1 409 (.iload_n 3) 1 3, ec 410 (.iconst 3) 1 3, e0 411 (.iadd) 1, e0 412 (.iaload) 1, e0 413 (.i2l) 1, ec 414 (.bipush 32) 2 32, e0 416 (.lshl) 1, e1 417 (.aload_n 0) 1 0, e1 418 (.iload_n 3) 1 3, ec 419 (.iconst 4) 1 4, e0 420 (.iadd) 1, e0 421 (.iaload) 1, e0 422 (.i2l) 1, ec 423 (.ldc2_w 28) 3 4294967295, e0 426 (.land) 1, e0 427 (.lor) 1, ei 428 (.invokevirtual 34) 3 22 202 4 0 5, e1 431 (.if_icmp .eq 1972) 3 2403, ec 434 (.iconst 0) 1 0, e1 435 (.ireturn) 1 1], 436),
  (436, [true, true, true, true], [e1 436 (.aload_n 1) 1 1, e1 437 (.aload_n 0) 1 0, e1 438 (.iload_n 3) 1 3, ec 439 (.iconst 1) 1 1, e0 440 (.iadd) 1, e0 441 (.iaload) 1, e1 442 (.aload_n 0) 1 0, e1 443 (.iload_n 3) 1 3, ec 444 (.iconst 2) 1 2, e0 445 (.iadd) 1, e0 446 (.iaload) 1, ei 447 (.invokevirtual 35) 3 21 128 3 0 4, e1 450 (.aload_n 2) 1 2, e1 451 (.aload_n 0) 1 0, e1 452 (.iload_n 3) 1 3, ec 453 (.iconst 1) 1 1, e0 454 (.iadd) 1, e0 455 (.iaload) 1, e1 456 (.aload_n 0) 1 0, e1 457 (.iload_n 3) 1 3, ec 458 (.iconst 2) 1 2, e0 459 (.iadd) 1, e0 460 (.iaload) 1, ei 461 (.invokevirtual 38) 3 22 209 3 0 4, e1 464 (.if_icmp .eq 1939) 3 2403, ec 467 (.iconst 0) 1 0, e1 468 (.ireturn) 1 1], 469),
  (469, [true, true, true, true], [e1 469 (.aload_n 1) 1 1, e1 470 (.aload_n 0) 1 0, e1 471 (.iload_n 3) 1 3, ec 472 (.iconst 1) 1 1, e0 473 (.iadd) 1, e0 474 (.iaload) 1, e1 475 (.aload_n 0) 1 0, e1 476 (.iload_n 3) 1 3, ec 477 (.iconst 2) 1 2, e0 478 (.iadd) 1, e0 479 (.iaload) 1, ei 480 (.invokevirtual 39) 3 21 129 3 0 5, e1 483 (.aload_n 2) 1 2, e1 484 (.aload_n 0) 1 0, e1 485 (.iload_n 3) 1 3, ec 486 (.iconst 1) 1 1, e0 487 (.iadd) 1, e0 488 (.iaload) 1, e1 489 (.aload_n 0) 1 0, e1 490 (.iload_n 3) 1 3, ec 491 (.iconst 2) 1 2, e0 492 (.iadd) 1, e0 493 (.iaload) 1, ei 494 (.invokevirtual 42) 3 22 221 3 0 5, e1 497 (.if_icmp .eq 1906) 3 2403, ec 500 (.iconst 0) 1 0, e1 501 (.ireturn) 1 1], 502),
  (502, [true, true, true, true], [e1 502 (.aload_n 1) 1 1, e1 503 (.aload_n 0) 1 0, e1 504 (.iload_n 3) 1 3, ec 505 (.iconst 1) 1 1, e0 506 (.iadd) 1, e0 507 (.iaload) 1, e1 508 (.aload_n 0) 1 0, e1 509 (.iload_n 3) 1 3, ec 510 (.iconst 2) 1 2, e0 511 (.iadd) 1, e0 512 (.iaload) 1, ei 513 (.invokevirtual 43) 3 21 130 3 0 4, e1 516 (.aload_n 2) 1 2, e1 517 (.aload_n 0) 1 0, e1 518 (.iload_n 3) 1 3, ec 519 (.iconst 1) 1 1, e0 520 (.iadd) 1, e0 521 (.iaload) 1, e1 522 (.aload_n 0) 1 0, e1 523 (.iload_n 3) 1 3, ec 524 (.iconst 2) 1 2, e0 525 (.iadd) 1, e0 526 (.iaload) 1, ei 527 (.invokevirtual 46) 3 22 222 3 0 6, e1 530 (.if_icmp .eq 1873) 3 2403, ec 533 (.iconst 0) 1 0, e1 534 (.ireturn) 1 1], 535),
  (535, [true, true, true, true], [e1 535 (.aload_n 1) 1 1, e1 536 (.aload_n 0) 1 0, e1 537 (.iload_n 3) 1 3, ec 538 (.iconst 1) 1 1, e0 539 (.iadd) 1, e0 540 (.iaload) 1, e1 541 (.aload_n 0) 1 0, e1 542 (.iload_n 3) 1 3, ec 543 (.iconst 2) 1 2, e0 544 (.iadd) 1, e0 545 (.iaload) 1, e1 546 (.aload_n 0) 1 0, e1 547 (.iload_n 3) 1 3, ec 548 (.iconst 3) 1 3, e0 549 (.iadd) 1, e0 550 (.iaload) 1, e0 551 (.i2l) 1, ec 552 (.bipush 32) 2 32, e0 554 (.lshl) 1, e1 555 (.aload_n 0) 1 0, e1 556 (.iload_n 3) 1 3, ec 557 (.iconst 4) 1 4, e0 558 (.iadd) 1, e0 559 (.iaload) 1, e0 560 (.i2l) 1, ec 561 (.ldc2_w 28) 3 4294967295, e0 564 (.land) 1, e0 565 (.lor) 1, ei 566 (.invokevirtual 47) 3 21 131 4 0 6, e1 569 (.aload_n 2) 1 2, e1 570 (.aload_n 0) 1 0, e1 571 (.iload_n 3) 1 3, ec 572 (.iconst 1) 1 1, e0 573 (.iadd) 1, e0 574 (.iaload) 1, e1 575 (.aload_n 0) 1 0, e1 576 (.iload_n 3) 1 3, ec 577 (.iconst 2) 1 2, e0 578 (.iadd) 1, e0 579 (.iaload) 1, e1 580 (.aload_n 0) 1 0, e1 581 (.iload_n 3) 1 3, ec 582 (.iconst 3) 1 3, e0 583 (.iadd) 1, e0 584 (.iaload) 1, e0 585 (.i2l) 1, ec 586 (.bipush 32) 2 32, e0 588 (.lshl) 1, e1 589 (.aload_n 0) 1 0, e1 590 (.iload_n 3) 1 3, ec 591 (.iconst 4) 1 4, e0 592 (.iadd) 1, e0 593 (.iaload) 1, e0 594 (.i2l) 1, ec 595 (.ldc2_w 28) 3 4294967295, e0 598 (.land) 1, e0 599 (.lor) 1, ei 600 (.invokevirtual 50) 3 22 223 4 0 8, e1 603 (.if_icmp .eq 1800) 3 2403, ec 606 (.iconst 0) 1 0, e1 607 (.ireturn) 1 1], 608),
  (608, [true, true, true, true], [e1 608 (.aload_n 1) 1 1, e1 609 (.aload_n 0) 1 0, e1 610 (.iload_n 3) 1 3, ec 611 (.iconst 1) 1 1, e0 612 (.iadd) 1, e0 613 (.iaload) 1, e1 614 (.aload_n 0) 1 0, e1 615 (.iload_n 3) 1 3, ec 616 (.iconst 2) 1 2, e0 617 (.iadd) 1, e0 618 (.iaload) 1, ei 619 (.invokevirtual 51) 3 21 132 3 1 3, e1 622 (.aload_n 2) 1 2, e1 623 (.aload_n 0) 1 0, e1 624 (.iload_n 3) 1 3, ec 625 (.iconst 1) 1 1, e0 626 (.iadd) 1, e0 627 (.iaload) 1, e1 628 (.aload_n 0) 1 0, e1 629 (.iload_n 3) 1 3, ec 630 (.iconst 2) 1 2, e0 631 (.iadd) 1, e0 632 (.iaload) 1, ei 633 (.invokevirtual 55) 3 22 225 3 1 3, e0 636 (.lcmp) 1, e1 637 (.ifCond .eq 1766) 3 2403, ec 640 (.iconst 0) 1 0, e1 641 (.ireturn) 1 1], 642),
  (642, [true, true, true, true], [e1 642 (.aload_n 1) 1 1, e1 643 (.aload_n 0) 1 0, e1 644 (.iload_n 3) 1 3, ec 645 (.iconst 1) 1 1, e0 646 (.iadd) 1, e0 647 (.iaload) 1, e1 648 (.aload_n 0) 1 0, e1 649 (.iload_n 3) 1 3, ec 650 (.iconst 2) 1 2, e0 651 (.iadd) 1, e0 652 (.iaload) 1, ei 653 (.invokevirtual 56) 3 21 133 3 0 3, e1 656 (.aload_n 2) 1 2, e1 657 (.aload_n 0) 1 0, e1 658 (.iload_n 3) 1 3, ec 659 (.iconst 1) 1 1, e0 660 (.iadd) 1, e0 661 (.iaload) 1, e1 662 (.aload_n 0) 1 0, e1 663 (.iload_n 3) 1 3, ec 664 (.iconst 2) 1 2, e0 665 (.iadd) 1, e0 666 (.iaload) 1, ei 667 (.invokevirtual 59) 3 22 226 3 0 3, e1 670 (.if_icmp .eq 1733) 3 2403, ec 673 (.iconst 0) 1 0, e1 674 (.ireturn) 1 1], 675),
  (675, [true, true, true, true], [e1 675 (.aload_n 1) 1 1, e1 676 (.aload_n 0) 1 0, e1 677 (.iload_n 3) 1 3, ec 678 (.iconst 1) 1 1, e0 679 (.iadd) 1, e0 680 (.iaload) 1, e1 681 (.aload_n 0) 1 0, e1 682 (.iload_n 3) 1 3, ec 683 (.iconst 2) 1 2, e0 684 (.iadd) 1, e0 685 (.iaload) 1, e1 686 (.aload_n 0) 1 0, e1 687 (.iload_n 3) 1 3, ec 688 (.iconst 3) 1 3, e0 689 (.iadd) 1, e0 690 (.iaload) 1, ei 691 (.invokevirtual 60) 3 21 134 4 1 4, e1 694 (.aload_n 2) 1 2, e1 695 (.aload_n 0) 1 0, e1 696 (.iload_n 3) 1 3, ec 697 (.iconst 1) 1 1, e0 698 (.iadd) 1, e0 699 (.iaload) 1, e1 700 (.aload_n 0) 1 0, e1 701 (.iload_n 3) 1 3, ec 702 (.iconst 2) 1 2, e0 703 (.iadd) 1, e0 704 (.iaload) 1, e1 705 (.aload_n 0) 1 0, e1 706 (.iload_n 3) 1 3, ec 707 (.iconst 3) 1 3, e0 708 (.iadd) 1, e0 709 (.iaload) 1, ei 710 (.invokevirtual 64) 3 22 227 4 1 4, e0 713 (.lcmp) 1, e1 714 (.ifCond .eq 1689) 3 2403, ec 717 (.iconst 0) 1 0, e1 718 (.ireturn) 1 1], 719),
  (719, [true, true, true, true], [e1 719 (.aload_n 1) 1 1, e1 720 (.aload_n 0) 1 0, e1 721 (.iload_n 3) 1 3, ec 722 (.iconst 1) 1 1, e0 723 (.iadd) 1, e0 724 (.iaload) 1, e1 725 (.aload_n 0) 1 0, e1 726 (.iload_n 3) 1 3, ec 727 (.iconst 2) 1 2, e0 728 (.iadd) 1, e0 729 (.iaload) 1, ei 730 (.invokevirtual 65) 3 21 135 3 0 3, e1 733 (.aload_n 2) 1 2, e1 734 (.aload_n 0) 1 0, e1 735 (.iload_n 3) 1 3, ec 736 (.iconst 1) 1 1, e0 737 (.iadd) 1, e0 738 (.iaload) 1, e1 739 (.aload_n 0) 1 0, e1 740 (.iload_n 3) 1 3, ec 741 (.iconst 2) 1 2, e0 742 (.iadd) 1, e0 743 (.iaload) 1, ei 744 (.invokevirtual 68) 3 22 228 3 0 3, e1 747 (.if_icmp .eq 1656) 3 2403, ec 750 (.iconst 0) 1 0, e1 751 (.ireturn) 1 1], 752),
  (752, [true, true, true, true], [e1 752 (.aload_n 1) 1 1, e1 753 (.aload_n 0) 1 0, e1 754 (.iload_n 3) 1 3, ec 755 (.iconst 1) 1 1, e0 756 (.iadd) 1, e0 757 (.iaload) 1, e1 758 (.aload_n 0) 1 0, e1 759 (.iload_n 3) 1 3, ec 760 (.iconst 2) 1 2, e0 761 (.iadd) 1, e0 762 (.iaload) 1, ei 763 (.invokevirtual 69) 3 21 136 3 0 3, e1 766 (.aload_n 2) 1 2, e1 767 (.aload_n 0) 1 0, e1 768 (.iload_n 3) 1 3, ec 769 (.iconst 1) 1 1, e0 770 (.iadd) 1, e0 771 (.iaload) 1, e1 772 (.aload_n 0) 1 0, e1 773 (.iload_n 3) 1 3, ec 774 (.iconst 2) 1 2, e0 775 (.iadd) 1, e0 776 (.iaload) 1, ei 777 (.invokevirtual 72) 3 22 234 3 0 3, e1 780 (.if_icmp .eq 1623) 3 2403, ec 783 (.iconst 0) 1 0, e1 784 (.ireturn) 1 1], 785),
  (785, [true, true, true, true], [e1 785 (.aload_n 1) 1 1, e1 786 (.aload_n 0) 1 0, e1 787 (.iload_n 3) 1 3, ec 788 (.iconst 1) 1 1, e0 789 (.iadd) 1, e0 790 (.iaload) 1, e1 791 (.aload_n 0) 1 0, e1 792 (.iload_n 3) 1 3, ec 793 (.iconst 2) 1 2, e0 794 (.iadd) 1, e0 795 (.iaload) 1, e1 796 (.aload_n 0) 1 0, e1 797 (.iload_n 3) 1 3, ec 798 (.iconst 3) 1 3, e0 799 (.iadd) 1, e0 800 (.iaload) 1, ei 801 (.invokevirtual 73) 3 21 139 4 0 6, e1 804 (.aload_n 2) 1 2, e1 805 (.aload_n 0) 1 0, e1 806 (.iload_n 3) 1 3, ec 807 (.iconst 1) 1 1, e0 808 (.iadd) 1, e0 809 (.iaload) 1, e1 810 (.aload_n 0) 1 0, e1 811 (.iload_n 3) 1 3, ec 812 (.iconst 2) 1 2, e0 813 (.iadd) 1, e0 814 (.iaload) 1, e1 815 (.aload_n 0) 1 0, e1 816 (.iload_n 3) 1 3, ec 817 (.iconst 3) 1 3, e0 818 (.iadd) 1, e0 819 (.iaload) 1, ei 820 (.invokevirtual 76) 3 22 235 4 0 6, e1 823 (.if_icmp .eq 1580) 3 2403, ec 826 (.iconst 0) 1 0, e1 827 (.ireturn) 1 1], 828),
  (828, [true, true, true, true], [e1 828 (.aload_n 1) 1 1, e1 829 (.aload_n 0) 1 0, e1 830 (.iload_n 3) 1 3, ec 831 (.iconst 1) 1 1, e0 832 (.iadd) 1, e0 833 (.iaload) 1, e1 834 (.aload_n 0) 1 0, e1 835 (.iload_n 3) 1 3, ec 836 (.iconst 2) 1 2, e0 837 (.iadd) 1, e0 838 (.iaload) 1, ei 839 (.invokevirtual 77) 3 21 140 3 0 3, e1 842 (.aload_n 2) 1 2, e1 843 (.aload_n 0) 1 0, e1 844 (.iload_n 3) 1 3, ec 845 (.iconst 1) 1 1, e0 846 (.iadd) 1, e0 847 (.iaload) 1, e1 848 (.aload_n 0) 1 0, e1 849 (.iload_n 3) 1 3, ec 850 (.iconst 2) 1 2, e0 851 (.iadd) 1, e0 852 (.iaload) 1, ei 853 (.invokevirtual 80) 3 22 237 3 0 3, e1 856 (.if_icmp .eq 1547) 3 2403, ec 859 (.iconst 0) 1 0, e1 860 (.ireturn) 1 1], 861),
  (861, [true, true, true, true], [e1 861 (.aload_n 1) 1 1, e1 862 (.aload_n 0) 1 0, e1 863 (.iload_n 3) 1 3, ec 864 (.iconst 1) 1 1, e0 865 (.iadd) 1, e0 866 (.iaload) 1, e1 867 (.aload_n 0) 1 0, e1 868 (.iload_n 3) 1 3, ec 869 (.iconst 2) 1 2, e0 870 (.iadd) 1, e0 871 (.iaload) 1, e1 872 (.aload_n 0) 1 0, e1 873 (.iload_n 3) 1 3, ec 874 (.iconst 3) 1 3, e0 875 (.iadd) 1, e0 876 (.iaload) 1, ei 877 (.invokevirtual 81) 3 21 141 4 0 6, e1 880 (.aload_n 2) 1 2, e1 881 (.aload_n 0) 1 0, e1 882 (.iload_n 3) 1 3, ec 883 (.iconst 1) 1 1, e0 884 (.iadd) 1, e0 885 (.iaload) 1, e1 886 (.aload_n 0) 1 0, e1 887 (.iload_n 3) 1 3, ec 888 (.iconst 2) 1 2, e0 889 (.iadd) 1, e0 890 (.iaload) 1, e1 891 (.aload_n 0) 1 0, e1 892 (.iload_n 3) 1 3, ec 893 (.iconst 3) 1 3, e0 894 (.iadd) 1, e0 895 (.iaload) 1, ei 896 (.invokevirtual 84) 3 22 238 4 0 5, e1 899 (.if_icmp .eq 1504) 3 2403, ec 902 (.iconst 0) 1 0, e1 903 (.ireturn) 1 1], 904),
  (904, [true, true, true, true], [e1 904 (.aload_n 1) 1 1, e1 905 (.aload_n 0) 1 0, e1 906 (.iload_n 3) 1 3, ec 907 (.iconst 1) 1 1, e0 908 (.iadd) 1, e0 909 (.iaload) 1, e1 910 (.aload_n 0) 1 0, e1 911 (.iload_n 3) 1 3, ec 912 (.iconst 2) 1 2, e0 913 (.iadd) 1, e0 914 (.iaload) 1, e1 915 (.ifCond .eq 7) 3 922, ec 918 (.iconst 1) 1 1, e1 919 (.goto 4) 3 923], 922),
  (922, [true, true, true, true], [ec 922 (.iconst 0) 1 0], 923),
  (923, [true, true, true, true], [ei 923 (.invokevirtual 85) 3 21 142 3 0 4, e1 926 (.aload_n 2) 1 2, e1 927 (.aload_n 0) 1 0, e1 928 (.iload_n 3) 1 3, ec 929 (.iconst 1) 1 1, e0 930 (.iadd) 1, e0 931 (.iaload) 1, e1 932 (.aload_n 0) 1 0, e1 933 (.iload_n 3) 1 3, ec 934 (.iconst 2) 1 2, e0 935 (.iadd) 1, e0 936 (.iaload) 1, e1 937 (.ifCond .eq 7) 3 944, ec 940 (.iconst 1) 1 1, e1 941 (.goto 4) 3 945], 944),
  (944, [true, true, true, true], [ec 944 (.iconst 0) 1 0], 945),
  (945, [true, true, true, true], [ei 945 (.invokevirtual 89) 3 22 239 3 0 4, e1 948 (.if_icmp .eq 1455) 3 2403, ec 951 (.iconst 0) 1 0, e1 952 (.ireturn) 1 1], 953),
  (953, [true, true, true, true], [e1 953 (.aload_n 1) 1 1, e1 954 (.aload_n 0) 1 0, e1 955 (.iload_n 3) 1 3, ec 956 (.iconst 1) 1 1, e0 957 (.iadd) 1, e0 958 (.iaload) 1, e1 959 (.aload_n 0) 1 0, e1 960 (.iload_n 3) 1 3, ec 961 (.iconst 2) 1 2, e0 962 (.iadd) 1, e0 963 (.iaload) 1, e0 964 (.i2l) 1, ec 965 (.bipush 32) 2 32, e0 967 (.lshl) 1, e1 968 (.aload_n 0) 1 0, e1 969 (.iload_n 3) 1 3, ec 970 (.iconst 3) 1 3, e0 971 (.iadd) 1, e0 972 (.iaload) 1, e0 973 (.i2l) 1, ec 974 (.ldc2_w 28) 3 4294967295, e0 977 (.land) 1, e0 978 (.lor) 1, ei 979 (.invokevirtual 90) 3 21 143 3 0 6, e1 982 (.aload_n 2) 1 2, e1 983 (.aload_n 0) 1 0, e1 984 (.iload_n 3) 1 3, ec 985 (.iconst 1) 1 1, e0 986 (.iadd) 1, e0 987 (.iaload) 1, e1 988 (.aload_n 0) 1 0, e1 989 (.iload_n 3) 1 3, ec 990 (.iconst 2) 1 2, e0 991 (.iadd) 1, e0 992 (.iaload) 1, e0 993 (.i2l) 1, ec 994 (.bipush 32) 2 32, e0 996 (.lshl) 1, e1 997 (.aload_n 0) 1 0, e1 998 (.iload_n 3) 1 3, ec 999 (.iconst 3) 1 3, e0 1000 (.iadd) 1, e0 1001 (.iaload) 1, e0 1002 (.i2l) 1, ec 1003 (.ldc2_w 28) 3 4294967295, e0 1006 (.land) 1, e0 1007 (.lor) 1, ei 1008 (.invokevirtual 94) 3 22 240 3 0 10, e1 1011 (.if_icmp .eq 1392) 3 2403, ec 1014 (.iconst 0) 1 0, e1 1015 (.ireturn) 1 1], 1016),
  (1016, [true, true, true, true], [e1 1016 (.aload_n 1) 1 1, e1 1017 (.aload_n 0) 1 0, e1 1018 (.iload_n 3) 1 3, ec 1019 (.iconst 1) 1 1, e0 1020 (.iadd) 1, e0 1021 (.iaload) 1, e1 1022 (.aload_n 0) 1 0, e1 1023 (.iload_n 3) 1 3, ec 1024 (.iconst 2) 1 2, e0 1025 (.iadd) 1, e0 1026 (.iaload) 1, e1 1027 (.aload_n 0) 1 0, e1 1028 (.iload_n 3) 1 3, ec 1029 (.iconst 3) 1 3, e0 1030 (.iadd) 1, e0 1031 (.iaload) 1, e1 1032 (.ifCond .eq 7) 3 1039, ec 1035 (.iconst 1) 1 1, e1 1036 (.goto 4) 3 1040], 1039),
  (1039, [true, true, true, true], [ec 1039 (.iconst 0) 1 0], 1040),
  (1040, [true, true, true, true], [ei 1040 (.invokevirtual 95) 3 21 144 4 0 6, e1 1043 (.aload_n 2) 1 2, e1 1044 (.aload_n 0) 1 0, e1 1045 (.iload_n 3) 1 3, ec 1046 (.iconst 1) 1 1, e0 1047 (.iadd) 1, e0 1048 (.iaload) 1, e1 1049 (.aload_n 0) 1 0, e1 1050 (.iload_n 3) 1 3, ec 1051 (.iconst 2) 1 2, e0 1052 (.iadd) 1, e0 1053 (.iaload) 1, e1 1054 (.aload_n 0) 1 0, e1 1055 (.iload_n 3) 1 3, ec 1056 (.iconst 3) 1 3, e0 1057 (.iadd) 1, e0 1058 (.iaload) 1, e1 1059 (.ifCond .eq 7) 3 1066, ec 1062 (.iconst 1) 1 1, e1 1063 (.goto 4) 3 1067], 1066),
  (1066, [true, true, true, true], [ec 1066 (.iconst 0) 1 0], 1067),
  (1067, [true, true, true, true], [ei 1067 (.invokevirtual 99) 3 22 241 4 0 6, e1 1070 (.if_icmp .eq 1333) 3 2403, ec 1073 (.iconst 0) 1 0, e1 1074 (.ireturn) 1 1], 1075),
  (1075, [true, true, true, true], [e1 1075 (.aload_n 1) 1 1, e1 1076 (.aload_n 0) 1 0, e1 1077 (.iload_n 3) 1 3, ec 1078 (.iconst 1) 1 1, e0 1079 (.iadd) 1, e0 1080 (.iaload) 1, e1 1081 (.aload_n 0) 1 0, e1 1082 (.iload_n 3) 1 3, ec 1083 (.iconst 2) 1 2, e0 1084 (.iadd) 1, e0 1085 (.iaload) 1, ei 1086 (.invokevirtual 100) 3 21 145 3 0 5, e1 1089 (.aload_n 2) 1 2, e1 1090 (.aload_n 0) 1 0, e1 1091 (.iload_n 3) 1 3, ec 1092 (.iconst 1) 1 1, e0 1093 (.iadd) 1, e0 1094 (.iaload) 1, e1 1095 (.aload_n 0) 1 0, e1 1096 (.iload_n 3) 1 3, ec 1097 (.iconst 2) 1 2, e0 1098 (.iadd) 1, e0 1099 (.iaload) 1, ei 1100 (.invokevirtual 103) 3 22 242 3 0 5, e1 1103 (.if_icmp .eq 1300) 3 2403, ec 1106 (.iconst 0) 1 0, e1 1107 (.ireturn) 1 1], 1108),
  (1108, [true, true, true, true], [e1 1108 (.aload_n 1) 1 1, ei 1109 (.invokevirtual 104) 3 21 146 1 0 4, e1 1112 (.aload_n 2) 1 2, ei 1113 (.invokevirtual 108) 3 22 249 1 0 7, e1 1116 (.if_icmp .eq 1287) 3 2403, ec 1119 (.iconst 0) 1 0, e1 1120 (.ireturn) 1 1], 1121),
  (1121, [true, true, true, true], [e1 1121 (.aload_n 1) 1 1, e1 1122 (.aload_n 0) 1 0, e1 1123 (.iload_n 3) 1 3, ec 1124 (.iconst 1) 1 1, e0 1125 (.iadd) 1, e0 1126 (.iaload) 1, ei 1127 (.invokevirtual 109) 3 21 147 2 1 2, e1 1130 (.aload_n 2) 1 2, e1 1131 (.aload_n 0) 1 0, e1 1132 (.iload_n 3) 1 3, ec 1133 (.iconst 1) 1 1, e0 1134 (.iadd) 1, e0 1135 (.iaload) 1, ei 1136 (.invokevirtual 113) 3 22 250 2 1 2, e0 1139 (.lcmp) 1, e1 1140 (.ifCond .eq 1263) 3 2403, ec 1143 (.iconst 0) 1 0, e1 1144 (.ireturn) 1 1], 1145),
  (1145, [true, true, true, true], [e1 1145 (.aload_n 1) 1 1, e1 1146 (.aload_n 0) 1 0, e1 1147 (.iload_n 3) 1 3, ec 1148 (.iconst 1) 1 1, e0 1149 (.iadd) 1, e0 1150 (.iaload) 1, ei 1151 (.invokevirtual 114) 3 21 148 2 0 2, e1 1154 (.aload_n 2) 1 2, e1 1155 (.aload_n 0) 1 0, e1 1156 (.iload_n 3) 1 3, ec 1157 (.iconst 1) 1 1, e0 1158 (.iadd) 1, e0 1159 (.iaload) 1, ei 1160 (.invokevirtual 117) 3 22 259 2 0 2, e1 1163 (.if_icmp .eq 1240) 3 2403, ec 1166 (.iconst 0) 1 0, e1 1167 (.ireturn) 1 1], 1168),
  (1168, [true, true, true, true], [e1 1168 (.aload_n 1) 1 1, e1 1169 (.aload_n 0) 1 0, e1 1170 (.iload_n 3) 1 3, ec 1171 (.iconst 1) 1 1, e0 1172 (.iadd) 1, e0 1173 (.iaload) 1, e1 1174 (.aload_n 0) 1 0, e1 1175 (.iload_n 3) 1 3, ec 1176 (.iconst 2) 1 2, e0 1177 (.iadd) 1, e0 1178 (.iaload) 1, e1 1179 (.aload_n 0) 1 0, e1 1180 (.iload_n 3) 1 3, ec 1181 (.iconst 3) 1 3, e0 1182 (.iadd) 1, e0 1183 (.iaload) 1, ei 1184 (.invokevirtual 118) 3 21 149 4 0 5, e1 1187 (.aload_n 2) 1 2, e1 1188 (.aload_n 0) 1 0, e1 1189 (.iload_n 3) 1 3, ec 1190 (.iconst 1) 1 1, e0 1191 (.iadd) 1, e0 1192 (.iaload) 1, e1 1193 (.aload_n 0) 1 0, e1 1194 (.iload_n 3) 1 3, ec 1195 (.iconst 2) 1 2, e0 1196 (.iadd) 1, e0 1197 (.iaload) 1, e1 1198 (.aload_n 0) 1 0, e1 1199 (.iload_n 3) 1 3, ec 1200 (.iconst 3) 1 3, e0 1201 (.iadd) 1, e0 1202 (.iaload) 1, ei 1203 (.invokevirtual 121) 3 22 261 4 0 5, e1 1206 (.if_icmp .eq 1197) 3 2403, ec 1209 (.iconst 0) 1 0, e1 1210 (.ireturn) 1 1], 1211),
  (1211, [true, true, true, true], [e1 1211 (.aload_n 1) 1 1, e1 1212 (.aload_n 0) 1 0, e1 1213 (.iload_n 3) 1 3, ec 1214 (.iconst 1) 1 1, e0 1215 (.iadd) 1, e0 1216 (.iaload) 1, e1 1217 (.aload_n 0) 1 0, e1 1218 (.iload_n 3) 1 3, ec 1219 (.iconst 2) 1 2, e0 1220 (.iadd) 1, e0 1221 (.iaload) 1, e1 1222 (.aload_n 0) 1 0, e1 1223 (.iload_n 3) 1 3, ec 1224 (.iconst 3) 1 3, e0 1225 (.iadd) 1, e0 1226 (.iaload) 1, ei 1227 (.invokevirtual 122) 3 21 150 4 0 4, e1 1230 (.aload_n 2) 1 2, e1 1231 (.aload_n 0) 1 0, e1 1232 (.iload_n 3) 1 3, ec 1233 (.iconst 1) 1 1, e0 1234 (.iadd) 1, e0 1235 (.iaload) 1, e1 1236 (.aload_n 0) 1 0, e1 1237 (.iload_n 3) 1 3, ec 1238 (.iconst 2) 1 2, e0 1239 (.iadd) 1, e0 1240 (.iaload) 1, e1 1241 (.aload_n 0) 1 0, e1 1242 (.iload_n 3) 1 3, ec 1243 (.iconst 3) 1 3, e0 1244 (.iadd) 1, e0 1245 (.iaload) 1, ei 1246 (.invokevirtual 125) 3 22 262 4 0 5, e1 1249 (.if_icmp .eq 1154) 3 2403, ec 1252 (.iconst 0) 1 0, e1 1253 (.ireturn) 1 1], 1254),
  (1254, [true, true, true, true], [e1 1254 (.aload_n 1) 1 1, e1 1255 (.aload_n 0) 1 0, e1 1256 (.iload_n 3) 1 3, ec 1257 (.iconst 1) 1 1, e0 1258 (.iadd) 1, e0 1259 (.iaload) 1, e1 1260 (.aload_n 0) 1 0, e1 1261 (.iload_n 3) 1 3, ec 1262 (.iconst 2) 1 2, e0 1263 (.iadd) 1, e0 1264 (.iaload) 1, e1 1265 (.aload_n 0) 1 0, e1 1266 (.iload_n 3) 1 3, ec 1267 (.iconst 3) 1 3, e0 1268 (.iadd) 1, e0 1269 (.iaload) 1, ei 1270 (.invokevirtual 126) 3 21 151 4 0 4, e1 1273 (.aload_n 2) 1 2, e1 1274 (.aload_n 0) 1 0, e1 1275 (.iload_n 3) 1 3, ec 1276 (.iconst 1) 1 1, e0 1277 (.iadd) 1, e0 1278 (.iaload) 1, e1 1279 (.aload_n 0) 1 0, e1 1280 (.iload_n 3) 1 3, ec 1281 (.iconst 2) 1 2, e0 1282 (.iadd) 1, e0 1283 (.iaload) 1, e1 1284 (.aload_n 0) 1 0, e1 1285 (.iload_n 3) 1 3, ec 1286 (.iconst 3) 1 3, e0 1287 (.iadd) 1, e0 1288 (.iaload) 1, ei 1289 (.invokevirtual 129) 3 22 263 4 0 4, e1 1292 (.if_icmp .eq 1111) 3 2403, ec 1295 (.iconst 0) 1 0, e1 1296 (.ireturn) 1 1], 1297),
  (1297, [true, true, true, true], [e1 1297 (.aload_n 1) 1 1, e1 1298 (.aload_n 0) 1 0, e1 1299 (.iload_n 3) 1 3, ec 1300 (.iconst 1) 1 1, e0 1301 (.iadd) 1, e0 1302 (.iaload) 1, e1 1303 (.aload_n 0) 1 0, e1 1304 (.iload_n 3) 1 3, ec 1305 (.iconst 2) 1 2, e0 1306 (.iadd) 1, e0 1307 (.iaload) 1, e1 1308 (.aload_n 0) 1 0, e1 1309 (.iload_n 3) 1 3, ec 1310 (.iconst 3) 1 3, e0 1311 (.iadd) 1, e0 1312 (.iaload) 1, ei 1313 (.invokevirtual 130) 3 21 152 4 0 4, e1 1316 (.aload_n 2) 1 2, e1 1317 (.aload_n 0) 1 0, e1 1318 (.iload_n 3) 1 3, ec 1319 (.iconst 1) 1 1, e0 1320 (.iadd) 1, e0 1321 (.iaload) 1, e1 1322 (.aload_n 0) 1 0, e1 1323 (.iload_n 3) 1 3, ec 1324 (.iconst 2) 1 2, e0 1325 (.iadd) 1, e0 1326 (.iaload) 1, e1 1327 (.aload_n 0) 1 0, e1 1328 (.iload_n 3) 1 3, ec 1329 (.iconst 3) 1 3, e0 1330 (.iadd) 1, e0 1331 (.iaload) 1, ei 1332 (.invokevirtual 133) 3 22 266 4 0 4, e1 1335 (.if_icmp .eq 1068) 3 2403, ec 1338 (.iconst 0) 1 0, e1 1339 (.ireturn) 1 1], 1340),
  (1340, [true, true, true, true], [e1 1340 (.aload_n 1) 1 1, e1 1341 (.aload_n 0) 1 0, e1 1342 (.iload_n 3) 1 3, ec 1343 (.iconst 1) 1 1, e0 1344 (.iadd) 1, e0 1345 (.iaload) 1, e1 1346 (.aload_n 0) 1 0, e1 1347 (.iload_n 3) 1 3, ec 1348 (.iconst 2) 1 2, e0 1349 (.iadd) 1, e0 1350 (.iaload) 1, e1 1351 (.aload_n 0) 1 0, e1 1352 (.iload_n 3) 1 3, ec 1353 (.iconst 3) 1 3, e0 1354 (.iadd) 1, e0 1355 (.iaload) 1, ei 1356 (.invokevirtual 134) 3 21 153 4 0 4, e1 1359 (.aload_n 2) 1 2, e1 1360 (.aload_n 0) 1 0, e1 1361 (.iload_n 3) 1 3, ec 1362 (.iconst 1) 1 1, e0 1363 (.iadd) 1, e0 1364 (.iaload) 1, e1 1365 (.aload_n 0) 1 0, e1 1366 (.iload_n 3) 1 3, ec 1367 (.iconst 2) 1 2, e0 1368 (.iadd) 1, e0 1369 (.iaload) 1, e1 1370 (.aload_n 0) 1 0, e1 1371 (.iload_n 3) 1 3, ec 1372 (.iconst 3) 1 3, e0 1373 (.iadd) 1, e0 1374 (.iaload) 1, ei 1375 (.invokevirtual 137) 3 22 267 4 0 5, e1 1378 (.if_icmp .eq 1025) 3 2403, ec 1381 (.iconst 0) 1 0, e1 1382 (.ireturn) 1 1], 1383),
  (1383, [true, true, true, true], [e1 1383 (.aload_n 1) 1 1, e1 1384 (.aload_n 0) 1 0, e1 1385 (.iload_n 3) 1 3, ec 1386 (.iconst 1) 1 1, e0 1387 (.iadd) 1, e0 1388 (.iaload) 1, e1 1389 (.aload_n 0) 1 0, e1 1390 (.iload_n 3) 1 3, ec 1391 (.iconst 2) 1 2, e0 1392 (.iadd) 1, e0 1393 (.iaload) 1, e1 1394 (.aload_n 0) 1 0, e1 1395 (.iload_n 3) 1 3, ec 1396 (.iconst 3) 1 3, e0 1397 (.iadd) 1, e0 1398 (.iaload) 1, ei 1399 (.invokevirtual 138) 3 21 155 4 0 5, e1 1402 (.aload_n 2) 1 2, e1 1403 (.aload_n 0) 1 0, e1 1404 (.iload_n 3) 1 3, ec 1405 (.iconst 1) 1 1, e0 1406 (.iadd) 1, e0 1407 (.iaload) 1, e1 1408 (.aload_n 0) 1 0, e1 1409 (.iload_n 3) 1 3, ec 1410 (.iconst 2) 1 2, e0 1411 (.iadd) 1, e0 1412 (.iaload) 1, e1 1413 (.aload_n 0) 1 0, e1 1414 (.iload_n 3) 1 3, ec 1415 (.iconst 3) 1 3, e0 1416 (.iadd) 1, e0 1417 (.iaload) 1, ei 1418 (.invokevirtual 141) 3 22 270 4 0 7, e1 1421 (.if_icmp .eq 982) 3 2403, ec 1424 (.iconst 0) 1 0, e1 1425 (.ireturn) 1 1], 1426),
  (1426, [true, true, true, true], [e1 1426 (.aload_n 1) 1 1, e1 1427 (.aload_n 0) 1 0, e1 1428 (.iload_n 3) 1 3, ec 1429 (.iconst 1) 1 1, e0 1430 (.iadd) 1, e0 1431 (.iaload) 1, e1 1432 (.aload_n 0) 1 0, e1 1433 (.iload_n 3) 1 3, ec 1434 (.iconst 2) 1 2, e0 1435 (.iadd) 1, e0 1436 (.iaload) 1, e1 1437 (.aload_n 0) 1 0, e1 1438 (.iload_n 3) 1 3, ec 1439 (.iconst 3) 1 3, e0 1440 (.iadd) 1, e0 1441 (.iaload) 1, e1 1442 (.aload_n 0) 1 0, e1 1443 (.iload_n 3) 1 3, ec 1444 (.iconst 4) 1 4, e0 1445 (.iadd) 1, e0 1446 (.iaload) 1, ei 1447 (.invokevirtual 142) 3 21 156 5 0 7, e1 1450 (.aload_n 2) 1 2, e1 1451 (.aload_n 0) 1 0, e1 1452 (.iload_n 3) 1 3, ec 1453 (.iconst 1) 1 1, e0 1454 (.iadd) 1, e0 1455 (.iaload) 1, e1 1456 (.aload_n 0) 1 0, e1 1457 (.iload_n 3) 1 3, ec 1458 (.iconst 2) 1 2, e0 1459 (.iadd) 1, e0 1460 (.iaload) 1, e1 1461 (.aload_n 0) 1 0, e1 1462 (.iload_n 3) 1 3, ec 1463 (.iconst 3) 1 3, e0 1464 (.iadd) 1, e0 1465 (.iaload) 1, e1 1466 (.aload_n 0) 1 0, e1 1467 (.iload_n 3) 1 3, ec 1468 (.iconst 4) 1 4, e0 1469 (.iadd) 1, e0 1470 (.iaload) 1, ei 1471 (.invokevirtual 146) 3 22 271 5 0 8, e1 1474 (.if_icmp .eq 929) 3 2403, ec 1477 (.iconst 0) 1 0, e1 1478 (.ireturn) 1 1], 1479),
  (1479, [true, true, true, true], [e1 1479 (.aload_n 1) 1 1, e1 1480 (.aload_n 0) 1 0, e1 1481 (.iload_n 3) 1 3, ec 1482 (.iconst 1) 1 1, e0 1483 (.iadd) 1, e0 1484 (.iaload) 1, e1 1485 (.aload_n 0) 1 0, e1 1486 (.iload_n 3) 1 3, ec 1487 (.iconst 2) 1 2, e0 1488 (.iadd) 1, e0 1489 (.iaload) 1, ei 1490 (.invokevirtual 147) 3 21 157 3 0 3, e1 1493 (.aload_n 2) 1 2, e1 1494 (.aload_n 0) 1 0, e1 1495 (.iload_n 3) 1 3, ec 1496 (.iconst 1) 1 1, e0 1497 (.iadd) 1, e0 1498 (.iaload) 1, e1 1499 (.aload_n 0) 1 0, e1 1500 (.iload_n 3) 1 3, ec 1501 (.iconst 2) 1 2, e0 1502 (.iadd) 1, e0 1503 (.iaload) 1, ei 1504 (.invokevirtual 150) 3 22 272 3 0 3, e1 1507 (.if_icmp .eq 896) 3 2403, ec 1510 (.iconst 0) 1 0, e1 1511 (.ireturn) 1 1], 1512),
  (1512, [true, true, true, true], [e1 1512 (.aload_n 1) 1 1, e1 1513 (.aload_n 0) 1 0, e1 1514 (.iload_n 3) 1 3, ec 1515 (.iconst 1) 1 1, e0 1516 (.iadd) 1, e0 1517 (.iaload) 1, e1 1518 (.aload_n 0) 1 0, e1 1519 (.iload_n 3) 1 3, ec 1520 (.iconst 2) 1 2, e0 1521 (.iadd) 1, e0 1522 (.iaload) 1, ei 1523 (.invokevirtual 151) 3 21 158 3 0 3, e1 1526 (.aload_n 2) 1 2, e1 1527 (.aload_n 0) 1 0, e1 1528 (.iload_n 3) 1 3, ec 1529 (.iconst 1) 1 1, e0 1530 (.iadd) 1, e0 1531 (.iaload) 1, e1 1532 (.aload_n 0) 1 0, e1 1533 (.iload_n 3) 1 3, ec 1534 (.iconst 2) 1 2, e0 1535 (.iadd) 1, e0 1536 (.iaload) 1, ei 1537 (.invokevirtual 154) 3 22 273 3 0 3, e1 1540 (.if_icmp .eq 863) 3 2403, ec 1543 (.iconst 0) 1 0, e1 1544 (.ireturn) 1 1], 1545),
  (1545, [true, true, true, true], [e1 1545 (.aload_n 1) 1 1, e1 1546 (.aload_n 0) 1 0, e1 1547 (.iload_n 3) 1 3, ec 1548 (.iconst 1) 1 1, e0 1549 (.iadd) 1, e0 1550 (.iaload) 1, e1 1551 (.aload_n 0) 1 0, e1 1552 (.iload_n 3) 1 3, ec 1553 (.iconst 2) 1 2, e0 1554 (.iadd) 1, e0 1555 (.iaload) 1, e1 1556 (.aload_n 0) 1 0, e1 1557 (.iload_n 3) 1 3, ec 1558 (.iconst 3) 1 3, e0 1559 (.iadd) 1, e0 1560 (.iaload) 1, e1 1561 (.ifCond .eq 7) 3 1568, ec 1564 (.iconst 1) 1 1, e1 1565 (.goto 4) 3 1569], 1568),
  (1568, [true, true, true, true], [ec 1568 (.iconst 0) 1 0], 1569),
  (1569, [true, true, true, true], [ei 1569 (.invokevirtual 155) 3 21 159 4 0 4, e1 1572 (.aload_n 2) 1 2, e1 1573 (.aload_n 0) 1 0, e1 1574 (.iload_n 3) 1 3, ec 1575 (.iconst 1) 1 1, e0 1576 (.iadd) 1, e0 1577 (.iaload) 1, e1 1578 (.aload_n 0) 1 0, e1 1579 (.iload_n 3) 1 3, ec 1580 (.iconst 2) 1 2, e0 1581 (.iadd) 1, e0 1582 (.iaload) 1, e1 1583 (.aload_n 0) 1 0, e1 1584 (.iload_n 3) 1 3, ec 1585 (.iconst 3) 1 3, e0 1586 (.iadd) 1, e0 1587 (.iaload) 1, e1 1588 (.ifCond .eq 7) 3 1595, ec 1591 (.iconst 1) 1 1, e1 1592 (.goto 4) 3 1596], 1595),
  (1595, [true, true, true, true], [ec 1595 (.iconst 0) 1 0], 1596),
  (1596, [true, true, true, true], [ei 1596 (.invokevirtual 158) 3 22 276 4 0 4, e1 1599 (.if_icmp .eq 804) 3 2403, ec 1602 (.iconst 0) 1 0, e1 1603 (.ireturn) 1 1], 1604),
  (1604, [true, true, true, true], [e1 1604 (.aload_n 1) 1 1, e1 1605 (.aload_n 0) 1 0, e1 1606 (.iload_n 3) 1 3, ec 1607 (.iconst 1) 1 1, e0 1608 (.iadd) 1, e0 1609 (.iaload) 1, e1 1610 (.aload_n 0) 1 0, e1 1611 (.iload_n 3) 1 3, ec 1612 (.iconst 2) 1 2, e0 1613 (.iadd) 1, e0 1614 (.iaload) 1, e1 1615 (.aload_n 0) 1 0, e1 1616 (.iload_n 3) 1 3, ec 1617 (.iconst 3) 1 3, e0 1618 (.iadd) 1, e0 1619 (.iaload) 1, e1 1620 (.ifCond .eq 7) 3 1627, ec 1623 (.iconst 1) 1 1, e1 1624 (.goto 4) 3 1628], 1627),
  (1627, [true, true, true, true], [ec 1627 (.iconst 0) 1 0], 1628),
  (1628, [true, true, true, true], [ei 1628 (.invokevirtual 159) 3 21 160 4 0 4, e1 1631 (.aload_n 2) 1 2, e1 1632 (.aload_n 0) 1 0, e1 1633 (.iload_n 3) 1 3, ec 1634 (.iconst 1) 1 1, e0 1635 (.iadd) 1, e0 1636 (.iaload) 1, e1 1637 (.aload_n 0) 1 0, e1 1638 (.iload_n 3) 1 3, ec 1639 (.iconst 2) 1 2, e0 1640 (.iadd) 1, e0 1641 (.iaload) 1, e1 1642 (.aload_n 0) 1 0, e1 1643 (.iload_n 3) 1 3, ec 1644 (.iconst 3) 1 3, e0 1645 (.iadd) 1, e0 1646 (.iaload) 1, e1 1647 (.ifCond .eq 7) 3 1654, ec 1650 (.iconst 1) 1 1, e1 1651 (.goto 4) 3 1655], 1654),
  (1654, [true, true, true, true], [ec 1654 (.iconst 0) 1 0], 1655),
  (1655, [true, true, true, true], [ei 1655 (.invokevirtual 162) 3 22 277 4 0 5, e1 1658 (.if_icmp .eq 745) 3 2403, ec 1661 (.iconst 0) 1 0, e1 1662 (.ireturn) 1 1], 1663),
  (1663, [true, true, true, true], [e1 1663 (.aload_n 1) 1 1, e1 1664 (.aload_n 0) 1 0, e1 1665 (.iload_n 3) 1 3, ec 1666 (.iconst 1) 1 1, e0 1667 (.iadd) 1, e0 1668 (.iaload) 1, e1 1669 (.aload_n 0) 1 0, e1 1670 (.iload_n 3) 1 3, ec 1671 (.iconst 2) 1 2, e0 1672 (.iadd) 1, e0 1673 (.iaload) 1, ei 1674 (.invokevirtual 163) 3 21 161 3 0 3, e1 1677 (.aload_n 2) 1 2, e1 1678 (.aload_n 0) 1 0, e1 1679 (.iload_n 3) 1 3, ec 1680 (.iconst 1) 1 1, e0 1681 (.iadd) 1, e0 1682 (.iaload) 1, e1 1683 (.aload_n 0) 1 0, e1 1684 (.iload_n 3) 1 3, ec 1685 (.iconst 2) 1 2, e0 1686 (.iadd) 1, e0 1687 (.iaload) 1, ei 1688 (.invokevirtual 166) 3 22 280 3 0 4, e1 1691 (.if_icmp .eq 712) 3 2403, ec 1694 (.iconst 0) 1 0, e1 1695 (.ireturn) 1 1], 1696),
  (1696, [true, true, true, true], [e1 1696 (.aload_n 1) 1 1, e1 1697 (.aload_n 0) 1 0, e1 1698 (.iload_n 3) 1 3, ec 1699 (.iconst 1) 1 1, e0 1700 (.iadd) 1, e0 1701 (.iaload) 1, e1 1702 (.aload_n 0) 1 0, e1 1703 (.iload_n 3) 1 3, ec 1704 (.iconst 2) 1 2, e0 1705 (.iadd) 1, e0 1706 (.iaload) 1, e1 1707 (.aload_n 0) 1 0, e1 1708 (.iload_n 3) 1 3, ec 1709 (.iconst 3) 1 3, e0 1710 (.iadd) 1, e0 1711 (.iaload) 1, ei 1712 (.invokevirtual 167) 3 21 162 4 0 5, e1 1715 (.aload_n 2) 1 2, e1 1716 (.aload_n 0) 1 0, e1 1717 (.iload_n 3) 1 3, ec 1718 (.iconst 1) 1 1, e0 1719 (.iadd) 1, e0 1720 (.iaload) 1, e1 1721 (.aload_n 0) 1 0, e1 1722 (.iload_n 3) 1 3, ec 1723 (.iconst 2) 1 2, e0 1724 (.iadd) 1, e0 1725 (.iaload) 1, e1 1726 (.aload_n 0) 1 0, e1 1727 (.iload_n 3) 1 3, ec 1728 (.iconst 3) 1 3, e0 1729 (.iadd) 1, e0 1730 (.iaload) 1, ei 1731 (.invokevirtual 170) 3 22 281 4 0 4, e1 1734 (.if_icmp .eq 669) 3 2403, ec 1737 (.iconst 0) 1 0, e1 1738 (.ireturn) 1 1], 1739),
  (1739, [true, true, true, true], [e1 1739 (.aload_n 1) 1 1, e1 1740 (.aload_n 0) 1 0, e1 1741 (.iload_n 3) 1 3, ec 1742 (.iconst 1) 1 1, e0 1743 (.iadd) 1, e0 1744 (.iaload) 1, e1 1745 (.aload_n 0) 1 0, e1 1746 (.iload_n 3) 1 3, ec 1747 (.iconst 2) 1 2, e0 1748 (.iadd) 1, e0 1749 (.iaload) 1, ei 1750 (.invokevirtual 171) 3 21 164 3 0 3, e1 1753 (.aload_n 2) 1 2, e1 1754 (.aload_n 0) 1 0, e1 1755 (.iload_n 3) 1 3, ec 1756 (.iconst 1) 1 1, e0 1757 (.iadd) 1, e0 1758 (.iaload) 1, e1 1759 (.aload_n 0) 1 0, e1 1760 (.iload_n 3) 1 3, ec 1761 (.iconst 2) 1 2, e0 1762 (.iadd) 1, e0 1763 (.iaload) 1, ei 1764 (.invokevirtual 174) 3 22 282 3 0 3, e1 1767 (.if_icmp .eq 636) 3 2403, ec 1770 (.iconst 0) 1 0, e1 1771 (.ireturn) 1 1], 1772),
  (1772, [true, true, true, true], [e1 1772 (.aload_n 1) 1 1, e1 1773 (.aload_n 0) 1 0, e1 1774 (.iload_n 3) 1 3, ec 1775 (.iconst 1) 1 1, e0 1776 (.iadd) 1, e0 1777 (.iaload) 1, e1 1778 (.aload_n 0) 1 0, e1 1779 (.iload_n 3) 1 3, ec 1780 (.iconst 2) 1 2, e0 1781 (.iadd) 1, e0 1782 (.iaload) 1, e1 1783 (.aload_n 0) 1 0, e1 1784 (.iload_n 3) 1 3, ec 1785 (.iconst 3) 1 3, e0 1786 (.iadd) 1, e0 1787 (.iaload) 1, e1 1788 (.aload_n 0) 1 0, e1 1789 (.iload_n 3) 1 3, ec 1790 (.iconst 4) 1 4, e0 1791 (.iadd) 1, e0 1792 (.iaload) 1, e1 1793 (.aload_n 0) 1 0, e1 1794 (.iload_n 3) 1 3, ec 1795 (.iconst 5) 1 5, e0 1796 (.iadd) 1, e0 1797 (.iaload) 1, ei 1798 (.invokevirtual 175) 3 21 165 6 0 9, e1 1801 (.aload_n 2) 1 2, e1 1802 (.aload_n 0) 1 0, e1 1803 (.iload_n 3) 1 3, ec 1804 (.iconst 1) 1 1, e0 1805 (.iadd) 1, e0 1806 (.iaload) 1, e1 1807 (.aload_n 0) 1 0, e1 1808 (.iload_n 3) 1 3, ec 1809 (.iconst 2) 1 2, e0 1810 (.iadd) 1, e0 1811 (.iaload) 1, e1 1812 (.aload_n 0) 1 0, e1 1813 (.iload_n 3) 1 3, ec 1814 (.iconst 3) 1 3, e0 1815 (.iadd) 1, e0 1816 (.iaload) 1, e1 1817 (.aload_n 0) 1 0, e1 1818 (.iload_n 3) 1 3, ec 1819 (.iconst 4) 1 4, e0 1820 (.iadd) 1, e0 1821 (.iaload) 1, e1 1822 (.aload_n 0) 1 0, e1 1823 (.iload_n 3) 1 3, ec 1824 (.iconst 5) 1 5, e0 1825 (.iadd) 1, e0 1826 (.iaload) 1, ei 1827 (.invokevirtual 179) 3 22 283 6 0 7, e1 1830 (.if_icmp .eq 573) 3 2403, ec 1833 (.iconst 0) 1 0, e1 1834 (.ireturn) 1 1], 1835),
  (1835, [true, true, true, true], [e1 1835 (.aload_n 1) 1 1, ei 1836 (.invokevirtual 180) 3 21 166 1 0 1, e1 1839 (.aload_n 2) 1 2, ei 1840 (.invokevirtual 183) 3 22 284 1 0 1, e1 1843 (.if_icmp .eq 560) 3 2403, ec 1846 (.iconst 0) 1 0, e1 1847 (.ireturn) 1 1], 1848),
  (1848, [true, true, true, true], [e1 1848 (.aload_n 1) 1 1, e1 1849 (.aload_n 0) 1 0, e1 1850 (.iload_n 3) 1 3, ec 1851 (.iconst 1) 1 1, e0 1852 (.iadd) 1, e0 1853 (.iaload) 1, e1 1854 (.aload_n 0) 1 0, e1 1855 (.iload_n 3) 1 3, ec 1856 (.iconst 2) 1 2, e0 1857 (.iadd) 1, e0 1858 (.iaload) 1, e1 1859 (.aload_n 0) 1 0, e1 1860 (.iload_n 3) 1 3, ec 1861 (.iconst 3) 1 3, e0 1862 (.iadd) 1, e0 1863 (.iaload) 1, ei 1864 (.invokevirtual 184) 3 21 167 4 0 4, e1 1867 (.aload_n 2) 1 2, e1 1868 (.aload_n 0) 1 0, e1 1869 (.iload_n 3) 1 3, ec 1870 (.iconst 1) 1 1, e0 1871 (.iadd) 1, e0 1872 (.iaload) 1, e1 1873 (.aload_n 0) 1 0, e1 1874 (.iload_n 3) 1 3, ec 1875 (.iconst 2) 1 2, e0 1876 (.iadd) 1, e0 1877 (.iaload) 1, e1 1878 (.aload_n 0) 1 0, e1 1879 (.iload_n 3) 1 3, ec 1880 (.iconst 3) 1 3, e0 1881 (.iadd) 1, e0 1882 (.iaload) 1, ei 1883 (.invokevirtual 187) 3 22 286 4 0 7, e1 1886 (.if_icmp .eq 517) 3 2403, ec 1889 (.iconst 0) 1 0, e1 1890 (.ireturn) 1 1], 1891),
  (1891, [true, true, true, true], [e1 1891 (.aload_n 1) 1 1, e1 1892 (.aload_n 0) 1 0, e1 1893 (.iload_n 3) 1 3, ec 1894 (.iconst 1) 1 1, e0 1895 (.iadd) 1, e0 1896 (.iaload) 1, e1 1897 (.aload_n 0) 1 0, e1 1898 (.iload_n 3) 1 3, ec 1899 (.iconst 2) 1 2, e0 1900 (.iadd) 1, e0 1901 (.iaload) 1, e1 1902 (.aload_n 0) 1 0, e1 1903 (.iload_n 3) 1 3, ec 1904 (.iconst 3) 1 3, e0 1905 (.iadd) 1, e0 1906 (.iaload) 1, e1 1907 (.aload_n 0) 1 0, e1 1908 (.iload_n 3) 1 3, ec 1909 (.iconst 4) 1 4, e0 1910 (.iadd) 1, e0 1911 (.iaload) 1, e0 1912 (.i2l) 1, ec 1913 (.bipush 32) 2 32, e0 1915 (.lshl) 1, e1 1916 (.aload_n 0) 1 0, e1 1917 (.iload_n 3) 1 3, ec 1918 (.iconst 5) 1 5, e0 1919 (.iadd) 1, e0 1920 (.iaload) 1, e0 1921 (.i2l) 1, ec 1922 (.ldc2_w 28) 3 4294967295, e0 1925 (.land) 1, e0 1926 (.lor) 1, ei 1927 (.invokevirtual 188) 3 21 169 5 0 6, e1 1930 (.aload_n 2) 1 2, e1 1931 (.aload_n 0) 1 0, e1 1932 (.iload_n 3) 1 3, ec 1933 (.iconst 1) 1 1, e0 1934 (.iadd) 1, e0 1935 (.iaload) 1, e1 1936 (.aload_n 0) 1 0, e1 1937 (.iload_n 3) 1 3, ec 1938 (.iconst 2) 1 2, e0 1939 (.iadd) 1, e0 1940 (.iaload) 1, e1 1941 (.aload_n 0) 1 0, e1 1942 (.iload_n 3) 1 3, ec 1943 (.iconst 3) 1 3, e0 1944 (.iadd) 1, e0 1945 (.iaload) 1, e1 1946 (.aload_n 0) 1 0, e1 1947 (.iload_n 3) 1 3, ec 1948 (.iconst 4) 1 4, e0 1949 (.iadd) 1, e0 1950 (.iaload) 1, e0 1951 (.i2l) 1, ec 1952 (.bipush 32) 2 32, e0 1954 (.lshl) 1, e1 1955 (.aload_n 0) 1 0, e1 1956 (.iload_n 3) 1 3, ec 1957 (.iconst 5) 1 5, e0 1958 (.iadd) 1, e0 1959 (.iaload) 1, e0 1960 (.i2l) 1, ec 1961 (.ldc2_w 28) 3 4294967295, e0 1964 (.land) 1, e0 1965 (.lor) 1, ei 1966 (.invokevirtual 192) 3 22 290 5 0 8, e1 1969 (.if_icmp .eq 434) 3 2403, ec 1972 (.iconst 0) 1 0, e1 1973 (.ireturn) 1 1], 1974),
  (1974, [true, true, true, true], [e1 1974 (.aload_n 1) 1 1, e1 1975 (.aload_n 0) 1 0, e1 1976 (.iload_n 3) 1 3, ec 1977 (.iconst 1) 1 1, e0 1978 (.iadd) 1, e0 1979 (.iaload) 1, e1 1980 (.aload_n 0) 1 0, e1 1981 (.iload_n 3) 1 3, ec 1982 (.iconst 2) 1 2, e0 1983 (.iadd) 1, e0 1984 (.iaload) 1, e1 1985 (.aload_n 0) 1 0, e1 1986 (.iload_n 3) 1 3, ec 1987 (.iconst 3) 1 3, e0 1988 (.iadd) 1, e0 1989 (.iaload) 1, ei 1990 (.invokevirtual 193) 3 21 170 4 0 4, e1 1993 (.aload_n 2) 1 2, e1 1994 (.aload_n 0) 1 0, e1 1995 (.iload_n 3) 1 3, ec 1996 (.iconst 1) 1 1, e0 1997 (.iadd) 1, e0 1998 (.iaload) 1, e1 1999 (.aload_n 0) 1 0, e1 2000 (.iload_n 3) 1 3, ec 2001 (.iconst 2) 1 2, e0 2002 (.iadd) 1, e0 2003 (.iaload) 1, e1 2004 (.aload_n 0) 1 0, e1 2005 (.iload_n 3) 1 3, ec 2006 (.iconst 3) 1 3, e0 2007 (.iadd) 1, e0 2008 (.iaload) 1, ei 2009 (.invokevirtual 196) 3 22 291 4 0 6, e1 2012 (.if_icmp .eq 391) 3 2403, ec 2015 (.iconst 0) 1 0, e1 2016 (.ireturn) 1 1], 2017),
  (2017, [true, true, true, true], [e1 2017 (.aload_n 1) 1 1, e1 2018 (.aload_n 0) 1 0, e1 2019 (.iload_n 3) 1 3, ec 2020 (.iconst 1) 1 1, e0 2021 (.iadd) 1, e0 2022 (.iaload) 1, e1 2023 (.aload_n 0) 1 0, e1 2024 (.iload_n 3) 1 3, ec 2025 (.iconst 2) 1 2, e0 2026 (.iadd) 1, e0 2027 (.iaload) 1, e1 2028 (.aload_n 0) 1 0, e1 2029 (.iload_n 3) 1 3, ec 2030 (.iconst 3) 1 3, e0 2031 (.iadd) 1, e0 2032 (.iaload) 1, ei 2033 (.invokevirtual 197) 3 21 171 4 1 4, e1 2036 (.aload_n 2) 1 2, e1 2037 (.aload_n 0) 1 0, e1 2038 (.iload_n 3) 1 3, ec 2039 (.iconst 1) 1 1, e0 2040 (.iadd) 1, e0 2041 (.iaload) 1, e1 2042 (.aload_n 0) 1 0, e1 2043 (.iload_n 3) 1 3, ec 2044 (.iconst 2) 1 2, e0 2045 (.iadd) 1, e0 2046 (.iaload) 1, e1 2047 (.aload_n 0) 1 0, e1 2048 (.iload_n 3) 1 3, ec 2049 (.iconst 3) 1 3, e0 2050 (.iadd) 1, e0 2051 (.iaload) 1, ei 2052 (.invokevirtual 200) 3 22 292 4 1 5, e0 2055 (.lcmp) 1, e1 2056 (.ifCond .eq 347) 3 2403, ec 2059 (.iconst 0) 1 0, e1 2060 (.ireturn) 1 1], 2061),
  (2061, [true, true, true, true], [e1 2061 (.aload_n 1) 1 1, e1 2062 (.aload_n 0) 1 0, e1 2063 (.iload_n 3) 1 3, ec 2064 (.iconst 1) 1 1, e0 2065 (.iadd) 1, e0 2066 (.iaload) 1, e1 2067 (.aload_n 0) 1 0, e1 2068 (.iload_n 3) 1 3, ec 2069 (.iconst 2) 1 2, e0 2070 (.iadd) 1, e0 2071 (.iaload) 1, e1 2072 (.aload_n 0) 1 0, e1 2073 (.iload_n 3) 1 3, ec 2074 (.iconst 3) 1 3, e0 2075 (.iadd) 1, e0 2076 (.iaload) 1, e0 2077 (.i2l) 1, ec 2078 (.bipush 32) 2 32, e0 2080 (.lshl) 1, e1 2081 (.aload_n 0) 1 0, e1 2082 (.iload_n 3) 1 3, ec 2083 (.iconst 4) 1 4, e0 2084 (.iadd) 1, e0 2085 (.iaload) 1, e0 2086 (.i2l) 1, ec 2087 (.ldc2_w 28) 3 4294967295, e0 2090 (.land) 1, e0 2091 (.lor) 1, e1 2092 (.aload_n 0) 1 0, e1 2093 (.iload_n 3) 1 3, ec 2094 (.iconst 5) 1 5, e0 2095 (.iadd) 1, e0 2096 (.iaload) 1, ei 2097 (.invokevirtual 201) 3 21 172 5 0 6, e1 2100 (.aload_n 2) 1 2, e1 2101 (.aload_n 0) 1 0, e1 2102 (.iload_n 3) 1 3, ec 2103 (.iconst 1) 1 1, e0 2104 (.iadd) 1, e0 2105 (.iaload) 1, e1 2106 (.aload_n 0) 1 0, e1 2107 (.iload_n 3) 1 3, ec 2108 (.iconst 2) 1 2, e0 2109 (.iadd) 1, e0 2110 (.iaload) 1, e1 2111 (.aload_n 0) 1 0, e1 2112 (.iload_n 3) 1 3, ec 2113 (.iconst 3) 1 3, e0 2114 (.iadd) 1, e0 2115 (.iaload) 1, e0 2116 (.i2l) 1, ec 2117 (.bipush 32) 2 32, e0 2119 (.lshl) 1, e1 2120 (.aload_n 0) 1 0, e1 2121 (.iload_n 3) 1 3, ec 2122 (.iconst 4) 1 4, e0 2123 (.iadd) 1, e0 2124 (.iaload) 1, e0 2125 (.i2l) 1, ec 2126 (.ldc2_w 28) 3 4294967295, e0 2129 (.land) 1, e0 2130 (.lor) 1, e1 2131 (.aload_n 0) 1 0, e1 2132 (.iload_n 3) 1 3, ec 2133 (.iconst 5) 1 5, e0 2134 (.iadd) 1, e0 2135 (.iaload) 1, ei 2136 (.invokevirtual 205) 3 22 293 5 0 8, e1 2139 (.if_icmp .eq 264) 3 2403, ec 2142 (.iconst 0) 1 0, e1 2143 (.ireturn) 1 1], 2144),
  (2144, [true, true, true, true], [e1 2144 (.aload_n 1) 1 1, e1 2145 (.aload_n 0) 1 0, e1 2146 (.iload_n 3) 1 3, ec 2147 (.iconst 1) 1 1, e0 2148 (.iadd) 1, e0 2149 (.iaload) 1, e1 2150 (.aload_n 0) 1 0, e1 2151 (.iload_n 3) 1 3, ec 2152 (.iconst 2) 1 2, e0 2153 (.iadd) 1, e0 2154 (.iaload) 1, e1 2155 (.aload_n 0) 1 0, e1 2156 (.iload_n 3) 1 3, ec 2157 (.iconst 3) 1 3, e0 2158 (.iadd) 1, e0 2159 (.iaload) 1, e1 2160 (.ifCond .eq 7) 3 2167, ec 2163 (.iconst 1) 1 1, e1 2164 (.goto 4) 3 2168], 2167),
  (2167, [true, true, true, true], [ec 2167 (.iconst 0) 1 0], 2168),
  (2168, [true, true, true, true], [ei 2168 (.invokevirtual 206) 3 21 173 4 0 4, e1 2171 (.aload_n 2) 1 2, e1 2172 (.aload_n 0) 1 0, e1 2173 (.iload_n 3) 1 3, ec 2174 (.iconst 1) 1 1, e0 2175 (.iadd) 1, e0 2176 (.iaload) 1, e1 2177 (.aload_n 0) 1 0, e1 2178 (.iload_n 3) 1 3, ec 2179 (.iconst 2) 1 2, e0 2180 (.iadd) 1, e0 2181 (.iaload) 1, e1 2182 (.aload_n 0) 1 0, e1 2183 (.iload_n 3) 1 3, ec 2184 (.iconst 3) 1 3, e0 2185 (.iadd) 1, e0 2186 (.iaload) 1, e1 2187 (.ifCond .eq 7) 3 2194, ec 2190 (.iconst 1) 1 1, e1 2191 (.goto 4) 3 2195], 2194),
  (2194, [true, true, true, true], [ec 2194 (.iconst 0) 1 0], 2195),
  (2195, [true, true, true, true], [ei 2195 (.invokevirtual 209) 3 22 295 4 0 7, e1 2198 (.if_icmp .eq 205) 3 2403, ec 2201 (.iconst 0) 1 0, e1 2202 (.ireturn) 1 1], 2203),
  (2203, [true, true, true, true], [e1 2203 (.aload_n 1) 1 1, e1 2204 (.aload_n 0) 1 0, e1 2205 (.iload_n 3) 1 3, ec 2206 (.iconst 1) 1 1, e0 2207 (.iadd) 1, e0 2208 (.iaload) 1, e1 2209 (.aload_n 0) 1 0, e1 2210 (.iload_n 3) 1 3, ec 2211 (.iconst 2) 1 2, e0 2212 (.iadd) 1, e0 2213 (.iaload) 1, ei 2214 (.invokevirtual 210) 3 21 174 3 1 3, e1 2217 (.aload_n 2) 1 2, e1 2218 (.aload_n 0) 1 0, e1 2219 (.iload_n 3) 1 3, ec 2220 (.iconst 1) 1 1, e0 2221 (.iadd) 1, e0 2222 (.iaload) 1, e1 2223 (.aload_n 0) 1 0, e1 2224 (.iload_n 3) 1 3, ec 2225 (.iconst 2) 1 2, e0 2226 (.iadd) 1, e0 2227 (.iaload) 1, ei 2228 (.invokevirtual 213) 3 22 298 3 1 3, e0 2231 (.lcmp) 1, e1 2232 (.ifCond .eq 171) 3 2403, ec 2235 (.iconst 0) 1 0, e1 2236 (.ireturn) 1 1], 2237),
  (2237, [true, true, true, true], [e1 2237 (.aload_n 1) 1 1, e1 2238 (.aload_n 0) 1 0, e1 2239 (.iload_n 3) 1 3, ec 2240 (.iconst 1) 1 1, e0 2241 (.iadd) 1, e0 2242 (.iaload) 1, e1 2243 (.aload_n 0) 1 0, e1 2244 (.iload_n 3) 1 3, ec 2245 (.iconst 2) 1 2, e0 2246 (.iadd) 1, e0 2247 (.iaload) 1, ei 2248 (.invokevirtual 214) 3 21 175 3 1 4, e1 2251 (.aload_n 2) 1 2, e1 2252 (.aload_n 0) 1 0, e1 2253 (.iload_n 3) 1 3, ec 2254 (.iconst 1) 1 1, e0 2255 (.iadd) 1, e0 2256 (.iaload) 1, e1 2257 (.aload_n 0) 1 0, e1 2258 (.iload_n 3) 1 3, ec 2259 (.iconst 2) 1 2, e0 2260 (.iadd) 1, e0 2261 (.iaload) 1, ei 2262 (.invokevirtual 217) 3 22 299 3 1 4, e0 2265 (.lcmp) 1, e1 2266 (.ifCond .eq 137) 3 2403, ec 2269 (.iconst 0) 1 0, e1 2270 (.ireturn) 1 1], 2271),
  (2271, [true, true, true, true], [e1 2271 (.aload_n 1) 1 1, ei 2272 (.invokevirtual 218) 3 21 176 1 0 2, e1 2275 (.aload_n 2) 1 2, ei 2276 (.invokevirtual 221) 3 22 301 1 0 5, e1 2279 (.if_icmp .eq 124) 3 2403, ec 2282 (.iconst 0) 1 0, e1 2283 (.ireturn) 1 1], 2284),
  (2284, [true, true, true, true], [e1 2284 (.aload_n 1) 1 1, e1 2285 (.aload_n 0) 1 0, e1 2286 (.iload_n 3) 1 3, ec 2287 (.iconst 1) 1 1, e0 2288 (.iadd) 1, e0 2289 (.iaload) 1, ei 2290 (.invokevirtual 222) 3 21 180 2 0 2, e1 2293 (.aload_n 2) 1 2, e1 2294 (.aload_n 0) 1 0, e1 2295 (.iload_n 3) 1 3, ec 2296 (.iconst 1) 1 1, e0 2297 (.iadd) 1, e0 2298 (.iaload) 1, ei 2299 (.invokevirtual 225) 3 22 302 2 0 2, e1 2302 (.if_icmp .eq 101) 3 2403, ec 2305 (.iconst 0) 1 0, e1 2306 (.ireturn) 1 1], 2307),
  (2307, [true, true, true, true], [e1 2307 (.aload_n 1) 1 1, ei 2308 (.invokevirtual 226) 3 21 181 1 1 4, e1 2311 (.aload_n 2) 1 2, ei 2312 (.invokevirtual 230) 3 22 303 1 1 4, e0 2315 (.lcmp) 1, e1 2316 (.ifCond .eq 87) 3 2403, ec 2319 (.iconst 0) 1 0, e1 2320 (.ireturn) 1 1], 2321),
  (2321, [true, true, true, true], [e1 2321 (.aload_n 1) 1 1, e1 2322 (.aload_n 0) 1 0, e1 2323 (.iload_n 3) 1 3, ec 2324 (.iconst 1) 1 1, e0 2325 (.iadd) 1, e0 2326 (.iaload) 1, e1 2327 (.aload_n 0) 1 0, e1 2328 (.iload_n 3) 1 3, ec 2329 (.iconst 2) 1 2, e0 2330 (.iadd) 1, e0 2331 (.iaload) 1, ei 2332 (.invokevirtual 231) 3 21 182 3 0 3, e1 2335 (.aload_n 2) 1 2, e1 2336 (.aload_n 0) 1 0, e1 2337 (.iload_n 3) 1 3, ec 2338 (.iconst 1) 1 1, e0 2339 (.iadd) 1, e0 2340 (.iaload) 1, e1 2341 (.aload_n 0) 1 0, e1 2342 (.iload_n 3) 1 3, ec 2343 (.iconst 2) 1 2, e0 2344 (.iadd) 1, e0 2345 (.iaload) 1, ei 2346 (.invokevirtual 234) 3 22 304 3 0 3, e1 2349 (.if_icmp .eq 54) 3 2403, ec 2352 (.iconst 0) 1 0, e1 2353 (.ireturn) 1 1], 2354),
  (2354, [true, true, true, true], [e1 2354 (.aload_n 1) 1 1, e1 2355 (.aload_n 0) 1 0, e1 2356 (.iload_n 3) 1 3, ec 2357 (.iconst 1) 1 1, e0 2358 (.iadd) 1, e0 2359 (.iaload) 1, ei 2360 (.invokevirtual 235) 3 21 183 2 0 2, e1 2363 (.aload_n 2) 1 2, e1 2364 (.aload_n 0) 1 0, e1 2365 (.iload_n 3) 1 3, ec 2366 (.iconst 1) 1 1, e0 2367 (.iadd) 1, e0 2368 (.iaload) 1, ei 2369 (.invokevirtual 238) 3 22 305 2 0 2, e1 2372 (.if_icmp .eq 31) 3 2403, ec 2375 (.iconst 0) 1 0, e1 2376 (.ireturn) 1 1], 2377),
  (2377, [true, true, true, true], [e1 2377 (.aload_n 1) 1 1, ei 2378 (.invokevirtual 239) 3 21 184 1 0 1, e1 2381 (.aload_n 2) 1 2, ei 2382 (.invokevirtual 242) 3 22 306 1 0 1, e1 2385 (.if_icmp .eq 18) 3 2403, ec 2388 (.iconst 0) 1 0, e1 2389 (.ireturn) 1 1], 2390),
  (2390, [true, true, true, true], [e1 2390 (.aload_n 1) 1 1, ei 2391 (.invokevirtual 243) 3 21 185 1 0 2, e1 2394 (.aload_n 2) 1 2, ei 2395 (.invokevirtual 246) 3 22 307 1 0 2, e1 2398 (.if_icmp .eq 5) 3 2403, ec 2401 (.iconst 0) 1 0, e1 2402 (.ireturn) 1 1], 2403),
  (2403, [true, true, true, true], [ek 2403 (.iinc 3 6) 3 6 3, e1 2406 (.goto (-2388)) 3 18], 2409),
  (2409, [false, false, false, false], [ec 2409 (.iconst 1) 1 1, e1 2410 (.ireturn) 1 1], 2411)]
def XP_l : List (List (List XB)) := [[K_X0_init, K_X0_begin, K_X0_add, K_X0_has, K_X0_fits, K_X0_baseOf, K_X1_init, K_X1_begin, K_X1_homeAt, K_X1_isLaid, K_X1_liesIn, K_X1_hasAllHomes, K_X1_isWithin, K_X1_lay, K_X1_lift, K_X1_againstPut],
  [K_X1_isCrowded, K_X1_againstPairs, K_X1_partner, K_X1_againstBar, K_X1_shut, K_X1_againstAmong, K_X1_earliestBarInto, K_X1_narrow, K_X1_setOf, K_X1_isUnsettled, K_X1_unsettled, K_X1_againstPairing, K_X1_addPair, K_X1_hasMost, K_X1_tellMost, K_X1_putBehind],
  [K_X1_bulk, K_X1_bulkAlone, K_X1_load, K_X2_init, K_X2_add, K_X2_has, K_X2_rowOf, K_X2_holds, K_X2_join, K_X2_merge, K_X2_againstRelate, K_X2_earliestDeny, K_X2_earliestRelate, K_X2_heldBy, K_X2_togetherBy, K_X2_walkFrom],
  [K_X2_couples, K_X3_init, K_X3_begin, K_X3_write, K_X3_sortOf, K_X3_leadsTo, K_X3_isTold, K_X3_toldIn, K_X3_opposite, K_X3_tellExit, K_X3_againstDoor, K_X3_tellDoor, K_X3_isPassable, K_X3_walkFrom, K_X4_init, K_X4_areFull],
  [K_X4_add, K_X4_earliest, K_X5_init, K_X5_ways, K_X5_thingAt, K_X5_takeLeastWay, K_X5_layFrom, K_X5_lets, K_X6_init, K_X6_begin, K_X6_spans, K_X7_init, K_X7_begin, K_X7_hasCell, K_X7_isBlank, K_X7_told],
  [K_X7_write, K_X7_wipe, K_X7_rowWith, K_X7_order, K_X7_isAhead, K_X7_swap, K_X7_sum, K_X7_filledIn, K_X8_init, K_X8_add, K_X8_has, K_X8_all, K_X8_holders, K_X8_isRoom, K_X8_haveRoom, K_X8_isCarrier],
  [K_X8_isHolder, K_X8_hasLid, K_X8_isFixed, K_X8_liesInOne, K_X8_mayLieIn, K_X8_worth, K_X8_lid, K_X9_init, K_X9_add, K_X9_has, K_X9_emptyCell, K_X9_knows, K_X9_takes, K_X9_isFor, K_X9_tellUsual, K_X9_tellGiven],
  [K_X9_givenBy, K_X9_givenCell, K_X9_isGivenOtherwise, K_X9_valueOf, K_X10_init, K_X10_begin, K_X10_step, K_X11_init, K_X11_beginAnew, K_X11_faulted, K_X11_against, K_X11_inRange, K_X11_kind, K_X11_is, K_X11_property, K_X11_usual],
  [K_X11_thing, K_X11_put, K_X11_bar, K_X11_give, K_X11_value, K_X11_given, K_X11_peek, K_X11_place, K_X11_says, K_X11_saying, K_X11_stride, K_X11_follow, K_X11_mark, K_X11_remark, K_X11_open, K_X11_among],
  [K_X11_pair, K_X11_most, K_X11_settle, K_X11_set, K_X11_relation, K_X11_relate, K_X11_deny, K_X11_related, K_X11_along, K_X11_next, K_X11_areRelatable, K_X11_exit, K_X11_door, K_X11_leads, K_X11_sort, K_X11_route],
  [K_X11_first, K_X11_shelf, K_X11_stand, K_X11_shelfTakes, K_X11_stands, K_X11_haul, K_X11_came, K_X11_table, K_X11_areLanes, K_X11_fill, K_X11_blank, K_X11_read, K_X11_choose, K_X11_rank, K_X11_total, K_X11_mean],
  [K_X11_make, K_X11_addWord, K_X11_addWordsOfThing, K_X11_addWordsOfRoom, K_X11_word, K_X11_digest, K_X11_sentence, K_X11_count, K_X11_fault, K_X11_clear, K_X11_bit, K_X11_toldBy, K_X12_init, K_X12_in, K_X12_faulty, K_X12_begin],
  [K_X12_isKind, K_X12_isProperty, K_X12_comesTo, K_X12_baseOf, K_X12_kind, K_X12_is, K_X12_property, K_X12_cell, K_X12_isUnknown, K_X12_isStored, K_X12_usual, K_X12_isThing, K_X12_base, K_X12_isCarrier, K_X12_isHolder, K_X12_isFixed],
  [K_X12_isBackdrop, K_X12_thing, K_X12_tell, K_X12_against, K_X12_first, K_X12_latestAmong, K_X12_isWithin, K_X12_placeOf, K_X12_nth, K_X12_held, K_X12_pairAgainst, K_X12_putAgainst, K_X12_lies, K_X12_put, K_X12_bar, K_X12_give],
  [K_X12_valueOf, K_X12_value, K_X12_given, K_X12_peek, K_X12_place, K_X12_loadOf, K_X12_bulkOf, K_X12_worthOf, K_X12_lidOf, K_X12_said, K_X12_says, K_X12_follow, K_X12_hasOwn, K_X12_mark, K_X12_remark, K_X12_open],
  [K_X12_among, K_X12_pair, K_X12_most, K_X12_isUnsettled, K_X12_unsettled, K_X12_keeps, K_X12_lowest, K_X12_many, K_X12_goesOn, K_X12_settle, K_X12_set, K_X12_isRelation, K_X12_groupUp, K_X12_told, K_X12_earlier, K_X12_hasBy],
  [K_X12_has, K_X12_deniedBy, K_X12_oneOnly, K_X12_relation, K_X12_isCouple, K_X12_relate, K_X12_deny, K_X12_related, K_X12_couples, K_X12_goBack, K_X12_along, K_X12_next, K_X12_isRoom, K_X12_lead, K_X12_exit, K_X12_door],
  [K_X12_leads, K_X12_sort, K_X12_goes, K_X12_routeBack, K_X12_route, K_X12_first_, K_X12_isShelf, K_X12_takes, K_X12_shelf, K_X12_stand, K_X12_stands, K_X12_haul, K_X12_came, K_X12_isTable, K_X12_table, K_X12_isColumn],
  [K_X12_isCell, K_X12_cellAt, K_X12_fill, K_X12_blank, K_X12_read, K_X12_choose, K_X12_isAhead, K_X12_rank, K_X12_filledIn, K_X12_sumOf, K_X12_total, K_X12_mean, K_X12_add, K_X12_make, K_X12_word, K_X12_digest],
  [K_X12_sentence, K_X12_count, K_X12_fault, K_X12_clear, K_J13_bitCount_95d88, K_J9_max_7cf53, K_L_law]]
def XML_l : List (List Nat) := [[1, 2, 2, 2, 5, 4, 3, 2, 3, 2, 4, 2, 5, 4, 2, 4],
  [2, 5, 3, 3, 3, 4, 5, 7, 2, 2, 3, 5, 5, 2, 4, 5],
  [2, 2, 4, 4, 3, 2, 3, 4, 5, 7, 7, 14, 5, 5, 5, 8],
  [4, 3, 3, 6, 3, 3, 3, 3, 1, 5, 6, 6, 5, 6, 1, 1],
  [5, 6, 3, 3, 2, 3, 7, 3, 1, 4, 3, 1, 6, 3, 3, 3],
  [5, 4, 6, 5, 5, 10, 5, 4, 2, 3, 3, 1, 4, 2, 2, 2],
  [2, 2, 2, 2, 3, 3, 2, 3, 5, 2, 2, 4, 4, 3, 5, 6],
  [3, 3, 5, 5, 1, 3, 4, 3, 1, 2, 1, 2, 2, 3, 4, 5],
  [4, 5, 4, 6, 3, 3, 4, 3, 3, 3, 3, 6, 3, 6, 4, 6],
  [6, 5, 4, 2, 2, 5, 4, 4, 4, 4, 4, 5, 7, 3, 3, 4],
  [4, 3, 5, 3, 3, 9, 1, 4, 4, 6, 4, 4, 6, 4, 3, 4],
  [2, 2, 3, 3, 2, 4, 3, 2, 1, 2, 1, 3, 1, 6, 2, 2],
  [2, 2, 4, 3, 2, 3, 5, 3, 4, 4, 5, 3, 2, 2, 2, 2],
  [2, 4, 5, 1, 5, 4, 4, 2, 4, 4, 6, 5, 4, 5, 6, 8],
  [5, 3, 3, 4, 3, 4, 2, 3, 2, 5, 3, 6, 2, 3, 5, 4],
  [10, 6, 5, 2, 3, 5, 3, 4, 4, 7, 2, 2, 7, 6, 2, 5],
  [4, 5, 6, 2, 4, 5, 5, 4, 4, 5, 4, 5, 2, 6, 7, 8],
  [3, 3, 3, 8, 4, 5, 2, 3, 4, 4, 3, 7, 1, 2, 7, 3],
  [4, 3, 8, 6, 5, 8, 11, 7, 5, 7, 3, 4, 2, 5, 2, 4],
  [3, 2, 1, 2, 2, 2, 4]]
def XP (m : Nat) : List XB := xg2 [] XP_l m
def XML (m : Nat) : Nat := xg2 0 XML_l m
def WK_l : List (List Nat) := [[9, 7, 21, 10, 18, 19, 14, 11, 15, 20, 12, 13, 16, 17, 22, 5],
  [6, 1, 1, 1, 1, 1, 1, 1, 1, 3, 1, 1, 1, 2, 3, 2],
  [1, 1, 1, 1, 1, 1, 1, 1, 2, 2, 1, 1, 1, 1, 1, 1],
  [3, 1, 1, 1, 1, 1, 1, 2, 2, 1, 1, 1, 1, 1, 1, 2],
  [3, 1, 1, 1, 1, 1, 1, 3, 2, 1, 1, 1, 1, 3, 1, 1],
  [1, 2, 1, 1, 2, 1, 1, 1, 1, 1, 1, 1, 1, 1, 3, 1],
  [1, 1, 1, 1, 1, 1, 1, 1, 1, 1, 3, 2, 4, 1, 3, 2],
  [4, 1]]
def WN_l : List (List Int) := [[0, 0, 0, 0, 0, 0, 0, 0, 0, 0, 0, 0, 0, 0, 0, 10],
  [6, 16, 1490, 24, 64, 64, 64, 64, 64, 64, 12, 12, 12, 288, 288, 768],
  [768, 300, 300, 300, 300, 384, 64, 64, 64, 64, 64, 64, 64, 64, 16, 16],
  [16, 16, 7, 64, 64, 64, 8, 512, 64, 512, 512, 512, 512, 64, 16, 80],
  [80, 5, 16, 24, 12, 12, 12, 288, 288, 64, 64, 64, 64, 64, 384, 384],
  [64, 64, 64, 768, 768, 300, 300, 300, 300, 64, 8, 64, 64, 64, 4096, 512],
  [512, 512, 512, 10, 10, 160, 16, 6, 6, 30, 480, 480, 480, 16, 80, 80],
  [80, 2048]]
def WG_l : List (List (Nat → Nat)) := [[(fun _ => 0), (fun _ => 0), (fun j => xgl 0 [3, 4, 5, 6, 7, 8, 10, 11, 15, 16, 17, 18, 0, 0, 0, 0, 0] j), (fun j => xgl 0 [19, 0] j), (fun j => xgl 0 [3, 20, 21, 22, 23, 24, 25, 0] j), (fun j => xgl 0 [3, 4, 26, 27, 28, 29, 30, 31, 32, 0] j), (fun j => xgl 0 [33, 34, 35, 36, 0] j), (fun j => xgl 0 [4, 6, 37, 38, 39, 40, 41, 42, 43, 44, 45, 46, 47, 48, 49, 0] j), (fun j => xgl 0 [4, 7, 50, 0] j), (fun j => xgl 0 [51, 52, 53, 0] j), (fun j => xgl 0 [4, 6, 9, 54, 55, 56, 0] j), (fun j => xgl 0 [4, 9, 57, 58, 59, 60, 61] j), (fun j => xgl 0 [62, 0, 0] j), (fun j => xgl 0 [63, 64, 65, 66, 0, 0] j), (fun j => xgl 0 [0, 0, 67, 0, 68, 69, 70, 71, 72, 0, 73, 74, 75, 76, 77, 78, 79, 80, 81, 82, 83, 84, 0, 85, 86, 87, 88, 0, 89, 0, 90, 91, 92, 93, 94, 95, 96, 97, 98, 0, 99, 100, 101, 102, 0, 0, 103, 104, 105, 106, 107, 108, 109, 110, 111, 112, 0, 113] j), (fun _ => 12)],
  [(fun _ => 13)]]
def WI_l : List (List (Nat → Nat → Nat)) := [[(fun _ _ => 0), (fun _ _ => 0), (fun _ _ => 0), (fun _ _ => 0), (fun _ _ => 0), (fun _ _ => 0), (fun _ _ => 0), (fun _ _ => 0), (fun _ _ => 0), (fun _ _ => 0), (fun _ _ => 0), (fun _ _ => 0), (fun i _ => i), (fun i _ => i), (fun _ _ => 0), (fun _ j => j)],
  [(fun _ j => j)]]
def WT_l : List (List (Nat × Nat)) := [[(2, 0), (3, 0), (19, 0), (4, 0), (20, 0), (21, 0), (22, 0), (23, 0), (24, 0), (25, 0), (5, 0), (26, 0), (27, 0), (28, 0), (29, 0), (30, 0)],
  [(31, 0), (32, 0), (6, 0), (33, 0), (34, 0), (35, 0), (36, 0), (7, 0), (37, 0), (38, 0), (39, 0), (40, 0), (41, 0), (42, 0), (43, 0), (44, 0)],
  [(45, 0), (46, 0), (47, 0), (48, 0), (49, 0), (8, 0), (50, 0), (9, 0), (51, 0), (52, 0), (53, 0), (10, 0), (54, 0), (55, 0), (56, 0), (11, 0)],
  [(57, 0), (58, 0), (59, 0), (60, 0), (61, 0), (15, 0), (12, 0), (62, 0), (12, 1), (62, 1), (12, 2), (62, 2), (12, 3), (62, 3), (12, 4), (62, 4)],
  [(12, 5), (62, 5), (12, 6), (62, 6), (12, 7), (62, 7), (12, 8), (62, 8), (12, 9), (62, 9), (16, 0), (13, 0), (63, 0), (64, 0), (65, 0), (66, 0)],
  [(13, 1), (63, 1), (64, 1), (65, 1), (66, 1), (13, 2), (63, 2), (64, 2), (65, 2), (66, 2), (13, 3), (63, 3), (64, 3), (65, 3), (66, 3), (13, 4)],
  [(63, 4), (64, 4), (65, 4), (66, 4), (13, 5), (63, 5), (64, 5), (65, 5), (66, 5), (17, 0), (18, 0), (14, 0), (67, 0), (68, 0), (69, 0), (70, 0)],
  [(71, 0), (72, 0), (73, 0), (74, 0), (75, 0), (76, 0), (77, 0), (78, 0), (79, 0), (80, 0), (81, 0), (82, 0), (83, 0), (84, 0), (85, 0), (86, 0)],
  [(87, 0), (88, 0), (89, 0), (90, 0), (91, 0), (92, 0), (93, 0), (94, 0), (95, 0), (96, 0), (97, 0), (98, 0), (99, 0), (100, 0), (101, 0), (102, 0)],
  [(103, 0), (104, 0), (105, 0), (106, 0), (107, 0), (108, 0), (109, 0), (110, 0), (111, 0), (112, 0), (113, 0)]]
def WW : XW := (fun g => xg2 9 WK_l g, fun g => xg2 0 WN_l g, fun g j => xg2 (fun _ => 0) WG_l g j, fun g i j => xg2 (fun _ _ => 0) WI_l g i j, fun k => xg2 (0, 0) WT_l k, 155)
noncomputable abbrev Xf : Nat → Nat → Nat → List XS → List XS → XM → XR := Xx WW XP XML false
noncomputable abbrev Yf : Nat → Nat → List XS → XM → XR := Xc WW XP XML false
noncomputable abbrev Xt : Nat → Nat → Nat → List XS → List XS → XM → XR := Xx WW XP XML true
noncomputable abbrev Yt : Nat → Nat → List XS → XM → XR := Xc WW XP XML true
theorem P_X0_init : XP 0 = K_X0_init := rfl
theorem P_X0_begin : XP 1 = K_X0_begin := rfl
theorem P_X0_add : XP 2 = K_X0_add := rfl
theorem P_X0_has : XP 3 = K_X0_has := rfl
theorem P_X0_fits : XP 4 = K_X0_fits := rfl
theorem P_X0_baseOf : XP 5 = K_X0_baseOf := rfl
theorem P_X1_init : XP 6 = K_X1_init := rfl
theorem P_X1_begin : XP 7 = K_X1_begin := rfl
theorem P_X1_homeAt : XP 8 = K_X1_homeAt := rfl
theorem P_X1_isLaid : XP 9 = K_X1_isLaid := rfl
theorem P_X1_liesIn : XP 10 = K_X1_liesIn := rfl
theorem P_X1_hasAllHomes : XP 11 = K_X1_hasAllHomes := rfl
theorem P_X1_isWithin : XP 12 = K_X1_isWithin := rfl
theorem P_X1_lay : XP 13 = K_X1_lay := rfl
theorem P_X1_lift : XP 14 = K_X1_lift := rfl
theorem P_X1_againstPut : XP 15 = K_X1_againstPut := rfl
theorem P_X1_isCrowded : XP 16 = K_X1_isCrowded := rfl
theorem P_X1_againstPairs : XP 17 = K_X1_againstPairs := rfl
theorem P_X1_partner : XP 18 = K_X1_partner := rfl
theorem P_X1_againstBar : XP 19 = K_X1_againstBar := rfl
theorem P_X1_shut : XP 20 = K_X1_shut := rfl
theorem P_X1_againstAmong : XP 21 = K_X1_againstAmong := rfl
theorem P_X1_earliestBarInto : XP 22 = K_X1_earliestBarInto := rfl
theorem P_X1_narrow : XP 23 = K_X1_narrow := rfl
theorem P_X1_setOf : XP 24 = K_X1_setOf := rfl
theorem P_X1_isUnsettled : XP 25 = K_X1_isUnsettled := rfl
theorem P_X1_unsettled : XP 26 = K_X1_unsettled := rfl
theorem P_X1_againstPairing : XP 27 = K_X1_againstPairing := rfl
theorem P_X1_addPair : XP 28 = K_X1_addPair := rfl
theorem P_X1_hasMost : XP 29 = K_X1_hasMost := rfl
theorem P_X1_tellMost : XP 30 = K_X1_tellMost := rfl
theorem P_X1_putBehind : XP 31 = K_X1_putBehind := rfl
theorem P_X1_bulk : XP 32 = K_X1_bulk := rfl
theorem P_X1_bulkAlone : XP 33 = K_X1_bulkAlone := rfl
theorem P_X1_load : XP 34 = K_X1_load := rfl
theorem P_X2_init : XP 35 = K_X2_init := rfl
theorem P_X2_add : XP 36 = K_X2_add := rfl
theorem P_X2_has : XP 37 = K_X2_has := rfl
theorem P_X2_rowOf : XP 38 = K_X2_rowOf := rfl
theorem P_X2_holds : XP 39 = K_X2_holds := rfl
theorem P_X2_join : XP 40 = K_X2_join := rfl
theorem P_X2_merge : XP 41 = K_X2_merge := rfl
theorem P_X2_againstRelate : XP 42 = K_X2_againstRelate := rfl
theorem P_X2_earliestDeny : XP 43 = K_X2_earliestDeny := rfl
theorem P_X2_earliestRelate : XP 44 = K_X2_earliestRelate := rfl
theorem P_X2_heldBy : XP 45 = K_X2_heldBy := rfl
theorem P_X2_togetherBy : XP 46 = K_X2_togetherBy := rfl
theorem P_X2_walkFrom : XP 47 = K_X2_walkFrom := rfl
theorem P_X2_couples : XP 48 = K_X2_couples := rfl
theorem P_X3_init : XP 49 = K_X3_init := rfl
theorem P_X3_begin : XP 50 = K_X3_begin := rfl
theorem P_X3_write : XP 51 = K_X3_write := rfl
theorem P_X3_sortOf : XP 52 = K_X3_sortOf := rfl
theorem P_X3_leadsTo : XP 53 = K_X3_leadsTo := rfl
theorem P_X3_isTold : XP 54 = K_X3_isTold := rfl
theorem P_X3_toldIn : XP 55 = K_X3_toldIn := rfl
theorem P_X3_opposite : XP 56 = K_X3_opposite := rfl
theorem P_X3_tellExit : XP 57 = K_X3_tellExit := rfl
theorem P_X3_againstDoor : XP 58 = K_X3_againstDoor := rfl
theorem P_X3_tellDoor : XP 59 = K_X3_tellDoor := rfl
theorem P_X3_isPassable : XP 60 = K_X3_isPassable := rfl
theorem P_X3_walkFrom : XP 61 = K_X3_walkFrom := rfl
theorem P_X4_init : XP 62 = K_X4_init := rfl
theorem P_X4_areFull : XP 63 = K_X4_areFull := rfl
theorem P_X4_add : XP 64 = K_X4_add := rfl
theorem P_X4_earliest : XP 65 = K_X4_earliest := rfl
theorem P_X5_init : XP 66 = K_X5_init := rfl
theorem P_X5_ways : XP 67 = K_X5_ways := rfl
theorem P_X5_thingAt : XP 68 = K_X5_thingAt := rfl
theorem P_X5_takeLeastWay : XP 69 = K_X5_takeLeastWay := rfl
theorem P_X5_layFrom : XP 70 = K_X5_layFrom := rfl
theorem P_X5_lets : XP 71 = K_X5_lets := rfl
theorem P_X6_init : XP 72 = K_X6_init := rfl
theorem P_X6_begin : XP 73 = K_X6_begin := rfl
theorem P_X6_spans : XP 74 = K_X6_spans := rfl
theorem P_X7_init : XP 75 = K_X7_init := rfl
theorem P_X7_begin : XP 76 = K_X7_begin := rfl
theorem P_X7_hasCell : XP 77 = K_X7_hasCell := rfl
theorem P_X7_isBlank : XP 78 = K_X7_isBlank := rfl
theorem P_X7_told : XP 79 = K_X7_told := rfl
theorem P_X7_write : XP 80 = K_X7_write := rfl
theorem P_X7_wipe : XP 81 = K_X7_wipe := rfl
theorem P_X7_rowWith : XP 82 = K_X7_rowWith := rfl
theorem P_X7_order : XP 83 = K_X7_order := rfl
theorem P_X7_isAhead : XP 84 = K_X7_isAhead := rfl
theorem P_X7_swap : XP 85 = K_X7_swap := rfl
theorem P_X7_sum : XP 86 = K_X7_sum := rfl
theorem P_X7_filledIn : XP 87 = K_X7_filledIn := rfl
theorem P_X8_init : XP 88 = K_X8_init := rfl
theorem P_X8_add : XP 89 = K_X8_add := rfl
theorem P_X8_has : XP 90 = K_X8_has := rfl
theorem P_X8_all : XP 91 = K_X8_all := rfl
theorem P_X8_holders : XP 92 = K_X8_holders := rfl
theorem P_X8_isRoom : XP 93 = K_X8_isRoom := rfl
theorem P_X8_haveRoom : XP 94 = K_X8_haveRoom := rfl
theorem P_X8_isCarrier : XP 95 = K_X8_isCarrier := rfl
theorem P_X8_isHolder : XP 96 = K_X8_isHolder := rfl
theorem P_X8_hasLid : XP 97 = K_X8_hasLid := rfl
theorem P_X8_isFixed : XP 98 = K_X8_isFixed := rfl
theorem P_X8_liesInOne : XP 99 = K_X8_liesInOne := rfl
theorem P_X8_mayLieIn : XP 100 = K_X8_mayLieIn := rfl
theorem P_X8_worth : XP 101 = K_X8_worth := rfl
theorem P_X8_lid : XP 102 = K_X8_lid := rfl
theorem P_X9_init : XP 103 = K_X9_init := rfl
theorem P_X9_add : XP 104 = K_X9_add := rfl
theorem P_X9_has : XP 105 = K_X9_has := rfl
theorem P_X9_emptyCell : XP 106 = K_X9_emptyCell := rfl
theorem P_X9_knows : XP 107 = K_X9_knows := rfl
theorem P_X9_takes : XP 108 = K_X9_takes := rfl
theorem P_X9_isFor : XP 109 = K_X9_isFor := rfl
theorem P_X9_tellUsual : XP 110 = K_X9_tellUsual := rfl
theorem P_X9_tellGiven : XP 111 = K_X9_tellGiven := rfl
theorem P_X9_givenBy : XP 112 = K_X9_givenBy := rfl
theorem P_X9_givenCell : XP 113 = K_X9_givenCell := rfl
theorem P_X9_isGivenOtherwise : XP 114 = K_X9_isGivenOtherwise := rfl
theorem P_X9_valueOf : XP 115 = K_X9_valueOf := rfl
theorem P_X10_init : XP 116 = K_X10_init := rfl
theorem P_X10_begin : XP 117 = K_X10_begin := rfl
theorem P_X10_step : XP 118 = K_X10_step := rfl
theorem P_X11_init : XP 119 = K_X11_init := rfl
theorem P_X11_beginAnew : XP 120 = K_X11_beginAnew := rfl
theorem P_X11_faulted : XP 121 = K_X11_faulted := rfl
theorem P_X11_against : XP 122 = K_X11_against := rfl
theorem P_X11_inRange : XP 123 = K_X11_inRange := rfl
theorem P_X11_kind : XP 124 = K_X11_kind := rfl
theorem P_X11_is : XP 125 = K_X11_is := rfl
theorem P_X11_property : XP 126 = K_X11_property := rfl
theorem P_X11_usual : XP 127 = K_X11_usual := rfl
theorem P_X11_thing : XP 128 = K_X11_thing := rfl
theorem P_X11_put : XP 129 = K_X11_put := rfl
theorem P_X11_bar : XP 130 = K_X11_bar := rfl
theorem P_X11_give : XP 131 = K_X11_give := rfl
theorem P_X11_value : XP 132 = K_X11_value := rfl
theorem P_X11_given : XP 133 = K_X11_given := rfl
theorem P_X11_peek : XP 134 = K_X11_peek := rfl
theorem P_X11_place : XP 135 = K_X11_place := rfl
theorem P_X11_says : XP 136 = K_X11_says := rfl
theorem P_X11_saying : XP 137 = K_X11_saying := rfl
theorem P_X11_stride : XP 138 = K_X11_stride := rfl
theorem P_X11_follow : XP 139 = K_X11_follow := rfl
theorem P_X11_mark : XP 140 = K_X11_mark := rfl
theorem P_X11_remark : XP 141 = K_X11_remark := rfl
theorem P_X11_open : XP 142 = K_X11_open := rfl
theorem P_X11_among : XP 143 = K_X11_among := rfl
theorem P_X11_pair : XP 144 = K_X11_pair := rfl
theorem P_X11_most : XP 145 = K_X11_most := rfl
theorem P_X11_settle : XP 146 = K_X11_settle := rfl
theorem P_X11_set : XP 147 = K_X11_set := rfl
theorem P_X11_relation : XP 148 = K_X11_relation := rfl
theorem P_X11_relate : XP 149 = K_X11_relate := rfl
theorem P_X11_deny : XP 150 = K_X11_deny := rfl
theorem P_X11_related : XP 151 = K_X11_related := rfl
theorem P_X11_along : XP 152 = K_X11_along := rfl
theorem P_X11_next : XP 153 = K_X11_next := rfl
theorem P_X11_areRelatable : XP 154 = K_X11_areRelatable := rfl
theorem P_X11_exit : XP 155 = K_X11_exit := rfl
theorem P_X11_door : XP 156 = K_X11_door := rfl
theorem P_X11_leads : XP 157 = K_X11_leads := rfl
theorem P_X11_sort : XP 158 = K_X11_sort := rfl
theorem P_X11_route : XP 159 = K_X11_route := rfl
theorem P_X11_first : XP 160 = K_X11_first := rfl
theorem P_X11_shelf : XP 161 = K_X11_shelf := rfl
theorem P_X11_stand : XP 162 = K_X11_stand := rfl
theorem P_X11_shelfTakes : XP 163 = K_X11_shelfTakes := rfl
theorem P_X11_stands : XP 164 = K_X11_stands := rfl
theorem P_X11_haul : XP 165 = K_X11_haul := rfl
theorem P_X11_came : XP 166 = K_X11_came := rfl
theorem P_X11_table : XP 167 = K_X11_table := rfl
theorem P_X11_areLanes : XP 168 = K_X11_areLanes := rfl
theorem P_X11_fill : XP 169 = K_X11_fill := rfl
theorem P_X11_blank : XP 170 = K_X11_blank := rfl
theorem P_X11_read : XP 171 = K_X11_read := rfl
theorem P_X11_choose : XP 172 = K_X11_choose := rfl
theorem P_X11_rank : XP 173 = K_X11_rank := rfl
theorem P_X11_total : XP 174 = K_X11_total := rfl
theorem P_X11_mean : XP 175 = K_X11_mean := rfl
theorem P_X11_make : XP 176 = K_X11_make := rfl
theorem P_X11_addWord : XP 177 = K_X11_addWord := rfl
theorem P_X11_addWordsOfThing : XP 178 = K_X11_addWordsOfThing := rfl
theorem P_X11_addWordsOfRoom : XP 179 = K_X11_addWordsOfRoom := rfl
theorem P_X11_word : XP 180 = K_X11_word := rfl
theorem P_X11_digest : XP 181 = K_X11_digest := rfl
theorem P_X11_sentence : XP 182 = K_X11_sentence := rfl
theorem P_X11_count : XP 183 = K_X11_count := rfl
theorem P_X11_fault : XP 184 = K_X11_fault := rfl
theorem P_X11_clear : XP 185 = K_X11_clear := rfl
theorem P_X11_bit : XP 186 = K_X11_bit := rfl
theorem P_X11_toldBy : XP 187 = K_X11_toldBy := rfl
theorem P_X12_init : XP 188 = K_X12_init := rfl
theorem P_X12_in : XP 189 = K_X12_in := rfl
theorem P_X12_faulty : XP 190 = K_X12_faulty := rfl
theorem P_X12_begin : XP 191 = K_X12_begin := rfl
theorem P_X12_isKind : XP 192 = K_X12_isKind := rfl
theorem P_X12_isProperty : XP 193 = K_X12_isProperty := rfl
theorem P_X12_comesTo : XP 194 = K_X12_comesTo := rfl
theorem P_X12_baseOf : XP 195 = K_X12_baseOf := rfl
theorem P_X12_kind : XP 196 = K_X12_kind := rfl
theorem P_X12_is : XP 197 = K_X12_is := rfl
theorem P_X12_property : XP 198 = K_X12_property := rfl
theorem P_X12_cell : XP 199 = K_X12_cell := rfl
theorem P_X12_isUnknown : XP 200 = K_X12_isUnknown := rfl
theorem P_X12_isStored : XP 201 = K_X12_isStored := rfl
theorem P_X12_usual : XP 202 = K_X12_usual := rfl
theorem P_X12_isThing : XP 203 = K_X12_isThing := rfl
theorem P_X12_base : XP 204 = K_X12_base := rfl
theorem P_X12_isCarrier : XP 205 = K_X12_isCarrier := rfl
theorem P_X12_isHolder : XP 206 = K_X12_isHolder := rfl
theorem P_X12_isFixed : XP 207 = K_X12_isFixed := rfl
theorem P_X12_isBackdrop : XP 208 = K_X12_isBackdrop := rfl
theorem P_X12_thing : XP 209 = K_X12_thing := rfl
theorem P_X12_tell : XP 210 = K_X12_tell := rfl
theorem P_X12_against : XP 211 = K_X12_against := rfl
theorem P_X12_first : XP 212 = K_X12_first := rfl
theorem P_X12_latestAmong : XP 213 = K_X12_latestAmong := rfl
theorem P_X12_isWithin : XP 214 = K_X12_isWithin := rfl
theorem P_X12_placeOf : XP 215 = K_X12_placeOf := rfl
theorem P_X12_nth : XP 216 = K_X12_nth := rfl
theorem P_X12_held : XP 217 = K_X12_held := rfl
theorem P_X12_pairAgainst : XP 218 = K_X12_pairAgainst := rfl
theorem P_X12_putAgainst : XP 219 = K_X12_putAgainst := rfl
theorem P_X12_lies : XP 220 = K_X12_lies := rfl
theorem P_X12_put : XP 221 = K_X12_put := rfl
theorem P_X12_bar : XP 222 = K_X12_bar := rfl
theorem P_X12_give : XP 223 = K_X12_give := rfl
theorem P_X12_valueOf : XP 224 = K_X12_valueOf := rfl
theorem P_X12_value : XP 225 = K_X12_value := rfl
theorem P_X12_given : XP 226 = K_X12_given := rfl
theorem P_X12_peek : XP 227 = K_X12_peek := rfl
theorem P_X12_place : XP 228 = K_X12_place := rfl
theorem P_X12_loadOf : XP 229 = K_X12_loadOf := rfl
theorem P_X12_bulkOf : XP 230 = K_X12_bulkOf := rfl
theorem P_X12_worthOf : XP 231 = K_X12_worthOf := rfl
theorem P_X12_lidOf : XP 232 = K_X12_lidOf := rfl
theorem P_X12_said : XP 233 = K_X12_said := rfl
theorem P_X12_says : XP 234 = K_X12_says := rfl
theorem P_X12_follow : XP 235 = K_X12_follow := rfl
theorem P_X12_hasOwn : XP 236 = K_X12_hasOwn := rfl
theorem P_X12_mark : XP 237 = K_X12_mark := rfl
theorem P_X12_remark : XP 238 = K_X12_remark := rfl
theorem P_X12_open : XP 239 = K_X12_open := rfl
theorem P_X12_among : XP 240 = K_X12_among := rfl
theorem P_X12_pair : XP 241 = K_X12_pair := rfl
theorem P_X12_most : XP 242 = K_X12_most := rfl
theorem P_X12_isUnsettled : XP 243 = K_X12_isUnsettled := rfl
theorem P_X12_unsettled : XP 244 = K_X12_unsettled := rfl
theorem P_X12_keeps : XP 245 = K_X12_keeps := rfl
theorem P_X12_lowest : XP 246 = K_X12_lowest := rfl
theorem P_X12_many : XP 247 = K_X12_many := rfl
theorem P_X12_goesOn : XP 248 = K_X12_goesOn := rfl
theorem P_X12_settle : XP 249 = K_X12_settle := rfl
theorem P_X12_set : XP 250 = K_X12_set := rfl
theorem P_X12_isRelation : XP 251 = K_X12_isRelation := rfl
theorem P_X12_groupUp : XP 252 = K_X12_groupUp := rfl
theorem P_X12_told : XP 253 = K_X12_told := rfl
theorem P_X12_earlier : XP 254 = K_X12_earlier := rfl
theorem P_X12_hasBy : XP 255 = K_X12_hasBy := rfl
theorem P_X12_has : XP 256 = K_X12_has := rfl
theorem P_X12_deniedBy : XP 257 = K_X12_deniedBy := rfl
theorem P_X12_oneOnly : XP 258 = K_X12_oneOnly := rfl
theorem P_X12_relation : XP 259 = K_X12_relation := rfl
theorem P_X12_isCouple : XP 260 = K_X12_isCouple := rfl
theorem P_X12_relate : XP 261 = K_X12_relate := rfl
theorem P_X12_deny : XP 262 = K_X12_deny := rfl
theorem P_X12_related : XP 263 = K_X12_related := rfl
theorem P_X12_couples : XP 264 = K_X12_couples := rfl
theorem P_X12_goBack : XP 265 = K_X12_goBack := rfl
theorem P_X12_along : XP 266 = K_X12_along := rfl
theorem P_X12_next : XP 267 = K_X12_next := rfl
theorem P_X12_isRoom : XP 268 = K_X12_isRoom := rfl
theorem P_X12_lead : XP 269 = K_X12_lead := rfl
theorem P_X12_exit : XP 270 = K_X12_exit := rfl
theorem P_X12_door : XP 271 = K_X12_door := rfl
theorem P_X12_leads : XP 272 = K_X12_leads := rfl
theorem P_X12_sort : XP 273 = K_X12_sort := rfl
theorem P_X12_goes : XP 274 = K_X12_goes := rfl
theorem P_X12_routeBack : XP 275 = K_X12_routeBack := rfl
theorem P_X12_route : XP 276 = K_X12_route := rfl
theorem P_X12_first_ : XP 277 = K_X12_first_ := rfl
theorem P_X12_isShelf : XP 278 = K_X12_isShelf := rfl
theorem P_X12_takes : XP 279 = K_X12_takes := rfl
theorem P_X12_shelf : XP 280 = K_X12_shelf := rfl
theorem P_X12_stand : XP 281 = K_X12_stand := rfl
theorem P_X12_stands : XP 282 = K_X12_stands := rfl
theorem P_X12_haul : XP 283 = K_X12_haul := rfl
theorem P_X12_came : XP 284 = K_X12_came := rfl
theorem P_X12_isTable : XP 285 = K_X12_isTable := rfl
theorem P_X12_table : XP 286 = K_X12_table := rfl
theorem P_X12_isColumn : XP 287 = K_X12_isColumn := rfl
theorem P_X12_isCell : XP 288 = K_X12_isCell := rfl
theorem P_X12_cellAt : XP 289 = K_X12_cellAt := rfl
theorem P_X12_fill : XP 290 = K_X12_fill := rfl
theorem P_X12_blank : XP 291 = K_X12_blank := rfl
theorem P_X12_read : XP 292 = K_X12_read := rfl
theorem P_X12_choose : XP 293 = K_X12_choose := rfl
theorem P_X12_isAhead : XP 294 = K_X12_isAhead := rfl
theorem P_X12_rank : XP 295 = K_X12_rank := rfl
theorem P_X12_filledIn : XP 296 = K_X12_filledIn := rfl
theorem P_X12_sumOf : XP 297 = K_X12_sumOf := rfl
theorem P_X12_total : XP 298 = K_X12_total := rfl
theorem P_X12_mean : XP 299 = K_X12_mean := rfl
theorem P_X12_add : XP 300 = K_X12_add := rfl
theorem P_X12_make : XP 301 = K_X12_make := rfl
theorem P_X12_word : XP 302 = K_X12_word := rfl
theorem P_X12_digest : XP 303 = K_X12_digest := rfl
theorem P_X12_sentence : XP 304 = K_X12_sentence := rfl
theorem P_X12_count : XP 305 = K_X12_count := rfl
theorem P_X12_fault : XP 306 = K_X12_fault := rfl
theorem P_X12_clear : XP 307 = K_X12_clear := rfl
theorem P_J13_bitCount_95d88 : XP 308 = K_J13_bitCount_95d88 := rfl
theorem P_J9_max_7cf53 : XP 309 = K_J9_max_7cf53 := rfl
theorem P_L_law : XP 310 = K_L_law := rfl
end
section
/-! numbers of the machine and of the abstract machine -/
def c32 (x : Int) : Prop := -2147483648 ≤ x ∧ x < 2147483648
def c64 (x : Int) : Prop := -9223372036854775808 ≤ x ∧ x < 9223372036854775808
theorem w32_c (x : Int) : c32 (w32 x) := by unfold c32 w32; omega
theorem w64_c (x : Int) : c64 (w64 x) := by unfold c64 w64; omega
theorem w8_c (x : Int) : c32 (w8 x) := by unfold c32 w8; omega
theorem w16_c (x : Int) : c32 (w16 x) := by unfold c32 w16; omega
theorem c16_c (x : Int) : c32 (c16 x) := by unfold c32 c16; omega
theorem c32_of (x : Int32) : c32 x.toInt := ⟨x.le_toInt, x.toInt_lt⟩
theorem c64_of (x : Int64) : c64 x.toInt := ⟨x.le_toInt, x.toInt_lt⟩
theorem c32_64 {x : Int} (h : c32 x) : c64 x := by unfold c32 at h; unfold c64; omega
theorem n32_id {x : Int} (h : c32 x) : (Int32.ofInt x).toInt = x := Int32.toInt_ofInt_of_le h.1 h.2
theorem n64_id {x : Int} (h : c64 x) : (Int64.ofInt x).toInt = x := Int64.toInt_ofInt_of_le h.1 h.2
theorem w32_id {x : Int} (h : c32 x) : w32 x = x := by unfold c32 at h; unfold w32; omega
theorem w64_id {x : Int} (h : c64 x) : w64 x = x := by unfold c64 at h; unfold w64; omega
theorem n32_w (x : Int) : Int32.ofInt (w32 x) = Int32.ofInt x := by
  apply Int32.toInt_inj.mp
  rw [Int32.toInt_ofInt, Int32.toInt_ofInt]
  show (w32 x).bmod 4294967296 = x.bmod 4294967296
  unfold w32 Int.bmod
  dsimp only
  split <;> split <;> omega
theorem n64_w (x : Int) : Int64.ofInt (w64 x) = Int64.ofInt x := by
  apply Int64.toInt_inj.mp
  rw [Int64.toInt_ofInt, Int64.toInt_ofInt]
  show (w64 x).bmod 18446744073709551616 = x.bmod 18446744073709551616
  unfold w64 Int.bmod
  dsimp only
  split <;> split <;> omega
theorem n32_inj {x y : Int} (hx : c32 x) (hy : c32 y) : Int32.ofInt x = Int32.ofInt y ↔ x = y := by
  constructor
  · intro h
    have := congrArg Int32.toInt h
    rwa [n32_id hx, n32_id hy] at this
  · intro h; rw [h]
theorem n64_inj {x y : Int} (hx : c64 x) (hy : c64 y) : Int64.ofInt x = Int64.ofInt y ↔ x = y := by
  constructor
  · intro h
    have := congrArg Int64.toInt h
    rwa [n64_id hx, n64_id hy] at this
  · intro h; rw [h]
theorem n32_lt {x y : Int} (hx : c32 x) (hy : c32 y) : Int32.ofInt x < Int32.ofInt y ↔ x < y := by
  rw [Int32.lt_iff_toInt_lt, n32_id hx, n32_id hy]
theorem n32_le {x y : Int} (hx : c32 x) (hy : c32 y) : Int32.ofInt x ≤ Int32.ofInt y ↔ x ≤ y := by
  rw [Int32.le_iff_toInt_le, n32_id hx, n32_id hy]
theorem n64_lt {x y : Int} (hx : c64 x) (hy : c64 y) : Int64.ofInt x < Int64.ofInt y ↔ x < y := by
  rw [Int64.lt_iff_toInt_lt, n64_id hx, n64_id hy]
theorem n32_nat {x : Int} (hx : c32 x) : (Int32.ofInt x).toNatClampNeg = x.toNat := by
  show (Int32.ofInt x).toInt.toNat = _
  rw [n32_id hx]
theorem n32_in {x : Int} (hx : c32 x) {n : Nat} (h : 0 ≤ x ∧ x < (n : Int)) : vp_in (Int32.ofInt x) n := by
  unfold vp_in
  rw [n32_nat hx]
  intro q
  rcases q with q | q
  · rw [show (0 : Int32) = Int32.ofInt 0 from rfl, n32_lt hx (by unfold c32; omega)] at q
    omega
  · omega
theorem n32_div {x y : Int} (hx : c32 x) (hy : c32 y) : Int32.ofInt x / Int32.ofInt y = Int32.ofInt (w32 (Int.tdiv x y)) := by
  apply Int32.toInt_inj.mp
  rw [Int32.toInt_div, n32_id hx, n32_id hy, n32_w, Int32.toInt_ofInt]
theorem n64_div {x y : Int} (hx : c64 x) (hy : c64 y) : Int64.ofInt x / Int64.ofInt y = Int64.ofInt (w64 (Int.tdiv x y)) := by
  apply Int64.toInt_inj.mp
  rw [Int64.toInt_div, n64_id hx, n64_id hy, n64_w, Int64.toInt_ofInt]
theorem tmod_c {x y : Int} (hx : c32 x) : c32 (Int.tmod x y) := by
  unfold c32 at hx ⊢
  have h1 := Int.natAbs_tmod x y
  have h2 := Nat.mod_le x.natAbs y.natAbs
  by_cases h0 : 0 ≤ x
  · have h3 := Int.tmod_nonneg y h0
    omega
  · have h3 := Int.tmod_nonneg y (show 0 ≤ -x by omega)
    rw [Int.neg_tmod] at h3
    omega
theorem n32_rem {x y : Int} (hx : c32 x) (hy : c32 y) : Int32.ofInt x - Int32.ofInt x / Int32.ofInt y * Int32.ofInt y = Int32.ofInt (Int.tmod x y) := by
  rw [n32_div hx hy, n32_w, ← Int32.ofInt_mul, ← Int32.ofInt_sub]
  congr 1
  have := Int.tmod_add_tdiv_mul x y
  omega
theorem n32_toInt64 {x : Int} (hx : c32 x) : (Int32.ofInt x).toInt64 = Int64.ofInt x := by
  apply Int64.toInt_inj.mp
  rw [Int32.toInt_toInt64, n32_id hx, n64_id (c32_64 hx)]
theorem n64_toInt32 {x : Int} : (Int64.ofInt x).toInt32 = Int32.ofInt (w32 x) := by
  rw [n32_w]
  exact Int64.toInt32_ofInt
theorem n32_i2b {x : Int} : (Int32.ofInt x).toInt8.toInt32 = Int32.ofInt (w8 x) := by
  apply Int32.toInt_inj.mp
  rw [n32_id (w8_c x), Int32.toInt8_ofInt, Int8.toInt_toInt32, Int8.toInt_ofInt]
  show x.bmod 256 = _
  unfold w8 Int.bmod
  dsimp only
  split <;> omega
theorem n32_i2s {x : Int} : (Int32.ofInt x).toInt16.toInt32 = Int32.ofInt (w16 x) := by
  apply Int32.toInt_inj.mp
  rw [n32_id (w16_c x), Int32.toInt16_ofInt, Int16.toInt_toInt32, Int16.toInt_ofInt]
  show x.bmod 65536 = _
  unfold w16 Int.bmod
  dsimp only
  split <;> omega
theorem iAnd_c (x y : Int) : c32 (iAnd x y) := c32_of _
theorem iOr_c (x y : Int) : c32 (iOr x y) := c32_of _
theorem iXor_c (x y : Int) : c32 (iXor x y) := c32_of _
theorem lAnd_c (x y : Int) : c64 (lAnd x y) := c64_of _
theorem lOr_c (x y : Int) : c64 (lOr x y) := c64_of _
theorem lXor_c (x y : Int) : c64 (lXor x y) := c64_of _
theorem lShl_c (x y : Int) : c64 (lShl x y) := w64_c _
theorem lUshr_c (x y : Int) : c64 (lUshr x y) := w64_c _
theorem fF2L_c (x : Int) : c64 (fF2L x) := c64_of _
theorem fD2L_c (x : Int) : c64 (fD2L x) := c64_of _
theorem fDcmp_c (op : CmpOp) (x y : Int) : c32 (fDcmp op x y) := c32_of _
theorem cmp3_c (x y : Int) : c32 (cmp3 x y) := by unfold cmp3 c32; split <;> (try split) <;> omega
theorem n32_i2c {x : Int} : ((Int32.ofInt x).toUInt32 % 65536).toInt32 = Int32.ofInt (c16 x) := by
  have h1 : ((Int32.ofInt x).toUInt32 % 65536).toNat = (x % 4294967296).toNat % 65536 := by
    rw [UInt32.toNat_mod]
    show (BitVec.ofInt 32 x).toNat % 65536 = _
    rw [BitVec.toNat_ofInt]
    rfl
  have h2 : (Int32.ofInt x).toUInt32 % 65536 = UInt32.ofNat (c16 x).toNat := by
    apply UInt32.toNat_inj.mp
    rw [h1]
    show _ = (BitVec.ofNat 32 (c16 x).toNat).toNat
    rw [BitVec.toNat_ofNat]
    unfold c16
    omega
  rw [h2]
  show UInt32.toInt32 (UInt32.ofNat _) = _
  rw [show c16 x = (((c16 x).toNat : Nat) : Int) by unfold c16; omega, Int32.ofInt_eq_ofNat]
  rfl
theorem n64_63 {y : Int} (hy : c32 y) : ((Int32.ofInt y).toInt64 &&& 63).toBitVec.toNat = (y % 64).toNat := by
  rw [n32_toInt64 hy]
  show (BitVec.ofInt 64 y &&& 63#64).toNat = _
  rw [BitVec.toNat_and, BitVec.toNat_ofInt]
  show (y % 18446744073709551616).toNat &&& (2 ^ 6 - 1) = _
  rw [Nat.and_two_pow_sub_one_eq_mod]
  omega
theorem n64_shl {x y : Int} (hy : c32 y) : Int64.ofInt x <<< ((Int32.ofInt y).toInt64 &&& 63) = Int64.ofInt (lShl x y) := by
  have h0 := n64_63 hy
  have hk : (y % 64).toNat < 64 := by omega
  have h1 : (((Int32.ofInt y).toInt64 &&& 63).toBitVec.smod 64).toNat = (y % 64).toNat := by
    generalize ((Int32.ofInt y).toInt64 &&& 63).toBitVec = v at h0
    have hv : v = BitVec.ofNat 64 (y % 64).toNat := by
      apply BitVec.eq_of_toNat_eq
      rw [h0, BitVec.toNat_ofNat]
      omega
    rw [hv]
    generalize (y % 64).toNat = k at hk
    exact (show ∀ k : Fin 64, ((BitVec.ofNat 64 k.val).smod 64).toNat = k.val by decide +kernel) ⟨k, hk⟩
  apply Int64.toBitVec_inj.mp
  show BitVec.ofInt 64 x <<< (((Int32.ofInt y).toInt64 &&& 63).toBitVec.smod 64).toNat = _
  rw [h1, BitVec.shiftLeft_eq_mul_twoPow]
  unfold lShl
  rw [n64_w]
  show _ = BitVec.ofInt 64 (x * 2 ^ (y % 64).toNat)
  rw [BitVec.ofInt_mul]
  congr 1
  apply BitVec.eq_of_toNat_eq
  rw [BitVec.toNat_twoPow, BitVec.toNat_ofInt]
  have : ((2 : Int) ^ (y % 64).toNat) = ((2 ^ (y % 64).toNat : Nat) : Int) := by rw [Int.natCast_pow]; rfl
  rw [this, ← Int.natCast_emod, Int.toNat_natCast]
theorem n64_ushr {x y : Int} (hy : c32 y) : ((Int64.ofInt x).toUInt64 >>> ((Int32.ofInt y).toInt64.toUInt64 &&& Int64.toUInt64 63)).toInt64 = Int64.ofInt (lUshr x y) := by
  have h1 : ((Int64.ofInt x).toUInt64 >>> ((Int32.ofInt y).toInt64.toUInt64 &&& Int64.toUInt64 63)).toNat = (x % 18446744073709551616).toNat / 2 ^ (y % 64).toNat := by
    rw [UInt64.toNat_shiftRight]
    have h2 : ((Int32.ofInt y).toInt64.toUInt64 &&& Int64.toUInt64 63).toNat = (y % 64).toNat := n64_63 hy
    rw [h2, show ((Int64.ofInt x).toUInt64).toNat = (x % 18446744073709551616).toNat by
      show (BitVec.ofInt 64 x).toNat = _
      rw [BitVec.toNat_ofInt]
      rfl, Nat.shiftRight_eq_div_pow, Nat.mod_eq_of_lt (by omega)]
  generalize (Int64.ofInt x).toUInt64 >>> ((Int32.ofInt y).toInt64.toUInt64 &&& Int64.toUInt64 63) = u at h1 ⊢
  have h3 : u.toInt64 = Int64.ofInt (u.toNat : Int) := by
    rw [Int64.ofInt_eq_ofNat]
    apply Int64.toBitVec_inj.mp
    show u.toBitVec = BitVec.ofNat 64 u.toNat
    apply BitVec.eq_of_toNat_eq
    rw [BitVec.toNat_ofNat]
    exact (Nat.mod_eq_of_lt u.toBitVec.isLt).symm
  rw [h3, h1]
  unfold lUshr
  rw [n64_w]
  congr 1
  rw [Int.natCast_ediv, Int.natCast_pow, Int.toNat_of_nonneg (by omega)]
  rfl
end
section
-- ===== PART A: goes FIRST, ahead of the names: the tables' words, and 'selects' of the private methods out of them =====
/-- a private method of a class that the tables say can be made, by its rows of tables_1 -/
def lw_okq (q : MethodName × Nat) : Prop := (q.1.cls ≠ "java/lang/invoke/MethodHandle" ∧ q.1.cls ≠ "java/lang/invoke/VarHandle") ∧ Cond.instantiable q.1.cls q.2 ∈ tables_1 ∧ Cond.privateMethod q.1 ∈ tables_1 ∧ Cond.instanceMethod q.1 ∈ tables_1
theorem lw_p0 : lw_okq (⟨"WorldMake", "beginAnew", "()V"⟩, 17) := ⟨⟨by decide +kernel, by decide +kernel⟩, List.mem_of_getElem? (i := 17) (by decide +kernel), List.mem_of_getElem? (i := 369) (by decide +kernel), List.mem_of_getElem? (i := 370) (by decide +kernel)⟩
theorem lw_p1 : lw_okq (⟨"WorldMake$Values", "emptyCell", "(I)J"⟩, 10) := ⟨⟨by decide +kernel, by decide +kernel⟩, List.mem_of_getElem? (i := 88) (by decide +kernel), List.mem_of_getElem? (i := 466) (by decide +kernel), List.mem_of_getElem? (i := 467) (by decide +kernel)⟩
theorem lw_p2 : lw_okq (⟨"WorldMake", "faulted", "(I)I"⟩, 17) := ⟨⟨by decide +kernel, by decide +kernel⟩, List.mem_of_getElem? (i := 17) (by decide +kernel), List.mem_of_getElem? (i := 493) (by decide +kernel), List.mem_of_getElem? (i := 494) (by decide +kernel)⟩
theorem lw_p3 : lw_okq (⟨"WorldMake$Rooms", "write", "(IIIII)V"⟩, 7) := ⟨⟨by decide +kernel, by decide +kernel⟩, List.mem_of_getElem? (i := 294) (by decide +kernel), List.mem_of_getElem? (i := 521) (by decide +kernel), List.mem_of_getElem? (i := 522) (by decide +kernel)⟩
theorem lw_p4 : lw_okq (⟨"WorldMake$Things", "isCarrier", "(I)Z"⟩, 8) := ⟨⟨by decide +kernel, by decide +kernel⟩, List.mem_of_getElem? (i := 41) (by decide +kernel), List.mem_of_getElem? (i := 547) (by decide +kernel), List.mem_of_getElem? (i := 548) (by decide +kernel)⟩
theorem lw_p5 : lw_okq (⟨"WorldMake$Places", "isLaid", "(I)Z"⟩, 16) := ⟨⟨by decide +kernel, by decide +kernel⟩, List.mem_of_getElem? (i := 164) (by decide +kernel), List.mem_of_getElem? (i := 580) (by decide +kernel), List.mem_of_getElem? (i := 581) (by decide +kernel)⟩
theorem lw_p6 : lw_okq (⟨"WorldMake$Places", "partner", "(II)I"⟩, 16) := ⟨⟨by decide +kernel, by decide +kernel⟩, List.mem_of_getElem? (i := 164) (by decide +kernel), List.mem_of_getElem? (i := 603) (by decide +kernel), List.mem_of_getElem? (i := 604) (by decide +kernel)⟩
theorem lw_p7 : lw_okq (⟨"WorldMake", "saying", "(II)I"⟩, 17) := ⟨⟨by decide +kernel, by decide +kernel⟩, List.mem_of_getElem? (i := 17) (by decide +kernel), List.mem_of_getElem? (i := 688) (by decide +kernel), List.mem_of_getElem? (i := 689) (by decide +kernel)⟩
theorem lw_p8 : lw_okq (⟨"WorldMake$Places", "bulkAlone", "(I)I"⟩, 16) := ⟨⟨by decide +kernel, by decide +kernel⟩, List.mem_of_getElem? (i := 164) (by decide +kernel), List.mem_of_getElem? (i := 701) (by decide +kernel), List.mem_of_getElem? (i := 702) (by decide +kernel)⟩
theorem lw_p9 : lw_okq (⟨"WorldMake", "stride", "(I)I"⟩, 17) := ⟨⟨by decide +kernel, by decide +kernel⟩, List.mem_of_getElem? (i := 17) (by decide +kernel), List.mem_of_getElem? (i := 718) (by decide +kernel), List.mem_of_getElem? (i := 719) (by decide +kernel)⟩
theorem lw_p10 : lw_okq (⟨"WorldMake$Places", "earliestBarInto", "(IJ)I"⟩, 16) := ⟨⟨by decide +kernel, by decide +kernel⟩, List.mem_of_getElem? (i := 164) (by decide +kernel), List.mem_of_getElem? (i := 758) (by decide +kernel), List.mem_of_getElem? (i := 759) (by decide +kernel)⟩
theorem lw_p11 : lw_okq (⟨"WorldMake$Settler", "layFrom", "(II)Z"⟩, 4) := ⟨⟨by decide +kernel, by decide +kernel⟩, List.mem_of_getElem? (i := 220) (by decide +kernel), List.mem_of_getElem? (i := 825) (by decide +kernel), List.mem_of_getElem? (i := 826) (by decide +kernel)⟩
theorem lw_p12 : lw_okq (⟨"WorldMake$Settler", "lets", "(II)Z"⟩, 4) := ⟨⟨by decide +kernel, by decide +kernel⟩, List.mem_of_getElem? (i := 220) (by decide +kernel), List.mem_of_getElem? (i := 830) (by decide +kernel), List.mem_of_getElem? (i := 831) (by decide +kernel)⟩
theorem lw_p13 : lw_okq (⟨"WorldMake", "areRelatable", "(III)Z"⟩, 17) := ⟨⟨by decide +kernel, by decide +kernel⟩, List.mem_of_getElem? (i := 17) (by decide +kernel), List.mem_of_getElem? (i := 864) (by decide +kernel), List.mem_of_getElem? (i := 865) (by decide +kernel)⟩
theorem lw_p14 : lw_okq (⟨"WorldMake$Relations", "rowOf", "(II)J"⟩, 7) := ⟨⟨by decide +kernel, by decide +kernel⟩, List.mem_of_getElem? (i := 264) (by decide +kernel), List.mem_of_getElem? (i := 877) (by decide +kernel), List.mem_of_getElem? (i := 878) (by decide +kernel)⟩
theorem lw_p15 : lw_okq (⟨"WorldMake$Relations", "earliestDeny", "(III)I"⟩, 7) := ⟨⟨by decide +kernel, by decide +kernel⟩, List.mem_of_getElem? (i := 264) (by decide +kernel), List.mem_of_getElem? (i := 885) (by decide +kernel), List.mem_of_getElem? (i := 886) (by decide +kernel)⟩
def lw_privs_1 : List (MethodName × Nat) := [(⟨"WorldMake", "beginAnew", "()V"⟩, 17), (⟨"WorldMake$Values", "emptyCell", "(I)J"⟩, 10), (⟨"WorldMake", "faulted", "(I)I"⟩, 17), (⟨"WorldMake$Rooms", "write", "(IIIII)V"⟩, 7), (⟨"WorldMake$Things", "isCarrier", "(I)Z"⟩, 8), (⟨"WorldMake$Places", "isLaid", "(I)Z"⟩, 16), (⟨"WorldMake$Places", "partner", "(II)I"⟩, 16), (⟨"WorldMake", "saying", "(II)I"⟩, 17), (⟨"WorldMake$Places", "bulkAlone", "(I)I"⟩, 16), (⟨"WorldMake", "stride", "(I)I"⟩, 17), (⟨"WorldMake$Places", "earliestBarInto", "(IJ)I"⟩, 16), (⟨"WorldMake$Settler", "layFrom", "(II)Z"⟩, 4), (⟨"WorldMake$Settler", "lets", "(II)Z"⟩, 4), (⟨"WorldMake", "areRelatable", "(III)Z"⟩, 17), (⟨"WorldMake$Relations", "rowOf", "(II)J"⟩, 7), (⟨"WorldMake$Relations", "earliestDeny", "(III)I"⟩, 7)]
theorem lw_r1 : ∀ q ∈ lw_privs_1, lw_okq q := List.forall_mem_cons.mpr ⟨lw_p0, List.forall_mem_cons.mpr ⟨lw_p1, List.forall_mem_cons.mpr ⟨lw_p2, List.forall_mem_cons.mpr ⟨lw_p3, List.forall_mem_cons.mpr ⟨lw_p4, List.forall_mem_cons.mpr ⟨lw_p5, List.forall_mem_cons.mpr ⟨lw_p6, List.forall_mem_cons.mpr ⟨lw_p7, List.forall_mem_cons.mpr ⟨lw_p8, List.forall_mem_cons.mpr ⟨lw_p9, List.forall_mem_cons.mpr ⟨lw_p10, List.forall_mem_cons.mpr ⟨lw_p11, List.forall_mem_cons.mpr ⟨lw_p12, List.forall_mem_cons.mpr ⟨lw_p13, List.forall_mem_cons.mpr ⟨lw_p14, List.forall_mem_cons.mpr ⟨lw_p15, fun _ h => absurd h List.not_mem_nil⟩⟩⟩⟩⟩⟩⟩⟩⟩⟩⟩⟩⟩⟩⟩⟩
theorem lw_p16 : lw_okq (⟨"WorldMake$Relations", "earliestRelate", "(III)I"⟩, 7) := ⟨⟨by decide +kernel, by decide +kernel⟩, List.mem_of_getElem? (i := 264) (by decide +kernel), List.mem_of_getElem? (i := 889) (by decide +kernel), List.mem_of_getElem? (i := 890) (by decide +kernel)⟩
theorem lw_p17 : lw_okq (⟨"WorldMake$Relations", "togetherBy", "(III)I"⟩, 7) := ⟨⟨by decide +kernel, by decide +kernel⟩, List.mem_of_getElem? (i := 264) (by decide +kernel), List.mem_of_getElem? (i := 909) (by decide +kernel), List.mem_of_getElem? (i := 910) (by decide +kernel)⟩
theorem lw_p18 : lw_okq (⟨"WorldMake$Rooms", "isPassable", "(IIZ)Z"⟩, 7) := ⟨⟨by decide +kernel, by decide +kernel⟩, List.mem_of_getElem? (i := 294) (by decide +kernel), List.mem_of_getElem? (i := 996) (by decide +kernel), List.mem_of_getElem? (i := 997) (by decide +kernel)⟩
theorem lw_p19 : lw_okq (⟨"WorldMake", "shelfTakes", "(LWorldMake$Shelf;I)Z"⟩, 17) := ⟨⟨by decide +kernel, by decide +kernel⟩, List.mem_of_getElem? (i := 17) (by decide +kernel), List.mem_of_getElem? (i := 1018) (by decide +kernel), List.mem_of_getElem? (i := 1019) (by decide +kernel)⟩
theorem lw_p20 : lw_okq (⟨"WorldMake$Table", "isAhead", "(IIIZ)Z"⟩, 6) := ⟨⟨by decide +kernel, by decide +kernel⟩, List.mem_of_getElem? (i := 343) (by decide +kernel), List.mem_of_getElem? (i := 1101) (by decide +kernel), List.mem_of_getElem? (i := 1102) (by decide +kernel)⟩
theorem lw_p21 : lw_okq (⟨"WorldMake$Table", "swap", "(II)V"⟩, 6) := ⟨⟨by decide +kernel, by decide +kernel⟩, List.mem_of_getElem? (i := 343) (by decide +kernel), List.mem_of_getElem? (i := 1105) (by decide +kernel), List.mem_of_getElem? (i := 1106) (by decide +kernel)⟩
theorem lw_p22 : lw_okq (⟨"WorldMake", "addWord", "(I)V"⟩, 17) := ⟨⟨by decide +kernel, by decide +kernel⟩, List.mem_of_getElem? (i := 17) (by decide +kernel), List.mem_of_getElem? (i := 1133) (by decide +kernel), List.mem_of_getElem? (i := 1134) (by decide +kernel)⟩
theorem lw_p23 : lw_okq (⟨"WorldMake", "addWordsOfThing", "(I)V"⟩, 17) := ⟨⟨by decide +kernel, by decide +kernel⟩, List.mem_of_getElem? (i := 17) (by decide +kernel), List.mem_of_getElem? (i := 1137) (by decide +kernel), List.mem_of_getElem? (i := 1138) (by decide +kernel)⟩
theorem lw_p24 : lw_okq (⟨"WorldMake", "addWordsOfRoom", "(I)V"⟩, 17) := ⟨⟨by decide +kernel, by decide +kernel⟩, List.mem_of_getElem? (i := 17) (by decide +kernel), List.mem_of_getElem? (i := 1141) (by decide +kernel), List.mem_of_getElem? (i := 1142) (by decide +kernel)⟩
theorem lw_p25 : lw_okq (⟨"WorldMakeModel", "begin", "()V"⟩, 58) := ⟨⟨by decide +kernel, by decide +kernel⟩, List.mem_of_getElem? (i := 1177) (by decide +kernel), List.mem_of_getElem? (i := 1183) (by decide +kernel), List.mem_of_getElem? (i := 1184) (by decide +kernel)⟩
theorem lw_p26 : lw_okq (⟨"WorldMakeModel", "isKind", "(I)Z"⟩, 58) := ⟨⟨by decide +kernel, by decide +kernel⟩, List.mem_of_getElem? (i := 1177) (by decide +kernel), List.mem_of_getElem? (i := 1367) (by decide +kernel), List.mem_of_getElem? (i := 1368) (by decide +kernel)⟩
theorem lw_p27 : lw_okq (⟨"WorldMakeModel", "comesTo", "(II)Z"⟩, 58) := ⟨⟨by decide +kernel, by decide +kernel⟩, List.mem_of_getElem? (i := 1177) (by decide +kernel), List.mem_of_getElem? (i := 1378) (by decide +kernel), List.mem_of_getElem? (i := 1379) (by decide +kernel)⟩
theorem lw_p28 : lw_okq (⟨"WorldMakeModel", "baseOf", "(I)I"⟩, 58) := ⟨⟨by decide +kernel, by decide +kernel⟩, List.mem_of_getElem? (i := 1177) (by decide +kernel), List.mem_of_getElem? (i := 1387) (by decide +kernel), List.mem_of_getElem? (i := 1388) (by decide +kernel)⟩
theorem lw_p29 : lw_okq (⟨"WorldMakeModel", "isProperty", "(I)Z"⟩, 58) := ⟨⟨by decide +kernel, by decide +kernel⟩, List.mem_of_getElem? (i := 1177) (by decide +kernel), List.mem_of_getElem? (i := 1395) (by decide +kernel), List.mem_of_getElem? (i := 1396) (by decide +kernel)⟩
theorem lw_p30 : lw_okq (⟨"WorldMakeModel", "isUnknown", "(IJ)Z"⟩, 58) := ⟨⟨by decide +kernel, by decide +kernel⟩, List.mem_of_getElem? (i := 1177) (by decide +kernel), List.mem_of_getElem? (i := 1399) (by decide +kernel), List.mem_of_getElem? (i := 1400) (by decide +kernel)⟩
theorem lw_p31 : lw_okq (⟨"WorldMakeModel", "isStored", "(IJ)Z"⟩, 58) := ⟨⟨by decide +kernel, by decide +kernel⟩, List.mem_of_getElem? (i := 1177) (by decide +kernel), List.mem_of_getElem? (i := 1404) (by decide +kernel), List.mem_of_getElem? (i := 1405) (by decide +kernel)⟩
def lw_privs_2 : List (MethodName × Nat) := [(⟨"WorldMake$Relations", "earliestRelate", "(III)I"⟩, 7), (⟨"WorldMake$Relations", "togetherBy", "(III)I"⟩, 7), (⟨"WorldMake$Rooms", "isPassable", "(IIZ)Z"⟩, 7), (⟨"WorldMake", "shelfTakes", "(LWorldMake$Shelf;I)Z"⟩, 17), (⟨"WorldMake$Table", "isAhead", "(IIIZ)Z"⟩, 6), (⟨"WorldMake$Table", "swap", "(II)V"⟩, 6), (⟨"WorldMake", "addWord", "(I)V"⟩, 17), (⟨"WorldMake", "addWordsOfThing", "(I)V"⟩, 17), (⟨"WorldMake", "addWordsOfRoom", "(I)V"⟩, 17), (⟨"WorldMakeModel", "begin", "()V"⟩, 58), (⟨"WorldMakeModel", "isKind", "(I)Z"⟩, 58), (⟨"WorldMakeModel", "comesTo", "(II)Z"⟩, 58), (⟨"WorldMakeModel", "baseOf", "(I)I"⟩, 58), (⟨"WorldMakeModel", "isProperty", "(I)Z"⟩, 58), (⟨"WorldMakeModel", "isUnknown", "(IJ)Z"⟩, 58), (⟨"WorldMakeModel", "isStored", "(IJ)Z"⟩, 58)]
theorem lw_r2 : ∀ q ∈ lw_privs_2, lw_okq q := List.forall_mem_cons.mpr ⟨lw_p16, List.forall_mem_cons.mpr ⟨lw_p17, List.forall_mem_cons.mpr ⟨lw_p18, List.forall_mem_cons.mpr ⟨lw_p19, List.forall_mem_cons.mpr ⟨lw_p20, List.forall_mem_cons.mpr ⟨lw_p21, List.forall_mem_cons.mpr ⟨lw_p22, List.forall_mem_cons.mpr ⟨lw_p23, List.forall_mem_cons.mpr ⟨lw_p24, List.forall_mem_cons.mpr ⟨lw_p25, List.forall_mem_cons.mpr ⟨lw_p26, List.forall_mem_cons.mpr ⟨lw_p27, List.forall_mem_cons.mpr ⟨lw_p28, List.forall_mem_cons.mpr ⟨lw_p29, List.forall_mem_cons.mpr ⟨lw_p30, List.forall_mem_cons.mpr ⟨lw_p31, fun _ h => absurd h List.not_mem_nil⟩⟩⟩⟩⟩⟩⟩⟩⟩⟩⟩⟩⟩⟩⟩⟩
theorem lw_p32 : lw_okq (⟨"WorldMakeModel", "faulty", "(I)I"⟩, 58) := ⟨⟨by decide +kernel, by decide +kernel⟩, List.mem_of_getElem? (i := 1177) (by decide +kernel), List.mem_of_getElem? (i := 1408) (by decide +kernel), List.mem_of_getElem? (i := 1409) (by decide +kernel)⟩
theorem lw_p33 : lw_okq (⟨"WorldMakeModel", "isThing", "(J)Z"⟩, 58) := ⟨⟨by decide +kernel, by decide +kernel⟩, List.mem_of_getElem? (i := 1177) (by decide +kernel), List.mem_of_getElem? (i := 1425) (by decide +kernel), List.mem_of_getElem? (i := 1426) (by decide +kernel)⟩
theorem lw_p34 : lw_okq (⟨"WorldMakeModel", "isBackdrop", "(I)Z"⟩, 58) := ⟨⟨by decide +kernel, by decide +kernel⟩, List.mem_of_getElem? (i := 1177) (by decide +kernel), List.mem_of_getElem? (i := 1429) (by decide +kernel), List.mem_of_getElem? (i := 1430) (by decide +kernel)⟩
theorem lw_p35 : lw_okq (⟨"WorldMakeModel", "base", "(I)I"⟩, 58) := ⟨⟨by decide +kernel, by decide +kernel⟩, List.mem_of_getElem? (i := 1177) (by decide +kernel), List.mem_of_getElem? (i := 1433) (by decide +kernel), List.mem_of_getElem? (i := 1434) (by decide +kernel)⟩
theorem lw_p36 : lw_okq (⟨"WorldMakeModel", "isHolder", "(I)Z"⟩, 58) := ⟨⟨by decide +kernel, by decide +kernel⟩, List.mem_of_getElem? (i := 1177) (by decide +kernel), List.mem_of_getElem? (i := 1437) (by decide +kernel), List.mem_of_getElem? (i := 1438) (by decide +kernel)⟩
theorem lw_p37 : lw_okq (⟨"WorldMakeModel", "isCarrier", "(I)Z"⟩, 58) := ⟨⟨by decide +kernel, by decide +kernel⟩, List.mem_of_getElem? (i := 1177) (by decide +kernel), List.mem_of_getElem? (i := 1441) (by decide +kernel), List.mem_of_getElem? (i := 1442) (by decide +kernel)⟩
theorem lw_p38 : lw_okq (⟨"WorldMakeModel", "isFixed", "(I)Z"⟩, 58) := ⟨⟨by decide +kernel, by decide +kernel⟩, List.mem_of_getElem? (i := 1177) (by decide +kernel), List.mem_of_getElem? (i := 1445) (by decide +kernel), List.mem_of_getElem? (i := 1446) (by decide +kernel)⟩
theorem lw_p39 : lw_okq (⟨"WorldMakeModel", "isWithin", "(II)Z"⟩, 58) := ⟨⟨by decide +kernel, by decide +kernel⟩, List.mem_of_getElem? (i := 1177) (by decide +kernel), List.mem_of_getElem? (i := 1449) (by decide +kernel), List.mem_of_getElem? (i := 1450) (by decide +kernel)⟩
theorem lw_p40 : lw_okq (⟨"WorldMakeModel", "nth", "(II)I"⟩, 58) := ⟨⟨by decide +kernel, by decide +kernel⟩, List.mem_of_getElem? (i := 1177) (by decide +kernel), List.mem_of_getElem? (i := 1453) (by decide +kernel), List.mem_of_getElem? (i := 1454) (by decide +kernel)⟩
theorem lw_p41 : lw_okq (⟨"WorldMakeModel", "putAgainst", "(II)I"⟩, 58) := ⟨⟨by decide +kernel, by decide +kernel⟩, List.mem_of_getElem? (i := 1177) (by decide +kernel), List.mem_of_getElem? (i := 1457) (by decide +kernel), List.mem_of_getElem? (i := 1458) (by decide +kernel)⟩
theorem lw_p42 : lw_okq (⟨"WorldMakeModel", "first", "(III)I"⟩, 58) := ⟨⟨by decide +kernel, by decide +kernel⟩, List.mem_of_getElem? (i := 1177) (by decide +kernel), List.mem_of_getElem? (i := 1461) (by decide +kernel), List.mem_of_getElem? (i := 1462) (by decide +kernel)⟩
theorem lw_p43 : lw_okq (⟨"WorldMakeModel", "latestAmong", "(I)I"⟩, 58) := ⟨⟨by decide +kernel, by decide +kernel⟩, List.mem_of_getElem? (i := 1177) (by decide +kernel), List.mem_of_getElem? (i := 1465) (by decide +kernel), List.mem_of_getElem? (i := 1466) (by decide +kernel)⟩
theorem lw_p44 : lw_okq (⟨"WorldMakeModel", "held", "(I)I"⟩, 58) := ⟨⟨by decide +kernel, by decide +kernel⟩, List.mem_of_getElem? (i := 1177) (by decide +kernel), List.mem_of_getElem? (i := 1469) (by decide +kernel), List.mem_of_getElem? (i := 1470) (by decide +kernel)⟩
theorem lw_p45 : lw_okq (⟨"WorldMakeModel", "placeOf", "(I)I"⟩, 58) := ⟨⟨by decide +kernel, by decide +kernel⟩, List.mem_of_getElem? (i := 1177) (by decide +kernel), List.mem_of_getElem? (i := 1473) (by decide +kernel), List.mem_of_getElem? (i := 1474) (by decide +kernel)⟩
theorem lw_p46 : lw_okq (⟨"WorldMakeModel", "pairAgainst", "(II)I"⟩, 58) := ⟨⟨by decide +kernel, by decide +kernel⟩, List.mem_of_getElem? (i := 1177) (by decide +kernel), List.mem_of_getElem? (i := 1477) (by decide +kernel), List.mem_of_getElem? (i := 1478) (by decide +kernel)⟩
theorem lw_p47 : lw_okq (⟨"WorldMakeModel", "lies", "(II)I"⟩, 58) := ⟨⟨by decide +kernel, by decide +kernel⟩, List.mem_of_getElem? (i := 1177) (by decide +kernel), List.mem_of_getElem? (i := 1484) (by decide +kernel), List.mem_of_getElem? (i := 1485) (by decide +kernel)⟩
def lw_privs_3 : List (MethodName × Nat) := [(⟨"WorldMakeModel", "faulty", "(I)I"⟩, 58), (⟨"WorldMakeModel", "isThing", "(J)Z"⟩, 58), (⟨"WorldMakeModel", "isBackdrop", "(I)Z"⟩, 58), (⟨"WorldMakeModel", "base", "(I)I"⟩, 58), (⟨"WorldMakeModel", "isHolder", "(I)Z"⟩, 58), (⟨"WorldMakeModel", "isCarrier", "(I)Z"⟩, 58), (⟨"WorldMakeModel", "isFixed", "(I)Z"⟩, 58), (⟨"WorldMakeModel", "isWithin", "(II)Z"⟩, 58), (⟨"WorldMakeModel", "nth", "(II)I"⟩, 58), (⟨"WorldMakeModel", "putAgainst", "(II)I"⟩, 58), (⟨"WorldMakeModel", "first", "(III)I"⟩, 58), (⟨"WorldMakeModel", "latestAmong", "(I)I"⟩, 58), (⟨"WorldMakeModel", "held", "(I)I"⟩, 58), (⟨"WorldMakeModel", "placeOf", "(I)I"⟩, 58), (⟨"WorldMakeModel", "pairAgainst", "(II)I"⟩, 58), (⟨"WorldMakeModel", "lies", "(II)I"⟩, 58)]
theorem lw_r3 : ∀ q ∈ lw_privs_3, lw_okq q := List.forall_mem_cons.mpr ⟨lw_p32, List.forall_mem_cons.mpr ⟨lw_p33, List.forall_mem_cons.mpr ⟨lw_p34, List.forall_mem_cons.mpr ⟨lw_p35, List.forall_mem_cons.mpr ⟨lw_p36, List.forall_mem_cons.mpr ⟨lw_p37, List.forall_mem_cons.mpr ⟨lw_p38, List.forall_mem_cons.mpr ⟨lw_p39, List.forall_mem_cons.mpr ⟨lw_p40, List.forall_mem_cons.mpr ⟨lw_p41, List.forall_mem_cons.mpr ⟨lw_p42, List.forall_mem_cons.mpr ⟨lw_p43, List.forall_mem_cons.mpr ⟨lw_p44, List.forall_mem_cons.mpr ⟨lw_p45, List.forall_mem_cons.mpr ⟨lw_p46, List.forall_mem_cons.mpr ⟨lw_p47, fun _ h => absurd h List.not_mem_nil⟩⟩⟩⟩⟩⟩⟩⟩⟩⟩⟩⟩⟩⟩⟩⟩
theorem lw_p48 : lw_okq (⟨"WorldMakeModel", "tell", "(IIII)I"⟩, 58) := ⟨⟨by decide +kernel, by decide +kernel⟩, List.mem_of_getElem? (i := 1177) (by decide +kernel), List.mem_of_getElem? (i := 1488) (by decide +kernel), List.mem_of_getElem? (i := 1489) (by decide +kernel)⟩
theorem lw_p49 : lw_okq (⟨"WorldMakeModel", "valueOf", "(II)J"⟩, 58) := ⟨⟨by decide +kernel, by decide +kernel⟩, List.mem_of_getElem? (i := 1177) (by decide +kernel), List.mem_of_getElem? (i := 1506) (by decide +kernel), List.mem_of_getElem? (i := 1507) (by decide +kernel)⟩
theorem lw_p50 : lw_okq (⟨"WorldMakeModel", "said", "(II)I"⟩, 58) := ⟨⟨by decide +kernel, by decide +kernel⟩, List.mem_of_getElem? (i := 1177) (by decide +kernel), List.mem_of_getElem? (i := 1529) (by decide +kernel), List.mem_of_getElem? (i := 1530) (by decide +kernel)⟩
theorem lw_p51 : lw_okq (⟨"WorldMakeModel", "loadOf", "(I)I"⟩, 58) := ⟨⟨by decide +kernel, by decide +kernel⟩, List.mem_of_getElem? (i := 1177) (by decide +kernel), List.mem_of_getElem? (i := 1533) (by decide +kernel), List.mem_of_getElem? (i := 1534) (by decide +kernel)⟩
theorem lw_p52 : lw_okq (⟨"WorldMakeModel", "bulkOf", "(I)I"⟩, 58) := ⟨⟨by decide +kernel, by decide +kernel⟩, List.mem_of_getElem? (i := 1177) (by decide +kernel), List.mem_of_getElem? (i := 1537) (by decide +kernel), List.mem_of_getElem? (i := 1538) (by decide +kernel)⟩
theorem lw_p53 : lw_okq (⟨"WorldMakeModel", "worthOf", "(I)I"⟩, 58) := ⟨⟨by decide +kernel, by decide +kernel⟩, List.mem_of_getElem? (i := 1177) (by decide +kernel), List.mem_of_getElem? (i := 1541) (by decide +kernel), List.mem_of_getElem? (i := 1542) (by decide +kernel)⟩
theorem lw_p54 : lw_okq (⟨"WorldMakeModel", "lidOf", "(I)I"⟩, 58) := ⟨⟨by decide +kernel, by decide +kernel⟩, List.mem_of_getElem? (i := 1177) (by decide +kernel), List.mem_of_getElem? (i := 1545) (by decide +kernel), List.mem_of_getElem? (i := 1546) (by decide +kernel)⟩
theorem lw_p55 : lw_okq (⟨"WorldMakeModel", "hasOwn", "(I)Z"⟩, 58) := ⟨⟨by decide +kernel, by decide +kernel⟩, List.mem_of_getElem? (i := 1177) (by decide +kernel), List.mem_of_getElem? (i := 1557) (by decide +kernel), List.mem_of_getElem? (i := 1558) (by decide +kernel)⟩
theorem lw_p56 : lw_okq (⟨"WorldMakeModel", "unsettled", "()I"⟩, 58) := ⟨⟨by decide +kernel, by decide +kernel⟩, List.mem_of_getElem? (i := 1177) (by decide +kernel), List.mem_of_getElem? (i := 1586) (by decide +kernel), List.mem_of_getElem? (i := 1587) (by decide +kernel)⟩
theorem lw_p57 : lw_okq (⟨"WorldMakeModel", "isUnsettled", "(I)Z"⟩, 58) := ⟨⟨by decide +kernel, by decide +kernel⟩, List.mem_of_getElem? (i := 1177) (by decide +kernel), List.mem_of_getElem? (i := 1590) (by decide +kernel), List.mem_of_getElem? (i := 1591) (by decide +kernel)⟩
theorem lw_p58 : lw_okq (⟨"WorldMakeModel", "keeps", "()Z"⟩, 58) := ⟨⟨by decide +kernel, by decide +kernel⟩, List.mem_of_getElem? (i := 1177) (by decide +kernel), List.mem_of_getElem? (i := 1601) (by decide +kernel), List.mem_of_getElem? (i := 1602) (by decide +kernel)⟩
theorem lw_p59 : lw_okq (⟨"WorldMakeModel", "goesOn", "()Z"⟩, 58) := ⟨⟨by decide +kernel, by decide +kernel⟩, List.mem_of_getElem? (i := 1177) (by decide +kernel), List.mem_of_getElem? (i := 1605) (by decide +kernel), List.mem_of_getElem? (i := 1606) (by decide +kernel)⟩
theorem lw_p60 : lw_okq (⟨"WorldMakeModel", "isCouple", "(III)Z"⟩, 58) := ⟨⟨by decide +kernel, by decide +kernel⟩, List.mem_of_getElem? (i := 1177) (by decide +kernel), List.mem_of_getElem? (i := 1622) (by decide +kernel), List.mem_of_getElem? (i := 1623) (by decide +kernel)⟩
theorem lw_p61 : lw_okq (⟨"WorldMakeModel", "isRelation", "(I)Z"⟩, 58) := ⟨⟨by decide +kernel, by decide +kernel⟩, List.mem_of_getElem? (i := 1177) (by decide +kernel), List.mem_of_getElem? (i := 1626) (by decide +kernel), List.mem_of_getElem? (i := 1627) (by decide +kernel)⟩
theorem lw_p62 : lw_okq (⟨"WorldMakeModel", "has", "(III)Z"⟩, 58) := ⟨⟨by decide +kernel, by decide +kernel⟩, List.mem_of_getElem? (i := 1177) (by decide +kernel), List.mem_of_getElem? (i := 1630) (by decide +kernel), List.mem_of_getElem? (i := 1631) (by decide +kernel)⟩
theorem lw_p63 : lw_okq (⟨"WorldMakeModel", "hasBy", "(III)I"⟩, 58) := ⟨⟨by decide +kernel, by decide +kernel⟩, List.mem_of_getElem? (i := 1177) (by decide +kernel), List.mem_of_getElem? (i := 1634) (by decide +kernel), List.mem_of_getElem? (i := 1635) (by decide +kernel)⟩
def lw_privs_4 : List (MethodName × Nat) := [(⟨"WorldMakeModel", "tell", "(IIII)I"⟩, 58), (⟨"WorldMakeModel", "valueOf", "(II)J"⟩, 58), (⟨"WorldMakeModel", "said", "(II)I"⟩, 58), (⟨"WorldMakeModel", "loadOf", "(I)I"⟩, 58), (⟨"WorldMakeModel", "bulkOf", "(I)I"⟩, 58), (⟨"WorldMakeModel", "worthOf", "(I)I"⟩, 58), (⟨"WorldMakeModel", "lidOf", "(I)I"⟩, 58), (⟨"WorldMakeModel", "hasOwn", "(I)Z"⟩, 58), (⟨"WorldMakeModel", "unsettled", "()I"⟩, 58), (⟨"WorldMakeModel", "isUnsettled", "(I)Z"⟩, 58), (⟨"WorldMakeModel", "keeps", "()Z"⟩, 58), (⟨"WorldMakeModel", "goesOn", "()Z"⟩, 58), (⟨"WorldMakeModel", "isCouple", "(III)Z"⟩, 58), (⟨"WorldMakeModel", "isRelation", "(I)Z"⟩, 58), (⟨"WorldMakeModel", "has", "(III)Z"⟩, 58), (⟨"WorldMakeModel", "hasBy", "(III)I"⟩, 58)]
theorem lw_r4 : ∀ q ∈ lw_privs_4, lw_okq q := List.forall_mem_cons.mpr ⟨lw_p48, List.forall_mem_cons.mpr ⟨lw_p49, List.forall_mem_cons.mpr ⟨lw_p50, List.forall_mem_cons.mpr ⟨lw_p51, List.forall_mem_cons.mpr ⟨lw_p52, List.forall_mem_cons.mpr ⟨lw_p53, List.forall_mem_cons.mpr ⟨lw_p54, List.forall_mem_cons.mpr ⟨lw_p55, List.forall_mem_cons.mpr ⟨lw_p56, List.forall_mem_cons.mpr ⟨lw_p57, List.forall_mem_cons.mpr ⟨lw_p58, List.forall_mem_cons.mpr ⟨lw_p59, List.forall_mem_cons.mpr ⟨lw_p60, List.forall_mem_cons.mpr ⟨lw_p61, List.forall_mem_cons.mpr ⟨lw_p62, List.forall_mem_cons.mpr ⟨lw_p63, fun _ h => absurd h List.not_mem_nil⟩⟩⟩⟩⟩⟩⟩⟩⟩⟩⟩⟩⟩⟩⟩⟩
theorem lw_p64 : lw_okq (⟨"WorldMakeModel", "groupUp", "(II)V"⟩, 58) := ⟨⟨by decide +kernel, by decide +kernel⟩, List.mem_of_getElem? (i := 1177) (by decide +kernel), List.mem_of_getElem? (i := 1638) (by decide +kernel), List.mem_of_getElem? (i := 1639) (by decide +kernel)⟩
theorem lw_p65 : lw_okq (⟨"WorldMakeModel", "told", "(IIII)I"⟩, 58) := ⟨⟨by decide +kernel, by decide +kernel⟩, List.mem_of_getElem? (i := 1177) (by decide +kernel), List.mem_of_getElem? (i := 1642) (by decide +kernel), List.mem_of_getElem? (i := 1643) (by decide +kernel)⟩
theorem lw_p66 : lw_okq (⟨"WorldMakeModel", "deniedBy", "(III)I"⟩, 58) := ⟨⟨by decide +kernel, by decide +kernel⟩, List.mem_of_getElem? (i := 1177) (by decide +kernel), List.mem_of_getElem? (i := 1649) (by decide +kernel), List.mem_of_getElem? (i := 1650) (by decide +kernel)⟩
theorem lw_p67 : lw_okq (⟨"WorldMakeModel", "oneOnly", "(III)I"⟩, 58) := ⟨⟨by decide +kernel, by decide +kernel⟩, List.mem_of_getElem? (i := 1177) (by decide +kernel), List.mem_of_getElem? (i := 1653) (by decide +kernel), List.mem_of_getElem? (i := 1654) (by decide +kernel)⟩
theorem lw_p68 : lw_okq (⟨"WorldMakeModel", "couples", "(I)V"⟩, 58) := ⟨⟨by decide +kernel, by decide +kernel⟩, List.mem_of_getElem? (i := 1177) (by decide +kernel), List.mem_of_getElem? (i := 1669) (by decide +kernel), List.mem_of_getElem? (i := 1670) (by decide +kernel)⟩
theorem lw_p69 : lw_okq (⟨"WorldMakeModel", "goBack", "(I)V"⟩, 58) := ⟨⟨by decide +kernel, by decide +kernel⟩, List.mem_of_getElem? (i := 1177) (by decide +kernel), List.mem_of_getElem? (i := 1673) (by decide +kernel), List.mem_of_getElem? (i := 1674) (by decide +kernel)⟩
theorem lw_p70 : lw_okq (⟨"WorldMakeModel", "isRoom", "(I)Z"⟩, 58) := ⟨⟨by decide +kernel, by decide +kernel⟩, List.mem_of_getElem? (i := 1177) (by decide +kernel), List.mem_of_getElem? (i := 1685) (by decide +kernel), List.mem_of_getElem? (i := 1686) (by decide +kernel)⟩
theorem lw_p71 : lw_okq (⟨"WorldMakeModel", "lead", "(IIIII)V"⟩, 58) := ⟨⟨by decide +kernel, by decide +kernel⟩, List.mem_of_getElem? (i := 1177) (by decide +kernel), List.mem_of_getElem? (i := 1690) (by decide +kernel), List.mem_of_getElem? (i := 1691) (by decide +kernel)⟩
theorem lw_p72 : lw_okq (⟨"WorldMakeModel", "routeBack", "(IZ)V"⟩, 58) := ⟨⟨by decide +kernel, by decide +kernel⟩, List.mem_of_getElem? (i := 1177) (by decide +kernel), List.mem_of_getElem? (i := 1710) (by decide +kernel), List.mem_of_getElem? (i := 1711) (by decide +kernel)⟩
theorem lw_p73 : lw_okq (⟨"WorldMakeModel", "goes", "(IZ)Z"⟩, 58) := ⟨⟨by decide +kernel, by decide +kernel⟩, List.mem_of_getElem? (i := 1177) (by decide +kernel), List.mem_of_getElem? (i := 1714) (by decide +kernel), List.mem_of_getElem? (i := 1715) (by decide +kernel)⟩
theorem lw_p74 : lw_okq (⟨"WorldMakeModel", "isShelf", "(I)Z"⟩, 58) := ⟨⟨by decide +kernel, by decide +kernel⟩, List.mem_of_getElem? (i := 1177) (by decide +kernel), List.mem_of_getElem? (i := 1730) (by decide +kernel), List.mem_of_getElem? (i := 1731) (by decide +kernel)⟩
theorem lw_p75 : lw_okq (⟨"WorldMakeModel", "takes", "(II)Z"⟩, 58) := ⟨⟨by decide +kernel, by decide +kernel⟩, List.mem_of_getElem? (i := 1177) (by decide +kernel), List.mem_of_getElem? (i := 1734) (by decide +kernel), List.mem_of_getElem? (i := 1735) (by decide +kernel)⟩
theorem lw_p76 : lw_okq (⟨"WorldMakeModel", "isTable", "(I)Z"⟩, 58) := ⟨⟨by decide +kernel, by decide +kernel⟩, List.mem_of_getElem? (i := 1177) (by decide +kernel), List.mem_of_getElem? (i := 1759) (by decide +kernel), List.mem_of_getElem? (i := 1760) (by decide +kernel)⟩
theorem lw_p77 : lw_okq (⟨"WorldMakeModel", "isCell", "(III)Z"⟩, 58) := ⟨⟨by decide +kernel, by decide +kernel⟩, List.mem_of_getElem? (i := 1177) (by decide +kernel), List.mem_of_getElem? (i := 1763) (by decide +kernel), List.mem_of_getElem? (i := 1764) (by decide +kernel)⟩
theorem lw_p78 : lw_okq (⟨"WorldMakeModel", "isColumn", "(II)Z"⟩, 58) := ⟨⟨by decide +kernel, by decide +kernel⟩, List.mem_of_getElem? (i := 1177) (by decide +kernel), List.mem_of_getElem? (i := 1767) (by decide +kernel), List.mem_of_getElem? (i := 1768) (by decide +kernel)⟩
theorem lw_p79 : lw_okq (⟨"WorldMakeModel", "isAhead", "(IIIIZ)Z"⟩, 58) := ⟨⟨by decide +kernel, by decide +kernel⟩, List.mem_of_getElem? (i := 1177) (by decide +kernel), List.mem_of_getElem? (i := 1791) (by decide +kernel), List.mem_of_getElem? (i := 1792) (by decide +kernel)⟩
def lw_privs_5 : List (MethodName × Nat) := [(⟨"WorldMakeModel", "groupUp", "(II)V"⟩, 58), (⟨"WorldMakeModel", "told", "(IIII)I"⟩, 58), (⟨"WorldMakeModel", "deniedBy", "(III)I"⟩, 58), (⟨"WorldMakeModel", "oneOnly", "(III)I"⟩, 58), (⟨"WorldMakeModel", "couples", "(I)V"⟩, 58), (⟨"WorldMakeModel", "goBack", "(I)V"⟩, 58), (⟨"WorldMakeModel", "isRoom", "(I)Z"⟩, 58), (⟨"WorldMakeModel", "lead", "(IIIII)V"⟩, 58), (⟨"WorldMakeModel", "routeBack", "(IZ)V"⟩, 58), (⟨"WorldMakeModel", "goes", "(IZ)Z"⟩, 58), (⟨"WorldMakeModel", "isShelf", "(I)Z"⟩, 58), (⟨"WorldMakeModel", "takes", "(II)Z"⟩, 58), (⟨"WorldMakeModel", "isTable", "(I)Z"⟩, 58), (⟨"WorldMakeModel", "isCell", "(III)Z"⟩, 58), (⟨"WorldMakeModel", "isColumn", "(II)Z"⟩, 58), (⟨"WorldMakeModel", "isAhead", "(IIIIZ)Z"⟩, 58)]
theorem lw_r5 : ∀ q ∈ lw_privs_5, lw_okq q := List.forall_mem_cons.mpr ⟨lw_p64, List.forall_mem_cons.mpr ⟨lw_p65, List.forall_mem_cons.mpr ⟨lw_p66, List.forall_mem_cons.mpr ⟨lw_p67, List.forall_mem_cons.mpr ⟨lw_p68, List.forall_mem_cons.mpr ⟨lw_p69, List.forall_mem_cons.mpr ⟨lw_p70, List.forall_mem_cons.mpr ⟨lw_p71, List.forall_mem_cons.mpr ⟨lw_p72, List.forall_mem_cons.mpr ⟨lw_p73, List.forall_mem_cons.mpr ⟨lw_p74, List.forall_mem_cons.mpr ⟨lw_p75, List.forall_mem_cons.mpr ⟨lw_p76, List.forall_mem_cons.mpr ⟨lw_p77, List.forall_mem_cons.mpr ⟨lw_p78, List.forall_mem_cons.mpr ⟨lw_p79, fun _ h => absurd h List.not_mem_nil⟩⟩⟩⟩⟩⟩⟩⟩⟩⟩⟩⟩⟩⟩⟩⟩
theorem lw_p80 : lw_okq (⟨"WorldMakeModel", "sumOf", "(II)J"⟩, 58) := ⟨⟨by decide +kernel, by decide +kernel⟩, List.mem_of_getElem? (i := 1177) (by decide +kernel), List.mem_of_getElem? (i := 1799) (by decide +kernel), List.mem_of_getElem? (i := 1800) (by decide +kernel)⟩
theorem lw_p81 : lw_okq (⟨"WorldMakeModel", "filledIn", "(II)I"⟩, 58) := ⟨⟨by decide +kernel, by decide +kernel⟩, List.mem_of_getElem? (i := 1177) (by decide +kernel), List.mem_of_getElem? (i := 1807) (by decide +kernel), List.mem_of_getElem? (i := 1808) (by decide +kernel)⟩
theorem lw_p82 : lw_okq (⟨"WorldMakeModel", "add", "(I)V"⟩, 58) := ⟨⟨by decide +kernel, by decide +kernel⟩, List.mem_of_getElem? (i := 1177) (by decide +kernel), List.mem_of_getElem? (i := 1815) (by decide +kernel), List.mem_of_getElem? (i := 1816) (by decide +kernel)⟩
def lw_privs_6 : List (MethodName × Nat) := [(⟨"WorldMakeModel", "sumOf", "(II)J"⟩, 58), (⟨"WorldMakeModel", "filledIn", "(II)I"⟩, 58), (⟨"WorldMakeModel", "add", "(I)V"⟩, 58)]
theorem lw_r6 : ∀ q ∈ lw_privs_6, lw_okq q := List.forall_mem_cons.mpr ⟨lw_p80, List.forall_mem_cons.mpr ⟨lw_p81, List.forall_mem_cons.mpr ⟨lw_p82, fun _ h => absurd h List.not_mem_nil⟩⟩⟩
def lw_privs : List (MethodName × Nat) := lw_privs_1 ++ (lw_privs_2 ++ (lw_privs_3 ++ (lw_privs_4 ++ (lw_privs_5 ++ (lw_privs_6)))))
def lw_tbl : List Cond := k2_sels lw_privs ++ tables_1
theorem lw_privs_ok : ∀ q ∈ lw_privs, lw_okq q := by
  show ∀ q ∈ lw_privs_1 ++ (lw_privs_2 ++ (lw_privs_3 ++ (lw_privs_4 ++ (lw_privs_5 ++ (lw_privs_6))))), lw_okq q
  exact List.forall_mem_append.mpr ⟨lw_r1, List.forall_mem_append.mpr ⟨lw_r2, List.forall_mem_append.mpr ⟨lw_r3, List.forall_mem_append.mpr ⟨lw_r4, List.forall_mem_append.mpr ⟨lw_r5, lw_r6⟩⟩⟩⟩⟩
/-- the streams that the claim lets the run draw from -/
abbrev lw_cs : List Choice := [Jvm.Choice.named "NaN.bits"]
theorem lw_bits : nanBits ∈ lw_cs := by first | decide | exact List.mem_cons_self | simp [lw_cs, nanBits]
def RX0 : String := "WorldMake$Kinds"
def TX0 : u_T := fun k => match k with
  | 0 => ("WorldMake$Kinds", "parents", "[I", true)
  | _ => ("WorldMake$Kinds", "number", "I", false)
def tyX0 : Nat → FieldType := fun k => match k with
  | 0 => .array .int
  | _ => .int
abbrev wsX00 : List Cond := u_ws RX0 TX0 2
theorem nmX0 : ∀ a, a < 2 → ∀ b, b < 2 → a ≠ b → (TX0 a).2.1 ≠ (TX0 b).2.1 := by decide +kernel
theorem tyX0_ok : ∀ k, k < 2 → parseFieldDescriptor (TX0 k).2.2.1 = some (tyX0 k) := by decide +kernel
abbrev cX0_init : ByteArray := prog_2_method_1_code
def yX0_init : MethodName := ⟨RX0, "<init>", "()V"⟩
abbrev cX0_begin : ByteArray := prog_2_method_2_code
def yX0_begin : MethodName := ⟨RX0, "begin", "()V"⟩
abbrev cX0_add : ByteArray := prog_2_method_3_code
def yX0_add : MethodName := ⟨RX0, "add", "(I)I"⟩
abbrev cX0_has : ByteArray := prog_2_method_4_code
def yX0_has : MethodName := ⟨RX0, "has", "(I)Z"⟩
abbrev cX0_fits : ByteArray := prog_2_method_5_code
def yX0_fits : MethodName := ⟨RX0, "fits", "(II)Z"⟩
abbrev cX0_baseOf : ByteArray := prog_2_method_6_code
def yX0_baseOf : MethodName := ⟨RX0, "baseOf", "(I)I"⟩
def RX1 : String := "WorldMake$Places"
def TX1 : u_T := fun k => match k with
  | 0 => ("WorldMake$Places", "things", "LWorldMake$Things;", true)
  | 1 => ("WorldMake$Places", "sentences", "LWorldMake$Sentences;", true)
  | 2 => ("WorldMake$Places", "homes", "[I", true)
  | 3 => ("WorldMake$Places", "homeCounts", "[I", true)
  | 4 => ("WorldMake$Places", "putIn", "[I", true)
  | 5 => ("WorldMake$Places", "barred", "[J", true)
  | 6 => ("WorldMake$Places", "sets", "[J", true)
  | 7 => ("WorldMake$Places", "amongIn", "[I", true)
  | 8 => ("WorldMake$Places", "inside", "[I", true)
  | 9 => ("WorldMake$Places", "mosts", "[I", true)
  | 10 => ("WorldMake$Places", "mostIn", "[I", true)
  | 11 => ("WorldMake$Places", "pairOnes", "[I", true)
  | 12 => ("WorldMake$Places", "pairOthers", "[I", true)
  | 13 => ("WorldMake$Places", "pairAlike", "[Z", true)
  | 14 => ("WorldMake$Places", "pairIn", "[I", true)
  | _ => ("WorldMake$Places", "pairs", "I", false)
def tyX1 : Nat → FieldType := fun k => match k with
  | 0 => .object "WorldMake$Things"
  | 1 => .object "WorldMake$Sentences"
  | 2 => .array .int
  | 3 => .array .int
  | 4 => .array .int
  | 5 => .array .long
  | 6 => .array .long
  | 7 => .array .int
  | 8 => .array .int
  | 9 => .array .int
  | 10 => .array .int
  | 11 => .array .int
  | 12 => .array .int
  | 13 => .array .boolean
  | 14 => .array .int
  | _ => .int
abbrev wsX10 : List Cond := u_ws RX1 TX1 16
theorem nmX1 : ∀ a, a < 16 → ∀ b, b < 16 → a ≠ b → (TX1 a).2.1 ≠ (TX1 b).2.1 := by decide +kernel
theorem tyX1_ok : ∀ k, k < 16 → parseFieldDescriptor (TX1 k).2.2.1 = some (tyX1 k) := by decide +kernel
abbrev cX1_init : ByteArray := prog_3_method_1_code
def yX1_init : MethodName := ⟨RX1, "<init>", "(LWorldMake$Things;LWorldMake$Sentences;)V"⟩
abbrev cX1_begin : ByteArray := prog_3_method_2_code
def yX1_begin : MethodName := ⟨RX1, "begin", "(I)V"⟩
abbrev cX1_homeAt : ByteArray := prog_3_method_3_code
def yX1_homeAt : MethodName := ⟨RX1, "homeAt", "(II)I"⟩
abbrev cX1_isLaid : ByteArray := prog_3_method_4_code
def yX1_isLaid : MethodName := ⟨RX1, "isLaid", "(I)Z"⟩
abbrev cX1_liesIn : ByteArray := prog_3_method_5_code
def yX1_liesIn : MethodName := ⟨RX1, "liesIn", "(II)Z"⟩
abbrev cX1_hasAllHomes : ByteArray := prog_3_method_6_code
def yX1_hasAllHomes : MethodName := ⟨RX1, "hasAllHomes", "(I)Z"⟩
abbrev cX1_isWithin : ByteArray := prog_3_method_7_code
def yX1_isWithin : MethodName := ⟨RX1, "isWithin", "(II)Z"⟩
abbrev cX1_lay : ByteArray := prog_3_method_8_code
def yX1_lay : MethodName := ⟨RX1, "lay", "(III)V"⟩
abbrev cX1_lift : ByteArray := prog_3_method_9_code
def yX1_lift : MethodName := ⟨RX1, "lift", "(I)V"⟩
abbrev cX1_againstPut : ByteArray := prog_3_method_10_code
def yX1_againstPut : MethodName := ⟨RX1, "againstPut", "(II)I"⟩
abbrev cX1_isCrowded : ByteArray := prog_3_method_11_code
def yX1_isCrowded : MethodName := ⟨RX1, "isCrowded", "(I)Z"⟩
abbrev cX1_againstPairs : ByteArray := prog_3_method_12_code
def yX1_againstPairs : MethodName := ⟨RX1, "againstPairs", "(II)I"⟩
abbrev cX1_partner : ByteArray := prog_3_method_13_code
def yX1_partner : MethodName := ⟨RX1, "partner", "(II)I"⟩
abbrev cX1_againstBar : ByteArray := prog_3_method_14_code
def yX1_againstBar : MethodName := ⟨RX1, "againstBar", "(II)I"⟩
abbrev cX1_shut : ByteArray := prog_3_method_15_code
def yX1_shut : MethodName := ⟨RX1, "shut", "(II)V"⟩
abbrev cX1_againstAmong : ByteArray := prog_3_method_16_code
def yX1_againstAmong : MethodName := ⟨RX1, "againstAmong", "(IJ)I"⟩
abbrev cX1_earliestBarInto : ByteArray := prog_3_method_17_code
def yX1_earliestBarInto : MethodName := ⟨RX1, "earliestBarInto", "(IJ)I"⟩
abbrev cX1_narrow : ByteArray := prog_3_method_18_code
def yX1_narrow : MethodName := ⟨RX1, "narrow", "(IJI)V"⟩
abbrev cX1_setOf : ByteArray := prog_3_method_19_code
def yX1_setOf : MethodName := ⟨RX1, "setOf", "(I)J"⟩
abbrev cX1_isUnsettled : ByteArray := prog_3_method_20_code
def yX1_isUnsettled : MethodName := ⟨RX1, "isUnsettled", "(I)Z"⟩
abbrev cX1_unsettled : ByteArray := prog_3_method_21_code
def yX1_unsettled : MethodName := ⟨RX1, "unsettled", "()I"⟩
abbrev cX1_againstPairing : ByteArray := prog_3_method_22_code
def yX1_againstPairing : MethodName := ⟨RX1, "againstPairing", "(IIZ)I"⟩
abbrev cX1_addPair : ByteArray := prog_3_method_23_code
def yX1_addPair : MethodName := ⟨RX1, "addPair", "(IIZI)V"⟩
abbrev cX1_hasMost : ByteArray := prog_3_method_24_code
def yX1_hasMost : MethodName := ⟨RX1, "hasMost", "(I)Z"⟩
abbrev cX1_tellMost : ByteArray := prog_3_method_25_code
def yX1_tellMost : MethodName := ⟨RX1, "tellMost", "(III)V"⟩
abbrev cX1_putBehind : ByteArray := prog_3_method_26_code
def yX1_putBehind : MethodName := ⟨RX1, "putBehind", "(II)I"⟩
abbrev cX1_bulk : ByteArray := prog_3_method_27_code
def yX1_bulk : MethodName := ⟨RX1, "bulk", "(I)I"⟩
abbrev cX1_bulkAlone : ByteArray := prog_3_method_28_code
def yX1_bulkAlone : MethodName := ⟨RX1, "bulkAlone", "(I)I"⟩
abbrev cX1_load : ByteArray := prog_3_method_29_code
def yX1_load : MethodName := ⟨RX1, "load", "(I)I"⟩
def RX2 : String := "WorldMake$Relations"
def TX2 : u_T := fun k => match k with
  | 0 => ("WorldMake$Relations", "things", "LWorldMake$Things;", true)
  | 1 => ("WorldMake$Relations", "sentences", "LWorldMake$Sentences;", true)
  | 2 => ("WorldMake$Relations", "walk", "LWorldMake$Walk;", true)
  | 3 => ("WorldMake$Relations", "forms", "[I", true)
  | 4 => ("WorldMake$Relations", "rows", "[J", true)
  | 5 => ("WorldMake$Relations", "replayed", "[J", true)
  | _ => ("WorldMake$Relations", "number", "I", false)
def tyX2 : Nat → FieldType := fun k => match k with
  | 0 => .object "WorldMake$Things"
  | 1 => .object "WorldMake$Sentences"
  | 2 => .object "WorldMake$Walk"
  | 3 => .array .int
  | 4 => .array .long
  | 5 => .array .long
  | _ => .int
abbrev wsX20 : List Cond := u_ws RX2 TX2 7
theorem nmX2 : ∀ a, a < 7 → ∀ b, b < 7 → a ≠ b → (TX2 a).2.1 ≠ (TX2 b).2.1 := by decide +kernel
theorem tyX2_ok : ∀ k, k < 7 → parseFieldDescriptor (TX2 k).2.2.1 = some (tyX2 k) := by decide +kernel
abbrev cX2_init : ByteArray := prog_4_method_1_code
def yX2_init : MethodName := ⟨RX2, "<init>", "(LWorldMake$Things;LWorldMake$Sentences;LWorldMake$Walk;)V"⟩
abbrev cX2_add : ByteArray := prog_4_method_2_code
def yX2_add : MethodName := ⟨RX2, "add", "(I)I"⟩
abbrev cX2_has : ByteArray := prog_4_method_3_code
def yX2_has : MethodName := ⟨RX2, "has", "(I)Z"⟩
abbrev cX2_rowOf : ByteArray := prog_4_method_4_code
def yX2_rowOf : MethodName := ⟨RX2, "rowOf", "(II)J"⟩
abbrev cX2_holds : ByteArray := prog_4_method_5_code
def yX2_holds : MethodName := ⟨RX2, "holds", "(III)Z"⟩
abbrev cX2_join : ByteArray := prog_4_method_6_code
def yX2_join : MethodName := ⟨RX2, "join", "(III)V"⟩
abbrev cX2_merge : ByteArray := prog_4_method_7_code
def yX2_merge : MethodName := ⟨RX2, "merge", "([JIII)V"⟩
abbrev cX2_againstRelate : ByteArray := prog_4_method_8_code
def yX2_againstRelate : MethodName := ⟨RX2, "againstRelate", "(III)I"⟩
abbrev cX2_earliestDeny : ByteArray := prog_4_method_9_code
def yX2_earliestDeny : MethodName := ⟨RX2, "earliestDeny", "(III)I"⟩
abbrev cX2_earliestRelate : ByteArray := prog_4_method_10_code
def yX2_earliestRelate : MethodName := ⟨RX2, "earliestRelate", "(III)I"⟩
abbrev cX2_heldBy : ByteArray := prog_4_method_11_code
def yX2_heldBy : MethodName := ⟨RX2, "heldBy", "(III)I"⟩
abbrev cX2_togetherBy : ByteArray := prog_4_method_12_code
def yX2_togetherBy : MethodName := ⟨RX2, "togetherBy", "(III)I"⟩
abbrev cX2_walkFrom : ByteArray := prog_4_method_13_code
def yX2_walkFrom : MethodName := ⟨RX2, "walkFrom", "(II)LWorldMake$Walk;"⟩
abbrev cX2_couples : ByteArray := prog_4_method_14_code
def yX2_couples : MethodName := ⟨RX2, "couples", "(I)I"⟩
def RX3 : String := "WorldMake$Rooms"
def TX3 : u_T := fun k => match k with
  | 0 => ("WorldMake$Rooms", "things", "LWorldMake$Things;", true)
  | 1 => ("WorldMake$Rooms", "walk", "LWorldMake$Walk;", true)
  | 2 => ("WorldMake$Rooms", "sorts", "[I", true)
  | 3 => ("WorldMake$Rooms", "ends", "[I", true)
  | 4 => ("WorldMake$Rooms", "doors", "[I", true)
  | 5 => ("WorldMake$Rooms", "exitIn", "[I", true)
  | _ => ("WorldMake$Rooms", "doorIn", "[I", true)
def tyX3 : Nat → FieldType := fun k => match k with
  | 0 => .object "WorldMake$Things"
  | 1 => .object "WorldMake$Walk"
  | 2 => .array .int
  | 3 => .array .int
  | 4 => .array .int
  | 5 => .array .int
  | _ => .array .int
abbrev wsX30 : List Cond := u_ws RX3 TX3 7
theorem nmX3 : ∀ a, a < 7 → ∀ b, b < 7 → a ≠ b → (TX3 a).2.1 ≠ (TX3 b).2.1 := by decide +kernel
theorem tyX3_ok : ∀ k, k < 7 → parseFieldDescriptor (TX3 k).2.2.1 = some (tyX3 k) := by decide +kernel
abbrev cX3_init : ByteArray := prog_5_method_1_code
def yX3_init : MethodName := ⟨RX3, "<init>", "(LWorldMake$Things;LWorldMake$Walk;)V"⟩
abbrev cX3_begin : ByteArray := prog_5_method_2_code
def yX3_begin : MethodName := ⟨RX3, "begin", "(I)V"⟩
abbrev cX3_write : ByteArray := prog_5_method_3_code
def yX3_write : MethodName := ⟨RX3, "write", "(IIIII)V"⟩
abbrev cX3_sortOf : ByteArray := prog_5_method_4_code
def yX3_sortOf : MethodName := ⟨RX3, "sortOf", "(II)I"⟩
abbrev cX3_leadsTo : ByteArray := prog_5_method_5_code
def yX3_leadsTo : MethodName := ⟨RX3, "leadsTo", "(II)I"⟩
abbrev cX3_isTold : ByteArray := prog_5_method_6_code
def yX3_isTold : MethodName := ⟨RX3, "isTold", "(II)Z"⟩
abbrev cX3_toldIn : ByteArray := prog_5_method_7_code
def yX3_toldIn : MethodName := ⟨RX3, "toldIn", "(II)I"⟩
abbrev cX3_opposite : ByteArray := prog_5_method_8_code
def yX3_opposite : MethodName := ⟨RX3, "opposite", "(I)I"⟩
abbrev cX3_tellExit : ByteArray := prog_5_method_9_code
def yX3_tellExit : MethodName := ⟨RX3, "tellExit", "(IIII)V"⟩
abbrev cX3_againstDoor : ByteArray := prog_5_method_10_code
def yX3_againstDoor : MethodName := ⟨RX3, "againstDoor", "(IIII)I"⟩
abbrev cX3_tellDoor : ByteArray := prog_5_method_11_code
def yX3_tellDoor : MethodName := ⟨RX3, "tellDoor", "(IIIII)V"⟩
abbrev cX3_isPassable : ByteArray := prog_5_method_12_code
def yX3_isPassable : MethodName := ⟨RX3, "isPassable", "(IIZ)Z"⟩
abbrev cX3_walkFrom : ByteArray := prog_5_method_13_code
def yX3_walkFrom : MethodName := ⟨RX3, "walkFrom", "(IZ)LWorldMake$Walk;"⟩
def RX4 : String := "WorldMake$Sentences"
def TX4 : u_T := fun k => match k with
  | 0 => ("WorldMake$Sentences", "sorts", "[I", true)
  | 1 => ("WorldMake$Sentences", "ones", "[I", true)
  | 2 => ("WorldMake$Sentences", "twos", "[I", true)
  | 3 => ("WorldMake$Sentences", "threes", "[I", true)
  | _ => ("WorldMake$Sentences", "number", "I", false)
def tyX4 : Nat → FieldType := fun k => match k with
  | 0 => .array .int
  | 1 => .array .int
  | 2 => .array .int
  | 3 => .array .int
  | _ => .int
abbrev wsX40 : List Cond := u_ws RX4 TX4 5
theorem nmX4 : ∀ a, a < 5 → ∀ b, b < 5 → a ≠ b → (TX4 a).2.1 ≠ (TX4 b).2.1 := by decide +kernel
theorem tyX4_ok : ∀ k, k < 5 → parseFieldDescriptor (TX4 k).2.2.1 = some (tyX4 k) := by decide +kernel
abbrev cX4_init : ByteArray := prog_6_method_1_code
def yX4_init : MethodName := ⟨RX4, "<init>", "()V"⟩
abbrev cX4_areFull : ByteArray := prog_6_method_2_code
def yX4_areFull : MethodName := ⟨RX4, "areFull", "()Z"⟩
abbrev cX4_add : ByteArray := prog_6_method_3_code
def yX4_add : MethodName := ⟨RX4, "add", "(IIII)I"⟩
abbrev cX4_earliest : ByteArray := prog_6_method_4_code
def yX4_earliest : MethodName := ⟨RX4, "earliest", "(IIII)I"⟩
def RX5 : String := "WorldMake$Settler"
def TX5 : u_T := fun k => match k with
  | 0 => ("WorldMake$Settler", "things", "LWorldMake$Things;", true)
  | 1 => ("WorldMake$Settler", "places", "LWorldMake$Places;", true)
  | 2 => ("WorldMake$Settler", "unsettled", "[I", true)
  | _ => ("WorldMake$Settler", "number", "I", false)
def tyX5 : Nat → FieldType := fun k => match k with
  | 0 => .object "WorldMake$Things"
  | 1 => .object "WorldMake$Places"
  | 2 => .array .int
  | _ => .int
abbrev wsX50 : List Cond := u_ws RX5 TX5 4
theorem nmX5 : ∀ a, a < 4 → ∀ b, b < 4 → a ≠ b → (TX5 a).2.1 ≠ (TX5 b).2.1 := by decide +kernel
theorem tyX5_ok : ∀ k, k < 4 → parseFieldDescriptor (TX5 k).2.2.1 = some (tyX5 k) := by decide +kernel
abbrev cX5_init : ByteArray := prog_7_method_1_code
def yX5_init : MethodName := ⟨RX5, "<init>", "(LWorldMake$Things;LWorldMake$Places;)V"⟩
abbrev cX5_ways : ByteArray := prog_7_method_2_code
def yX5_ways : MethodName := ⟨RX5, "ways", "()I"⟩
abbrev cX5_thingAt : ByteArray := prog_7_method_3_code
def yX5_thingAt : MethodName := ⟨RX5, "thingAt", "(I)I"⟩
abbrev cX5_takeLeastWay : ByteArray := prog_7_method_4_code
def yX5_takeLeastWay : MethodName := ⟨RX5, "takeLeastWay", "(I)Z"⟩
abbrev cX5_layFrom : ByteArray := prog_7_method_5_code
def yX5_layFrom : MethodName := ⟨RX5, "layFrom", "(II)Z"⟩
abbrev cX5_lets : ByteArray := prog_7_method_6_code
def yX5_lets : MethodName := ⟨RX5, "lets", "(II)Z"⟩
def RX6 : String := "WorldMake$Shelf"
def TX6 : u_T := fun k => match k with
  | 0 => ("WorldMake$Shelf", "standing", "[I", true)
  | 1 => ("WorldMake$Shelf", "base", "I", false)
  | _ => ("WorldMake$Shelf", "length", "I", false)
def tyX6 : Nat → FieldType := fun k => match k with
  | 0 => .array .int
  | 1 => .int
  | _ => .int
abbrev wsX60 : List Cond := u_ws RX6 TX6 3
theorem nmX6 : ∀ a, a < 3 → ∀ b, b < 3 → a ≠ b → (TX6 a).2.1 ≠ (TX6 b).2.1 := by decide +kernel
theorem tyX6_ok : ∀ k, k < 3 → parseFieldDescriptor (TX6 k).2.2.1 = some (tyX6 k) := by decide +kernel
abbrev cX6_init : ByteArray := prog_8_method_1_code
def yX6_init : MethodName := ⟨RX6, "<init>", "()V"⟩
abbrev cX6_begin : ByteArray := prog_8_method_2_code
def yX6_begin : MethodName := ⟨RX6, "begin", "(II)V"⟩
abbrev cX6_spans : ByteArray := prog_8_method_3_code
def yX6_spans : MethodName := ⟨RX6, "spans", "(II)Z"⟩
def RX7 : String := "WorldMake$Table"
def TX7 : u_T := fun k => match k with
  | 0 => ("WorldMake$Table", "cells", "[J", true)
  | 1 => ("WorldMake$Table", "filled", "[Z", true)
  | 2 => ("WorldMake$Table", "lanes", "[I", true)
  | 3 => ("WorldMake$Table", "origins", "[I", true)
  | 4 => ("WorldMake$Table", "rows", "I", false)
  | _ => ("WorldMake$Table", "columns", "I", false)
def tyX7 : Nat → FieldType := fun k => match k with
  | 0 => .array .long
  | 1 => .array .boolean
  | 2 => .array .int
  | 3 => .array .int
  | 4 => .int
  | _ => .int
abbrev wsX70 : List Cond := u_ws RX7 TX7 6
theorem nmX7 : ∀ a, a < 6 → ∀ b, b < 6 → a ≠ b → (TX7 a).2.1 ≠ (TX7 b).2.1 := by decide +kernel
theorem tyX7_ok : ∀ k, k < 6 → parseFieldDescriptor (TX7 k).2.2.1 = some (tyX7 k) := by decide +kernel
abbrev cX7_init : ByteArray := prog_9_method_1_code
def yX7_init : MethodName := ⟨RX7, "<init>", "()V"⟩
abbrev cX7_begin : ByteArray := prog_9_method_2_code
def yX7_begin : MethodName := ⟨RX7, "begin", "(III)V"⟩
abbrev cX7_hasCell : ByteArray := prog_9_method_3_code
def yX7_hasCell : MethodName := ⟨RX7, "hasCell", "(II)Z"⟩
abbrev cX7_isBlank : ByteArray := prog_9_method_4_code
def yX7_isBlank : MethodName := ⟨RX7, "isBlank", "(II)Z"⟩
abbrev cX7_told : ByteArray := prog_9_method_5_code
def yX7_told : MethodName := ⟨RX7, "told", "(II)J"⟩
abbrev cX7_write : ByteArray := prog_9_method_6_code
def yX7_write : MethodName := ⟨RX7, "write", "(IIJ)V"⟩
abbrev cX7_wipe : ByteArray := prog_9_method_7_code
def yX7_wipe : MethodName := ⟨RX7, "wipe", "(II)Z"⟩
abbrev cX7_rowWith : ByteArray := prog_9_method_8_code
def yX7_rowWith : MethodName := ⟨RX7, "rowWith", "(IJI)I"⟩
abbrev cX7_order : ByteArray := prog_9_method_9_code
def yX7_order : MethodName := ⟨RX7, "order", "(IZ)I"⟩
abbrev cX7_isAhead : ByteArray := prog_9_method_10_code
def yX7_isAhead : MethodName := ⟨RX7, "isAhead", "(IIIZ)Z"⟩
abbrev cX7_swap : ByteArray := prog_9_method_11_code
def yX7_swap : MethodName := ⟨RX7, "swap", "(II)V"⟩
abbrev cX7_sum : ByteArray := prog_9_method_12_code
def yX7_sum : MethodName := ⟨RX7, "sum", "(I)J"⟩
abbrev cX7_filledIn : ByteArray := prog_9_method_13_code
def yX7_filledIn : MethodName := ⟨RX7, "filledIn", "(I)I"⟩
def RX8 : String := "WorldMake$Things"
def TX8 : u_T := fun k => match k with
  | 0 => ("WorldMake$Things", "kinds", "LWorldMake$Kinds;", true)
  | 1 => ("WorldMake$Things", "kindOf", "[I", true)
  | 2 => ("WorldMake$Things", "bases", "[I", true)
  | 3 => ("WorldMake$Things", "sizes", "[I", true)
  | 4 => ("WorldMake$Things", "marks", "[I", true)
  | 5 => ("WorldMake$Things", "ownMarks", "[I", true)
  | 6 => ("WorldMake$Things", "opened", "[Z", true)
  | _ => ("WorldMake$Things", "number", "I", false)
def tyX8 : Nat → FieldType := fun k => match k with
  | 0 => .object "WorldMake$Kinds"
  | 1 => .array .int
  | 2 => .array .int
  | 3 => .array .int
  | 4 => .array .int
  | 5 => .array .int
  | 6 => .array .boolean
  | _ => .int
abbrev wsX80 : List Cond := u_ws RX8 TX8 8
theorem nmX8 : ∀ a, a < 8 → ∀ b, b < 8 → a ≠ b → (TX8 a).2.1 ≠ (TX8 b).2.1 := by decide +kernel
theorem tyX8_ok : ∀ k, k < 8 → parseFieldDescriptor (TX8 k).2.2.1 = some (tyX8 k) := by decide +kernel
abbrev cX8_init : ByteArray := prog_10_method_1_code
def yX8_init : MethodName := ⟨RX8, "<init>", "(LWorldMake$Kinds;)V"⟩
abbrev cX8_add : ByteArray := prog_10_method_2_code
def yX8_add : MethodName := ⟨RX8, "add", "(II)I"⟩
abbrev cX8_has : ByteArray := prog_10_method_3_code
def yX8_has : MethodName := ⟨RX8, "has", "(J)Z"⟩
abbrev cX8_all : ByteArray := prog_10_method_4_code
def yX8_all : MethodName := ⟨RX8, "all", "()J"⟩
abbrev cX8_holders : ByteArray := prog_10_method_5_code
def yX8_holders : MethodName := ⟨RX8, "holders", "()J"⟩
abbrev cX8_isRoom : ByteArray := prog_10_method_6_code
def yX8_isRoom : MethodName := ⟨RX8, "isRoom", "(I)Z"⟩
abbrev cX8_haveRoom : ByteArray := prog_10_method_7_code
def yX8_haveRoom : MethodName := ⟨RX8, "haveRoom", "()Z"⟩
abbrev cX8_isCarrier : ByteArray := prog_10_method_8_code
def yX8_isCarrier : MethodName := ⟨RX8, "isCarrier", "(I)Z"⟩
abbrev cX8_isHolder : ByteArray := prog_10_method_9_code
def yX8_isHolder : MethodName := ⟨RX8, "isHolder", "(I)Z"⟩
abbrev cX8_hasLid : ByteArray := prog_10_method_10_code
def yX8_hasLid : MethodName := ⟨RX8, "hasLid", "(I)Z"⟩
abbrev cX8_isFixed : ByteArray := prog_10_method_11_code
def yX8_isFixed : MethodName := ⟨RX8, "isFixed", "(I)Z"⟩
abbrev cX8_liesInOne : ByteArray := prog_10_method_12_code
def yX8_liesInOne : MethodName := ⟨RX8, "liesInOne", "(I)Z"⟩
abbrev cX8_mayLieIn : ByteArray := prog_10_method_13_code
def yX8_mayLieIn : MethodName := ⟨RX8, "mayLieIn", "(II)Z"⟩
abbrev cX8_worth : ByteArray := prog_10_method_14_code
def yX8_worth : MethodName := ⟨RX8, "worth", "(I)I"⟩
abbrev cX8_lid : ByteArray := prog_10_method_15_code
def yX8_lid : MethodName := ⟨RX8, "lid", "(I)I"⟩
def RX9 : String := "WorldMake$Values"
def TX9 : u_T := fun k => match k with
  | 0 => ("WorldMake$Values", "kinds", "LWorldMake$Kinds;", true)
  | 1 => ("WorldMake$Values", "things", "LWorldMake$Things;", true)
  | 2 => ("WorldMake$Values", "owners", "[I", true)
  | 3 => ("WorldMake$Values", "lanes", "[I", true)
  | 4 => ("WorldMake$Values", "takenBases", "[I", true)
  | 5 => ("WorldMake$Values", "usuals", "[J", true)
  | 6 => ("WorldMake$Values", "hasUsual", "[Z", true)
  | 7 => ("WorldMake$Values", "givens", "[J", true)
  | 8 => ("WorldMake$Values", "givenIn", "[I", true)
  | _ => ("WorldMake$Values", "number", "I", false)
def tyX9 : Nat → FieldType := fun k => match k with
  | 0 => .object "WorldMake$Kinds"
  | 1 => .object "WorldMake$Things"
  | 2 => .array .int
  | 3 => .array .int
  | 4 => .array .int
  | 5 => .array .long
  | 6 => .array .boolean
  | 7 => .array .long
  | 8 => .array .int
  | _ => .int
abbrev wsX90 : List Cond := u_ws RX9 TX9 10
theorem nmX9 : ∀ a, a < 10 → ∀ b, b < 10 → a ≠ b → (TX9 a).2.1 ≠ (TX9 b).2.1 := by decide +kernel
theorem tyX9_ok : ∀ k, k < 10 → parseFieldDescriptor (TX9 k).2.2.1 = some (tyX9 k) := by decide +kernel
abbrev cX9_init : ByteArray := prog_11_method_1_code
def yX9_init : MethodName := ⟨RX9, "<init>", "(LWorldMake$Kinds;LWorldMake$Things;)V"⟩
abbrev cX9_add : ByteArray := prog_11_method_2_code
def yX9_add : MethodName := ⟨RX9, "add", "(III)I"⟩
abbrev cX9_has : ByteArray := prog_11_method_3_code
def yX9_has : MethodName := ⟨RX9, "has", "(I)Z"⟩
abbrev cX9_emptyCell : ByteArray := prog_11_method_4_code
def yX9_emptyCell : MethodName := ⟨RX9, "emptyCell", "(I)J"⟩
abbrev cX9_knows : ByteArray := prog_11_method_5_code
def yX9_knows : MethodName := ⟨RX9, "knows", "(IJ)Z"⟩
abbrev cX9_takes : ByteArray := prog_11_method_6_code
def yX9_takes : MethodName := ⟨RX9, "takes", "(IJ)Z"⟩
abbrev cX9_isFor : ByteArray := prog_11_method_7_code
def yX9_isFor : MethodName := ⟨RX9, "isFor", "(II)Z"⟩
abbrev cX9_tellUsual : ByteArray := prog_11_method_8_code
def yX9_tellUsual : MethodName := ⟨RX9, "tellUsual", "(IIJ)V"⟩
abbrev cX9_tellGiven : ByteArray := prog_11_method_9_code
def yX9_tellGiven : MethodName := ⟨RX9, "tellGiven", "(IIJI)V"⟩
abbrev cX9_givenBy : ByteArray := prog_11_method_10_code
def yX9_givenBy : MethodName := ⟨RX9, "givenBy", "(II)I"⟩
abbrev cX9_givenCell : ByteArray := prog_11_method_11_code
def yX9_givenCell : MethodName := ⟨RX9, "givenCell", "(II)J"⟩
abbrev cX9_isGivenOtherwise : ByteArray := prog_11_method_12_code
def yX9_isGivenOtherwise : MethodName := ⟨RX9, "isGivenOtherwise", "(IIJ)Z"⟩
abbrev cX9_valueOf : ByteArray := prog_11_method_13_code
def yX9_valueOf : MethodName := ⟨RX9, "valueOf", "(II)J"⟩
def RX10 : String := "WorldMake$Walk"
def TX10 : u_T := fun k => match k with
  | 0 => ("WorldMake$Walk", "far", "[I", true)
  | 1 => ("WorldMake$Walk", "heads", "[I", true)
  | 2 => ("WorldMake$Walk", "reached", "[I", true)
  | _ => ("WorldMake$Walk", "number", "I", false)
def tyX10 : Nat → FieldType := fun k => match k with
  | 0 => .array .int
  | 1 => .array .int
  | 2 => .array .int
  | _ => .int
abbrev wsX100 : List Cond := u_ws RX10 TX10 4
theorem nmX10 : ∀ a, a < 4 → ∀ b, b < 4 → a ≠ b → (TX10 a).2.1 ≠ (TX10 b).2.1 := by decide +kernel
theorem tyX10_ok : ∀ k, k < 4 → parseFieldDescriptor (TX10 k).2.2.1 = some (tyX10 k) := by decide +kernel
abbrev cX10_init : ByteArray := prog_12_method_1_code
def yX10_init : MethodName := ⟨RX10, "<init>", "()V"⟩
abbrev cX10_begin : ByteArray := prog_12_method_2_code
def yX10_begin : MethodName := ⟨RX10, "begin", "(I)V"⟩
abbrev cX10_step : ByteArray := prog_12_method_3_code
def yX10_step : MethodName := ⟨RX10, "step", "(III)V"⟩
def RX11 : String := "WorldMake"
def TX11 : u_T := fun k => match k with
  | 0 => ("WorldMake", "kinds", "LWorldMake$Kinds;", true)
  | 1 => ("WorldMake", "things", "LWorldMake$Things;", true)
  | 2 => ("WorldMake", "values", "LWorldMake$Values;", true)
  | 3 => ("WorldMake", "sentences", "LWorldMake$Sentences;", true)
  | 4 => ("WorldMake", "places", "LWorldMake$Places;", true)
  | 5 => ("WorldMake", "settler", "LWorldMake$Settler;", true)
  | 6 => ("WorldMake", "relations", "LWorldMake$Relations;", true)
  | 7 => ("WorldMake", "rooms", "LWorldMake$Rooms;", true)
  | 8 => ("WorldMake", "shelves", "[LWorldMake$Shelf;", true)
  | 9 => ("WorldMake", "tables", "[LWorldMake$Table;", true)
  | 10 => ("WorldMake", "hauled", "[I", true)
  | 11 => ("WorldMake", "words", "[I", true)
  | 12 => ("WorldMake", "shelfCount", "I", false)
  | 13 => ("WorldMake", "tableCount", "I", false)
  | 14 => ("WorldMake", "wordCount", "I", false)
  | 15 => ("WorldMake", "latestFault", "I", false)
  | _ => ("WorldMake", "latestCame", "I", false)
def tyX11 : Nat → FieldType := fun k => match k with
  | 0 => .object "WorldMake$Kinds"
  | 1 => .object "WorldMake$Things"
  | 2 => .object "WorldMake$Values"
  | 3 => .object "WorldMake$Sentences"
  | 4 => .object "WorldMake$Places"
  | 5 => .object "WorldMake$Settler"
  | 6 => .object "WorldMake$Relations"
  | 7 => .object "WorldMake$Rooms"
  | 8 => .array (.object "WorldMake$Shelf")
  | 9 => .array (.object "WorldMake$Table")
  | 10 => .array .int
  | 11 => .array .int
  | 12 => .int
  | 13 => .int
  | 14 => .int
  | 15 => .int
  | _ => .int
abbrev wsX110 : List Cond := u_ws RX11 TX11 17
theorem nmX11 : ∀ a, a < 17 → ∀ b, b < 17 → a ≠ b → (TX11 a).2.1 ≠ (TX11 b).2.1 := by decide +kernel
theorem tyX11_ok : ∀ k, k < 17 → parseFieldDescriptor (TX11 k).2.2.1 = some (tyX11 k) := by decide +kernel
abbrev cX11_init : ByteArray := prog_1_method_1_code
def yX11_init : MethodName := ⟨RX11, "<init>", "()V"⟩
abbrev cX11_beginAnew : ByteArray := prog_1_method_2_code
def yX11_beginAnew : MethodName := ⟨RX11, "beginAnew", "()V"⟩
abbrev cX11_faulted : ByteArray := prog_1_method_3_code
def yX11_faulted : MethodName := ⟨RX11, "faulted", "(I)I"⟩
abbrev cX11_against : ByteArray := prog_1_method_4_code
def yX11_against : MethodName := ⟨RX11, "against", "(I)I"⟩
abbrev cX11_inRange : ByteArray := prog_1_method_5_code
def yX11_inRange : MethodName := ⟨RX11, "inRange", "(II)Z"⟩
abbrev cX11_kind : ByteArray := prog_1_method_6_code
def yX11_kind : MethodName := ⟨RX11, "kind", "(I)I"⟩
abbrev cX11_is : ByteArray := prog_1_method_7_code
def yX11_is : MethodName := ⟨RX11, "is", "(II)I"⟩
abbrev cX11_property : ByteArray := prog_1_method_8_code
def yX11_property : MethodName := ⟨RX11, "property", "(III)I"⟩
abbrev cX11_usual : ByteArray := prog_1_method_9_code
def yX11_usual : MethodName := ⟨RX11, "usual", "(IIJ)I"⟩
abbrev cX11_thing : ByteArray := prog_1_method_10_code
def yX11_thing : MethodName := ⟨RX11, "thing", "(II)I"⟩
abbrev cX11_put : ByteArray := prog_1_method_11_code
def yX11_put : MethodName := ⟨RX11, "put", "(II)I"⟩
abbrev cX11_bar : ByteArray := prog_1_method_12_code
def yX11_bar : MethodName := ⟨RX11, "bar", "(II)I"⟩
abbrev cX11_give : ByteArray := prog_1_method_13_code
def yX11_give : MethodName := ⟨RX11, "give", "(IIJ)I"⟩
abbrev cX11_value : ByteArray := prog_1_method_14_code
def yX11_value : MethodName := ⟨RX11, "value", "(II)J"⟩
abbrev cX11_given : ByteArray := prog_1_method_15_code
def yX11_given : MethodName := ⟨RX11, "given", "(II)I"⟩
abbrev cX11_peek : ByteArray := prog_1_method_16_code
def yX11_peek : MethodName := ⟨RX11, "peek", "(III)J"⟩
abbrev cX11_place : ByteArray := prog_1_method_17_code
def yX11_place : MethodName := ⟨RX11, "place", "(II)I"⟩
abbrev cX11_says : ByteArray := prog_1_method_18_code
def yX11_says : MethodName := ⟨RX11, "says", "(II)I"⟩
abbrev cX11_saying : ByteArray := prog_1_method_19_code
def yX11_saying : MethodName := ⟨RX11, "saying", "(II)I"⟩
abbrev cX11_stride : ByteArray := prog_1_method_20_code
def yX11_stride : MethodName := ⟨RX11, "stride", "(I)I"⟩
abbrev cX11_follow : ByteArray := prog_1_method_21_code
def yX11_follow : MethodName := ⟨RX11, "follow", "(III)I"⟩
abbrev cX11_mark : ByteArray := prog_1_method_22_code
def yX11_mark : MethodName := ⟨RX11, "mark", "(II)I"⟩
abbrev cX11_remark : ByteArray := prog_1_method_23_code
def yX11_remark : MethodName := ⟨RX11, "remark", "(III)I"⟩
abbrev cX11_open : ByteArray := prog_1_method_24_code
def yX11_open : MethodName := ⟨RX11, "open", "(IZ)I"⟩
abbrev cX11_among : ByteArray := prog_1_method_25_code
def yX11_among : MethodName := ⟨RX11, "among", "(IJ)I"⟩
abbrev cX11_pair : ByteArray := prog_1_method_26_code
def yX11_pair : MethodName := ⟨RX11, "pair", "(IIZ)I"⟩
abbrev cX11_most : ByteArray := prog_1_method_27_code
def yX11_most : MethodName := ⟨RX11, "most", "(II)I"⟩
abbrev cX11_settle : ByteArray := prog_1_method_28_code
def yX11_settle : MethodName := ⟨RX11, "settle", "()I"⟩
abbrev cX11_set : ByteArray := prog_1_method_29_code
def yX11_set : MethodName := ⟨RX11, "set", "(I)J"⟩
abbrev cX11_relation : ByteArray := prog_1_method_30_code
def yX11_relation : MethodName := ⟨RX11, "relation", "(I)I"⟩
abbrev cX11_relate : ByteArray := prog_1_method_31_code
def yX11_relate : MethodName := ⟨RX11, "relate", "(III)I"⟩
abbrev cX11_deny : ByteArray := prog_1_method_32_code
def yX11_deny : MethodName := ⟨RX11, "deny", "(III)I"⟩
abbrev cX11_related : ByteArray := prog_1_method_33_code
def yX11_related : MethodName := ⟨RX11, "related", "(III)I"⟩
abbrev cX11_along : ByteArray := prog_1_method_34_code
def yX11_along : MethodName := ⟨RX11, "along", "(III)I"⟩
abbrev cX11_next : ByteArray := prog_1_method_35_code
def yX11_next : MethodName := ⟨RX11, "next", "(III)I"⟩
abbrev cX11_areRelatable : ByteArray := prog_1_method_36_code
def yX11_areRelatable : MethodName := ⟨RX11, "areRelatable", "(III)Z"⟩
abbrev cX11_exit : ByteArray := prog_1_method_37_code
def yX11_exit : MethodName := ⟨RX11, "exit", "(III)I"⟩
abbrev cX11_door : ByteArray := prog_1_method_38_code
def yX11_door : MethodName := ⟨RX11, "door", "(IIII)I"⟩
abbrev cX11_leads : ByteArray := prog_1_method_39_code
def yX11_leads : MethodName := ⟨RX11, "leads", "(II)I"⟩
abbrev cX11_sort : ByteArray := prog_1_method_40_code
def yX11_sort : MethodName := ⟨RX11, "sort", "(II)I"⟩
abbrev cX11_route : ByteArray := prog_1_method_41_code
def yX11_route : MethodName := ⟨RX11, "route", "(IIZ)I"⟩
abbrev cX11_first : ByteArray := prog_1_method_42_code
def yX11_first : MethodName := ⟨RX11, "first", "(IIZ)I"⟩
abbrev cX11_shelf : ByteArray := prog_1_method_43_code
def yX11_shelf : MethodName := ⟨RX11, "shelf", "(II)I"⟩
abbrev cX11_stand : ByteArray := prog_1_method_44_code
def yX11_stand : MethodName := ⟨RX11, "stand", "(III)I"⟩
abbrev cX11_shelfTakes : ByteArray := prog_1_method_45_code
def yX11_shelfTakes : MethodName := ⟨RX11, "shelfTakes", "(LWorldMake$Shelf;I)Z"⟩
abbrev cX11_stands : ByteArray := prog_1_method_46_code
def yX11_stands : MethodName := ⟨RX11, "stands", "(II)I"⟩
abbrev cX11_haul : ByteArray := prog_1_method_47_code
def yX11_haul : MethodName := ⟨RX11, "haul", "(IIIII)I"⟩
abbrev cX11_came : ByteArray := prog_1_method_48_code
def yX11_came : MethodName := ⟨RX11, "came", "()I"⟩
abbrev cX11_table : ByteArray := prog_1_method_49_code
def yX11_table : MethodName := ⟨RX11, "table", "(III)I"⟩
abbrev cX11_areLanes : ByteArray := prog_1_method_50_code
def yX11_areLanes : MethodName := ⟨RX11, "areLanes", "(II)Z"⟩
abbrev cX11_fill : ByteArray := prog_1_method_51_code
def yX11_fill : MethodName := ⟨RX11, "fill", "(IIIJ)I"⟩
abbrev cX11_blank : ByteArray := prog_1_method_52_code
def yX11_blank : MethodName := ⟨RX11, "blank", "(III)I"⟩
abbrev cX11_read : ByteArray := prog_1_method_53_code
def yX11_read : MethodName := ⟨RX11, "read", "(III)J"⟩
abbrev cX11_choose : ByteArray := prog_1_method_54_code
def yX11_choose : MethodName := ⟨RX11, "choose", "(IIJI)I"⟩
abbrev cX11_rank : ByteArray := prog_1_method_55_code
def yX11_rank : MethodName := ⟨RX11, "rank", "(IIZ)I"⟩
abbrev cX11_total : ByteArray := prog_1_method_56_code
def yX11_total : MethodName := ⟨RX11, "total", "(II)J"⟩
abbrev cX11_mean : ByteArray := prog_1_method_57_code
def yX11_mean : MethodName := ⟨RX11, "mean", "(II)J"⟩
abbrev cX11_make : ByteArray := prog_1_method_58_code
def yX11_make : MethodName := ⟨RX11, "make", "()I"⟩
abbrev cX11_addWord : ByteArray := prog_1_method_59_code
def yX11_addWord : MethodName := ⟨RX11, "addWord", "(I)V"⟩
abbrev cX11_addWordsOfThing : ByteArray := prog_1_method_60_code
def yX11_addWordsOfThing : MethodName := ⟨RX11, "addWordsOfThing", "(I)V"⟩
abbrev cX11_addWordsOfRoom : ByteArray := prog_1_method_61_code
def yX11_addWordsOfRoom : MethodName := ⟨RX11, "addWordsOfRoom", "(I)V"⟩
abbrev cX11_word : ByteArray := prog_1_method_62_code
def yX11_word : MethodName := ⟨RX11, "word", "(I)I"⟩
abbrev cX11_digest : ByteArray := prog_1_method_63_code
def yX11_digest : MethodName := ⟨RX11, "digest", "()J"⟩
abbrev cX11_sentence : ByteArray := prog_1_method_64_code
def yX11_sentence : MethodName := ⟨RX11, "sentence", "(II)I"⟩
abbrev cX11_count : ByteArray := prog_1_method_65_code
def yX11_count : MethodName := ⟨RX11, "count", "(I)I"⟩
abbrev cX11_fault : ByteArray := prog_1_method_66_code
def yX11_fault : MethodName := ⟨RX11, "fault", "()I"⟩
abbrev cX11_clear : ByteArray := prog_1_method_67_code
def yX11_clear : MethodName := ⟨RX11, "clear", "()I"⟩
abbrev cX11_bit : ByteArray := prog_1_method_68_code
def yX11_bit : MethodName := ⟨RX11, "bit", "(I)J"⟩
abbrev cX11_toldBy : ByteArray := prog_1_method_69_code
def yX11_toldBy : MethodName := ⟨RX11, "toldBy", "(IJ)J"⟩
def RX12 : String := "WorldMakeModel"
def TX12 : u_T := fun k => match k with
  | 0 => ("WorldMakeModel", "latest", "I", false)
  | 1 => ("WorldMakeModel", "kinds", "I", false)
  | 2 => ("WorldMakeModel", "parent", "[I", true)
  | 3 => ("WorldMakeModel", "properties", "I", false)
  | 4 => ("WorldMakeModel", "ofKind", "[I", true)
  | 5 => ("WorldMakeModel", "lane", "[I", true)
  | 6 => ("WorldMakeModel", "wants", "[I", true)
  | 7 => ("WorldMakeModel", "isUsual", "[Z", true)
  | 8 => ("WorldMakeModel", "usual", "[J", true)
  | 9 => ("WorldMakeModel", "things", "I", false)
  | 10 => ("WorldMakeModel", "kindOf", "[I", true)
  | 11 => ("WorldMakeModel", "size", "[I", true)
  | 12 => ("WorldMakeModel", "mark", "[I", true)
  | 13 => ("WorldMakeModel", "ownMark", "[I", true)
  | 14 => ("WorldMakeModel", "isOpen", "[Z", true)
  | 15 => ("WorldMakeModel", "holder", "[I", true)
  | 16 => ("WorldMakeModel", "holderBy", "[I", true)
  | 17 => ("WorldMakeModel", "holders", "[I", true)
  | 18 => ("WorldMakeModel", "sets", "[J", true)
  | 19 => ("WorldMakeModel", "mostBy", "[I", true)
  | 20 => ("WorldMakeModel", "givenBy", "[I", true)
  | 21 => ("WorldMakeModel", "given", "[J", true)
  | 22 => ("WorldMakeModel", "sentences", "I", false)
  | 23 => ("WorldMakeModel", "sort", "[I", true)
  | 24 => ("WorldMakeModel", "one", "[I", true)
  | 25 => ("WorldMakeModel", "two", "[I", true)
  | 26 => ("WorldMakeModel", "three", "[I", true)
  | 27 => ("WorldMakeModel", "pairs", "I", false)
  | 28 => ("WorldMakeModel", "way", "[I", true)
  | 29 => ("WorldMakeModel", "relations", "I", false)
  | 30 => ("WorldMakeModel", "form", "[I", true)
  | 31 => ("WorldMakeModel", "group", "[I", true)
  | 32 => ("WorldMakeModel", "far", "[I", true)
  | 33 => ("WorldMakeModel", "line", "[I", true)
  | 34 => ("WorldMakeModel", "couple", "[Z", true)
  | 35 => ("WorldMakeModel", "exitSort", "[I", true)
  | 36 => ("WorldMakeModel", "exitTo", "[I", true)
  | 37 => ("WorldMakeModel", "exitBy", "[I", true)
  | 38 => ("WorldMakeModel", "exitDoor", "[I", true)
  | 39 => ("WorldMakeModel", "shelves", "I", false)
  | 40 => ("WorldMakeModel", "shelfBase", "[I", true)
  | 41 => ("WorldMakeModel", "shelfMany", "[I", true)
  | 42 => ("WorldMakeModel", "stood", "[I", true)
  | 43 => ("WorldMakeModel", "hand", "[I", true)
  | 44 => ("WorldMakeModel", "came", "I", false)
  | 45 => ("WorldMakeModel", "tables", "I", false)
  | 46 => ("WorldMakeModel", "rows", "[I", true)
  | 47 => ("WorldMakeModel", "columns", "[I", true)
  | 48 => ("WorldMakeModel", "columnLane", "[I", true)
  | 49 => ("WorldMakeModel", "isBlank", "[Z", true)
  | 50 => ("WorldMakeModel", "cells", "[J", true)
  | 51 => ("WorldMakeModel", "reals", "[D", true)
  | 52 => ("WorldMakeModel", "order", "[I", true)
  | 53 => ("WorldMakeModel", "wasBlank", "[Z", true)
  | 54 => ("WorldMakeModel", "wereCells", "[J", true)
  | 55 => ("WorldMakeModel", "wereReals", "[D", true)
  | 56 => ("WorldMakeModel", "words", "I", false)
  | _ => ("WorldMakeModel", "word", "[I", true)
def tyX12 : Nat → FieldType := fun k => match k with
  | 0 => .int
  | 1 => .int
  | 2 => .array .int
  | 3 => .int
  | 4 => .array .int
  | 5 => .array .int
  | 6 => .array .int
  | 7 => .array .boolean
  | 8 => .array .long
  | 9 => .int
  | 10 => .array .int
  | 11 => .array .int
  | 12 => .array .int
  | 13 => .array .int
  | 14 => .array .boolean
  | 15 => .array .int
  | 16 => .array .int
  | 17 => .array .int
  | 18 => .array .long
  | 19 => .array .int
  | 20 => .array .int
  | 21 => .array .long
  | 22 => .int
  | 23 => .array .int
  | 24 => .array .int
  | 25 => .array .int
  | 26 => .array .int
  | 27 => .int
  | 28 => .array .int
  | 29 => .int
  | 30 => .array .int
  | 31 => .array .int
  | 32 => .array .int
  | 33 => .array .int
  | 34 => .array .boolean
  | 35 => .array .int
  | 36 => .array .int
  | 37 => .array .int
  | 38 => .array .int
  | 39 => .int
  | 40 => .array .int
  | 41 => .array .int
  | 42 => .array .int
  | 43 => .array .int
  | 44 => .int
  | 45 => .int
  | 46 => .array .int
  | 47 => .array .int
  | 48 => .array .int
  | 49 => .array .boolean
  | 50 => .array .long
  | 51 => .array .double
  | 52 => .array .int
  | 53 => .array .boolean
  | 54 => .array .long
  | 55 => .array .double
  | 56 => .int
  | _ => .array .int
abbrev wsX120 : List Cond := u_ws RX12 TX12 58
theorem nmX12 : ∀ a, a < 58 → ∀ b, b < 58 → a ≠ b → (TX12 a).2.1 ≠ (TX12 b).2.1 := by decide +kernel
theorem tyX12_ok : ∀ k, k < 58 → parseFieldDescriptor (TX12 k).2.2.1 = some (tyX12 k) := by decide +kernel
abbrev cX12_init : ByteArray := prog_14_method_1_code
def yX12_init : MethodName := ⟨RX12, "<init>", "()V"⟩
abbrev cX12_in : ByteArray := prog_14_method_3_code
def yX12_in : MethodName := ⟨RX12, "in", "(JJJ)Z"⟩
abbrev cX12_faulty : ByteArray := prog_14_method_4_code
def yX12_faulty : MethodName := ⟨RX12, "faulty", "(I)I"⟩
abbrev cX12_begin : ByteArray := prog_14_method_5_code
def yX12_begin : MethodName := ⟨RX12, "begin", "()V"⟩
abbrev cX12_isKind : ByteArray := prog_14_method_6_code
def yX12_isKind : MethodName := ⟨RX12, "isKind", "(I)Z"⟩
abbrev cX12_isProperty : ByteArray := prog_14_method_7_code
def yX12_isProperty : MethodName := ⟨RX12, "isProperty", "(I)Z"⟩
abbrev cX12_comesTo : ByteArray := prog_14_method_8_code
def yX12_comesTo : MethodName := ⟨RX12, "comesTo", "(II)Z"⟩
abbrev cX12_baseOf : ByteArray := prog_14_method_9_code
def yX12_baseOf : MethodName := ⟨RX12, "baseOf", "(I)I"⟩
abbrev cX12_kind : ByteArray := prog_14_method_10_code
def yX12_kind : MethodName := ⟨RX12, "kind", "(I)I"⟩
abbrev cX12_is : ByteArray := prog_14_method_11_code
def yX12_is : MethodName := ⟨RX12, "is", "(II)I"⟩
abbrev cX12_property : ByteArray := prog_14_method_12_code
def yX12_property : MethodName := ⟨RX12, "property", "(III)I"⟩
abbrev cX12_cell : ByteArray := prog_14_method_13_code
def yX12_cell : MethodName := ⟨RX12, "cell", "(IJ)J"⟩
abbrev cX12_isUnknown : ByteArray := prog_14_method_14_code
def yX12_isUnknown : MethodName := ⟨RX12, "isUnknown", "(IJ)Z"⟩
abbrev cX12_isStored : ByteArray := prog_14_method_15_code
def yX12_isStored : MethodName := ⟨RX12, "isStored", "(IJ)Z"⟩
abbrev cX12_usual : ByteArray := prog_14_method_16_code
def yX12_usual : MethodName := ⟨RX12, "usual", "(IIJ)I"⟩
abbrev cX12_isThing : ByteArray := prog_14_method_17_code
def yX12_isThing : MethodName := ⟨RX12, "isThing", "(J)Z"⟩
abbrev cX12_base : ByteArray := prog_14_method_18_code
def yX12_base : MethodName := ⟨RX12, "base", "(I)I"⟩
abbrev cX12_isCarrier : ByteArray := prog_14_method_19_code
def yX12_isCarrier : MethodName := ⟨RX12, "isCarrier", "(I)Z"⟩
abbrev cX12_isHolder : ByteArray := prog_14_method_20_code
def yX12_isHolder : MethodName := ⟨RX12, "isHolder", "(I)Z"⟩
abbrev cX12_isFixed : ByteArray := prog_14_method_21_code
def yX12_isFixed : MethodName := ⟨RX12, "isFixed", "(I)Z"⟩
abbrev cX12_isBackdrop : ByteArray := prog_14_method_22_code
def yX12_isBackdrop : MethodName := ⟨RX12, "isBackdrop", "(I)Z"⟩
abbrev cX12_thing : ByteArray := prog_14_method_23_code
def yX12_thing : MethodName := ⟨RX12, "thing", "(II)I"⟩
abbrev cX12_tell : ByteArray := prog_14_method_24_code
def yX12_tell : MethodName := ⟨RX12, "tell", "(IIII)I"⟩
abbrev cX12_against : ByteArray := prog_14_method_25_code
def yX12_against : MethodName := ⟨RX12, "against", "(I)I"⟩
abbrev cX12_first : ByteArray := prog_14_method_26_code
def yX12_first : MethodName := ⟨RX12, "first", "(III)I"⟩
abbrev cX12_latestAmong : ByteArray := prog_14_method_27_code
def yX12_latestAmong : MethodName := ⟨RX12, "latestAmong", "(I)I"⟩
abbrev cX12_isWithin : ByteArray := prog_14_method_28_code
def yX12_isWithin : MethodName := ⟨RX12, "isWithin", "(II)Z"⟩
abbrev cX12_placeOf : ByteArray := prog_14_method_29_code
def yX12_placeOf : MethodName := ⟨RX12, "placeOf", "(I)I"⟩
abbrev cX12_nth : ByteArray := prog_14_method_30_code
def yX12_nth : MethodName := ⟨RX12, "nth", "(II)I"⟩
abbrev cX12_held : ByteArray := prog_14_method_31_code
def yX12_held : MethodName := ⟨RX12, "held", "(I)I"⟩
abbrev cX12_pairAgainst : ByteArray := prog_14_method_32_code
def yX12_pairAgainst : MethodName := ⟨RX12, "pairAgainst", "(II)I"⟩
abbrev cX12_putAgainst : ByteArray := prog_14_method_33_code
def yX12_putAgainst : MethodName := ⟨RX12, "putAgainst", "(II)I"⟩
abbrev cX12_lies : ByteArray := prog_14_method_34_code
def yX12_lies : MethodName := ⟨RX12, "lies", "(II)I"⟩
abbrev cX12_put : ByteArray := prog_14_method_35_code
def yX12_put : MethodName := ⟨RX12, "put", "(II)I"⟩
abbrev cX12_bar : ByteArray := prog_14_method_36_code
def yX12_bar : MethodName := ⟨RX12, "bar", "(II)I"⟩
abbrev cX12_give : ByteArray := prog_14_method_37_code
def yX12_give : MethodName := ⟨RX12, "give", "(IIJ)I"⟩
abbrev cX12_valueOf : ByteArray := prog_14_method_38_code
def yX12_valueOf : MethodName := ⟨RX12, "valueOf", "(II)J"⟩
abbrev cX12_value : ByteArray := prog_14_method_39_code
def yX12_value : MethodName := ⟨RX12, "value", "(II)J"⟩
abbrev cX12_given : ByteArray := prog_14_method_40_code
def yX12_given : MethodName := ⟨RX12, "given", "(II)I"⟩
abbrev cX12_peek : ByteArray := prog_14_method_41_code
def yX12_peek : MethodName := ⟨RX12, "peek", "(III)J"⟩
abbrev cX12_place : ByteArray := prog_14_method_42_code
def yX12_place : MethodName := ⟨RX12, "place", "(II)I"⟩
abbrev cX12_loadOf : ByteArray := prog_14_method_43_code
def yX12_loadOf : MethodName := ⟨RX12, "loadOf", "(I)I"⟩
abbrev cX12_bulkOf : ByteArray := prog_14_method_44_code
def yX12_bulkOf : MethodName := ⟨RX12, "bulkOf", "(I)I"⟩
abbrev cX12_worthOf : ByteArray := prog_14_method_45_code
def yX12_worthOf : MethodName := ⟨RX12, "worthOf", "(I)I"⟩
abbrev cX12_lidOf : ByteArray := prog_14_method_46_code
def yX12_lidOf : MethodName := ⟨RX12, "lidOf", "(I)I"⟩
abbrev cX12_said : ByteArray := prog_14_method_47_code
def yX12_said : MethodName := ⟨RX12, "said", "(II)I"⟩
abbrev cX12_says : ByteArray := prog_14_method_48_code
def yX12_says : MethodName := ⟨RX12, "says", "(II)I"⟩
abbrev cX12_follow : ByteArray := prog_14_method_49_code
def yX12_follow : MethodName := ⟨RX12, "follow", "(III)I"⟩
abbrev cX12_hasOwn : ByteArray := prog_14_method_50_code
def yX12_hasOwn : MethodName := ⟨RX12, "hasOwn", "(I)Z"⟩
abbrev cX12_mark : ByteArray := prog_14_method_51_code
def yX12_mark : MethodName := ⟨RX12, "mark", "(II)I"⟩
abbrev cX12_remark : ByteArray := prog_14_method_52_code
def yX12_remark : MethodName := ⟨RX12, "remark", "(III)I"⟩
abbrev cX12_open : ByteArray := prog_14_method_53_code
def yX12_open : MethodName := ⟨RX12, "open", "(IZ)I"⟩
abbrev cX12_among : ByteArray := prog_14_method_55_code
def yX12_among : MethodName := ⟨RX12, "among", "(IJ)I"⟩
abbrev cX12_pair : ByteArray := prog_14_method_56_code
def yX12_pair : MethodName := ⟨RX12, "pair", "(IIZ)I"⟩
abbrev cX12_most : ByteArray := prog_14_method_57_code
def yX12_most : MethodName := ⟨RX12, "most", "(II)I"⟩
abbrev cX12_isUnsettled : ByteArray := prog_14_method_58_code
def yX12_isUnsettled : MethodName := ⟨RX12, "isUnsettled", "(I)Z"⟩
abbrev cX12_unsettled : ByteArray := prog_14_method_59_code
def yX12_unsettled : MethodName := ⟨RX12, "unsettled", "()I"⟩
abbrev cX12_keeps : ByteArray := prog_14_method_60_code
def yX12_keeps : MethodName := ⟨RX12, "keeps", "()Z"⟩
abbrev cX12_lowest : ByteArray := prog_14_method_61_code
def yX12_lowest : MethodName := ⟨RX12, "lowest", "(J)I"⟩
abbrev cX12_many : ByteArray := prog_14_method_62_code
def yX12_many : MethodName := ⟨RX12, "many", "(J)I"⟩
abbrev cX12_goesOn : ByteArray := prog_14_method_63_code
def yX12_goesOn : MethodName := ⟨RX12, "goesOn", "()Z"⟩
abbrev cX12_settle : ByteArray := prog_14_method_64_code
def yX12_settle : MethodName := ⟨RX12, "settle", "()I"⟩
abbrev cX12_set : ByteArray := prog_14_method_65_code
def yX12_set : MethodName := ⟨RX12, "set", "(I)J"⟩
abbrev cX12_isRelation : ByteArray := prog_14_method_66_code
def yX12_isRelation : MethodName := ⟨RX12, "isRelation", "(I)Z"⟩
abbrev cX12_groupUp : ByteArray := prog_14_method_67_code
def yX12_groupUp : MethodName := ⟨RX12, "groupUp", "(II)V"⟩
abbrev cX12_told : ByteArray := prog_14_method_68_code
def yX12_told : MethodName := ⟨RX12, "told", "(IIII)I"⟩
abbrev cX12_earlier : ByteArray := prog_14_method_69_code
def yX12_earlier : MethodName := ⟨RX12, "earlier", "(II)I"⟩
abbrev cX12_hasBy : ByteArray := prog_14_method_70_code
def yX12_hasBy : MethodName := ⟨RX12, "hasBy", "(III)I"⟩
abbrev cX12_has : ByteArray := prog_14_method_71_code
def yX12_has : MethodName := ⟨RX12, "has", "(III)Z"⟩
abbrev cX12_deniedBy : ByteArray := prog_14_method_72_code
def yX12_deniedBy : MethodName := ⟨RX12, "deniedBy", "(III)I"⟩
abbrev cX12_oneOnly : ByteArray := prog_14_method_73_code
def yX12_oneOnly : MethodName := ⟨RX12, "oneOnly", "(III)I"⟩
abbrev cX12_relation : ByteArray := prog_14_method_74_code
def yX12_relation : MethodName := ⟨RX12, "relation", "(I)I"⟩
abbrev cX12_isCouple : ByteArray := prog_14_method_75_code
def yX12_isCouple : MethodName := ⟨RX12, "isCouple", "(III)Z"⟩
abbrev cX12_relate : ByteArray := prog_14_method_76_code
def yX12_relate : MethodName := ⟨RX12, "relate", "(III)I"⟩
abbrev cX12_deny : ByteArray := prog_14_method_77_code
def yX12_deny : MethodName := ⟨RX12, "deny", "(III)I"⟩
abbrev cX12_related : ByteArray := prog_14_method_78_code
def yX12_related : MethodName := ⟨RX12, "related", "(III)I"⟩
abbrev cX12_couples : ByteArray := prog_14_method_79_code
def yX12_couples : MethodName := ⟨RX12, "couples", "(I)V"⟩
abbrev cX12_goBack : ByteArray := prog_14_method_80_code
def yX12_goBack : MethodName := ⟨RX12, "goBack", "(I)V"⟩
abbrev cX12_along : ByteArray := prog_14_method_81_code
def yX12_along : MethodName := ⟨RX12, "along", "(III)I"⟩
abbrev cX12_next : ByteArray := prog_14_method_82_code
def yX12_next : MethodName := ⟨RX12, "next", "(III)I"⟩
abbrev cX12_isRoom : ByteArray := prog_14_method_83_code
def yX12_isRoom : MethodName := ⟨RX12, "isRoom", "(I)Z"⟩
abbrev cX12_lead : ByteArray := prog_14_method_84_code
def yX12_lead : MethodName := ⟨RX12, "lead", "(IIIII)V"⟩
abbrev cX12_exit : ByteArray := prog_14_method_85_code
def yX12_exit : MethodName := ⟨RX12, "exit", "(III)I"⟩
abbrev cX12_door : ByteArray := prog_14_method_86_code
def yX12_door : MethodName := ⟨RX12, "door", "(IIII)I"⟩
abbrev cX12_leads : ByteArray := prog_14_method_87_code
def yX12_leads : MethodName := ⟨RX12, "leads", "(II)I"⟩
abbrev cX12_sort : ByteArray := prog_14_method_88_code
def yX12_sort : MethodName := ⟨RX12, "sort", "(II)I"⟩
abbrev cX12_goes : ByteArray := prog_14_method_89_code
def yX12_goes : MethodName := ⟨RX12, "goes", "(IZ)Z"⟩
abbrev cX12_routeBack : ByteArray := prog_14_method_90_code
def yX12_routeBack : MethodName := ⟨RX12, "routeBack", "(IZ)V"⟩
abbrev cX12_route : ByteArray := prog_14_method_91_code
def yX12_route : MethodName := ⟨RX12, "route", "(IIZ)I"⟩
abbrev cX12_first_ : ByteArray := prog_14_method_92_code
def yX12_first_ : MethodName := ⟨RX12, "first", "(IIZ)I"⟩
abbrev cX12_isShelf : ByteArray := prog_14_method_93_code
def yX12_isShelf : MethodName := ⟨RX12, "isShelf", "(I)Z"⟩
abbrev cX12_takes : ByteArray := prog_14_method_94_code
def yX12_takes : MethodName := ⟨RX12, "takes", "(II)Z"⟩
abbrev cX12_shelf : ByteArray := prog_14_method_95_code
def yX12_shelf : MethodName := ⟨RX12, "shelf", "(II)I"⟩
abbrev cX12_stand : ByteArray := prog_14_method_96_code
def yX12_stand : MethodName := ⟨RX12, "stand", "(III)I"⟩
abbrev cX12_stands : ByteArray := prog_14_method_97_code
def yX12_stands : MethodName := ⟨RX12, "stands", "(II)I"⟩
abbrev cX12_haul : ByteArray := prog_14_method_98_code
def yX12_haul : MethodName := ⟨RX12, "haul", "(IIIII)I"⟩
abbrev cX12_came : ByteArray := prog_14_method_99_code
def yX12_came : MethodName := ⟨RX12, "came", "()I"⟩
abbrev cX12_isTable : ByteArray := prog_14_method_100_code
def yX12_isTable : MethodName := ⟨RX12, "isTable", "(I)Z"⟩
abbrev cX12_table : ByteArray := prog_14_method_101_code
def yX12_table : MethodName := ⟨RX12, "table", "(III)I"⟩
abbrev cX12_isColumn : ByteArray := prog_14_method_102_code
def yX12_isColumn : MethodName := ⟨RX12, "isColumn", "(II)Z"⟩
abbrev cX12_isCell : ByteArray := prog_14_method_103_code
def yX12_isCell : MethodName := ⟨RX12, "isCell", "(III)Z"⟩
abbrev cX12_cellAt : ByteArray := prog_14_method_104_code
def yX12_cellAt : MethodName := ⟨RX12, "cellAt", "(III)I"⟩
abbrev cX12_fill : ByteArray := prog_14_method_105_code
def yX12_fill : MethodName := ⟨RX12, "fill", "(IIIJ)I"⟩
abbrev cX12_blank : ByteArray := prog_14_method_106_code
def yX12_blank : MethodName := ⟨RX12, "blank", "(III)I"⟩
abbrev cX12_read : ByteArray := prog_14_method_107_code
def yX12_read : MethodName := ⟨RX12, "read", "(III)J"⟩
abbrev cX12_choose : ByteArray := prog_14_method_108_code
def yX12_choose : MethodName := ⟨RX12, "choose", "(IIJI)I"⟩
abbrev cX12_isAhead : ByteArray := prog_14_method_109_code
def yX12_isAhead : MethodName := ⟨RX12, "isAhead", "(IIIIZ)Z"⟩
abbrev cX12_rank : ByteArray := prog_14_method_110_code
def yX12_rank : MethodName := ⟨RX12, "rank", "(IIZ)I"⟩
abbrev cX12_filledIn : ByteArray := prog_14_method_111_code
def yX12_filledIn : MethodName := ⟨RX12, "filledIn", "(II)I"⟩
abbrev cX12_sumOf : ByteArray := prog_14_method_112_code
def yX12_sumOf : MethodName := ⟨RX12, "sumOf", "(II)J"⟩
abbrev cX12_total : ByteArray := prog_14_method_113_code
def yX12_total : MethodName := ⟨RX12, "total", "(II)J"⟩
abbrev cX12_mean : ByteArray := prog_14_method_114_code
def yX12_mean : MethodName := ⟨RX12, "mean", "(II)J"⟩
abbrev cX12_add : ByteArray := prog_14_method_115_code
def yX12_add : MethodName := ⟨RX12, "add", "(I)V"⟩
abbrev cX12_make : ByteArray := prog_14_method_116_code
def yX12_make : MethodName := ⟨RX12, "make", "()I"⟩
abbrev cX12_word : ByteArray := prog_14_method_117_code
def yX12_word : MethodName := ⟨RX12, "word", "(I)I"⟩
abbrev cX12_digest : ByteArray := prog_14_method_118_code
def yX12_digest : MethodName := ⟨RX12, "digest", "()J"⟩
abbrev cX12_sentence : ByteArray := prog_14_method_119_code
def yX12_sentence : MethodName := ⟨RX12, "sentence", "(II)I"⟩
abbrev cX12_count : ByteArray := prog_14_method_120_code
def yX12_count : MethodName := ⟨RX12, "count", "(I)I"⟩
abbrev cX12_fault : ByteArray := prog_14_method_121_code
def yX12_fault : MethodName := ⟨RX12, "fault", "()I"⟩
abbrev cX12_clear : ByteArray := prog_14_method_122_code
def yX12_clear : MethodName := ⟨RX12, "clear", "()I"⟩
def RJ13 : String := "java/lang/Long"
def TJ13 : u_T := fun k => match k with
  | _ => ("", "", "", false)
def tyJ13 : Nat → FieldType := fun k => match k with
  | _ => .int
abbrev wsJ130 : List Cond := u_ws RJ13 TJ13 0
theorem nmJ13 : ∀ a, a < 0 → ∀ b, b < 0 → a ≠ b → (TJ13 a).2.1 ≠ (TJ13 b).2.1 := by decide +kernel
theorem tyJ13_ok : ∀ k, k < 0 → parseFieldDescriptor (TJ13 k).2.2.1 = some (tyJ13 k) := by decide +kernel
abbrev cJ13_bitCount_95d88 : ByteArray := prog_15_method_50_code
def yJ13_bitCount_95d88 : MethodName := ⟨RJ13, "bitCount", "(J)I"⟩
def RJ9 : String := "java/lang/Math"
def TJ9 : u_T := fun k => match k with
  | _ => ("", "", "", false)
def tyJ9 : Nat → FieldType := fun k => match k with
  | _ => .int
abbrev wsJ90 : List Cond := u_ws RJ9 TJ9 0
theorem nmJ9 : ∀ a, a < 0 → ∀ b, b < 0 → a ≠ b → (TJ9 a).2.1 ≠ (TJ9 b).2.1 := by decide +kernel
theorem tyJ9_ok : ∀ k, k < 0 → parseFieldDescriptor (TJ9 k).2.2.1 = some (tyJ9 k) := by decide +kernel
abbrev cJ9_max_7cf53 : ByteArray := prog_16_method_65_code
def yJ9_max_7cf53 : MethodName := ⟨RJ9, "max", "(II)I"⟩
def RL : String := "WorldMakeLaw"
abbrev cL_law : ByteArray := code
def yL_law : MethodName := ⟨RL, "law", "([I)Z"⟩
abbrev vwCl : List vw_C := [(RX0, TX0, 2), (RX1, TX1, 16), (RX2, TX2, 7), (RX3, TX3, 7), (RX4, TX4, 5), (RX5, TX5, 4), (RX6, TX6, 3), (RX7, TX7, 6), (RX8, TX8, 8), (RX9, TX9, 10), (RX10, TX10, 4), (RX11, TX11, 17), (RX12, TX12, 58)]
end
section
/-! the tables held against the class files: what each entry needs is among the words (by its place), decided by the kernel -/
abbrev XI : Type := MethodName × ByteArray × Option FieldType × Nat × Bool
def MI_l : List (List XI) := [[(yX0_init, cX0_init, none, 0, true), (yX0_begin, cX0_begin, none, 0, false), (yX0_add, cX0_add, (some .int), 0, false), (yX0_has, cX0_has, (some .boolean), 0, false), (yX0_fits, cX0_fits, (some .boolean), 0, false), (yX0_baseOf, cX0_baseOf, (some .int), 0, false), (yX1_init, cX1_init, none, 1, true), (yX1_begin, cX1_begin, none, 1, false), (yX1_homeAt, cX1_homeAt, (some .int), 1, false), (yX1_isLaid, cX1_isLaid, (some .boolean), 1, false), (yX1_liesIn, cX1_liesIn, (some .boolean), 1, false), (yX1_hasAllHomes, cX1_hasAllHomes, (some .boolean), 1, false), (yX1_isWithin, cX1_isWithin, (some .boolean), 1, false), (yX1_lay, cX1_lay, none, 1, false), (yX1_lift, cX1_lift, none, 1, false), (yX1_againstPut, cX1_againstPut, (some .int), 1, false)],
  [(yX1_isCrowded, cX1_isCrowded, (some .boolean), 1, false), (yX1_againstPairs, cX1_againstPairs, (some .int), 1, false), (yX1_partner, cX1_partner, (some .int), 1, false), (yX1_againstBar, cX1_againstBar, (some .int), 1, false), (yX1_shut, cX1_shut, none, 1, false), (yX1_againstAmong, cX1_againstAmong, (some .int), 1, false), (yX1_earliestBarInto, cX1_earliestBarInto, (some .int), 1, false), (yX1_narrow, cX1_narrow, none, 1, false), (yX1_setOf, cX1_setOf, (some .long), 1, false), (yX1_isUnsettled, cX1_isUnsettled, (some .boolean), 1, false), (yX1_unsettled, cX1_unsettled, (some .int), 1, false), (yX1_againstPairing, cX1_againstPairing, (some .int), 1, false), (yX1_addPair, cX1_addPair, none, 1, false), (yX1_hasMost, cX1_hasMost, (some .boolean), 1, false), (yX1_tellMost, cX1_tellMost, none, 1, false), (yX1_putBehind, cX1_putBehind, (some .int), 1, false)],
  [(yX1_bulk, cX1_bulk, (some .int), 1, false), (yX1_bulkAlone, cX1_bulkAlone, (some .int), 1, false), (yX1_load, cX1_load, (some .int), 1, false), (yX2_init, cX2_init, none, 2, true), (yX2_add, cX2_add, (some .int), 2, false), (yX2_has, cX2_has, (some .boolean), 2, false), (yX2_rowOf, cX2_rowOf, (some .long), 2, false), (yX2_holds, cX2_holds, (some .boolean), 2, false), (yX2_join, cX2_join, none, 2, false), (yX2_merge, cX2_merge, none, 2, false), (yX2_againstRelate, cX2_againstRelate, (some .int), 2, false), (yX2_earliestDeny, cX2_earliestDeny, (some .int), 2, false), (yX2_earliestRelate, cX2_earliestRelate, (some .int), 2, false), (yX2_heldBy, cX2_heldBy, (some .int), 2, false), (yX2_togetherBy, cX2_togetherBy, (some .int), 2, false), (yX2_walkFrom, cX2_walkFrom, (some (.object "WorldMake$Walk")), 2, false)],
  [(yX2_couples, cX2_couples, (some .int), 2, false), (yX3_init, cX3_init, none, 3, true), (yX3_begin, cX3_begin, none, 3, false), (yX3_write, cX3_write, none, 3, false), (yX3_sortOf, cX3_sortOf, (some .int), 3, false), (yX3_leadsTo, cX3_leadsTo, (some .int), 3, false), (yX3_isTold, cX3_isTold, (some .boolean), 3, false), (yX3_toldIn, cX3_toldIn, (some .int), 3, false), (yX3_opposite, cX3_opposite, (some .int), 3, false), (yX3_tellExit, cX3_tellExit, none, 3, false), (yX3_againstDoor, cX3_againstDoor, (some .int), 3, false), (yX3_tellDoor, cX3_tellDoor, none, 3, false), (yX3_isPassable, cX3_isPassable, (some .boolean), 3, false), (yX3_walkFrom, cX3_walkFrom, (some (.object "WorldMake$Walk")), 3, false), (yX4_init, cX4_init, none, 4, true), (yX4_areFull, cX4_areFull, (some .boolean), 4, false)],
  [(yX4_add, cX4_add, (some .int), 4, false), (yX4_earliest, cX4_earliest, (some .int), 4, false), (yX5_init, cX5_init, none, 5, true), (yX5_ways, cX5_ways, (some .int), 5, false), (yX5_thingAt, cX5_thingAt, (some .int), 5, false), (yX5_takeLeastWay, cX5_takeLeastWay, (some .boolean), 5, false), (yX5_layFrom, cX5_layFrom, (some .boolean), 5, false), (yX5_lets, cX5_lets, (some .boolean), 5, false), (yX6_init, cX6_init, none, 6, true), (yX6_begin, cX6_begin, none, 6, false), (yX6_spans, cX6_spans, (some .boolean), 6, false), (yX7_init, cX7_init, none, 7, true), (yX7_begin, cX7_begin, none, 7, false), (yX7_hasCell, cX7_hasCell, (some .boolean), 7, false), (yX7_isBlank, cX7_isBlank, (some .boolean), 7, false), (yX7_told, cX7_told, (some .long), 7, false)],
  [(yX7_write, cX7_write, none, 7, false), (yX7_wipe, cX7_wipe, (some .boolean), 7, false), (yX7_rowWith, cX7_rowWith, (some .int), 7, false), (yX7_order, cX7_order, (some .int), 7, false), (yX7_isAhead, cX7_isAhead, (some .boolean), 7, false), (yX7_swap, cX7_swap, none, 7, false), (yX7_sum, cX7_sum, (some .long), 7, false), (yX7_filledIn, cX7_filledIn, (some .int), 7, false), (yX8_init, cX8_init, none, 8, true), (yX8_add, cX8_add, (some .int), 8, false), (yX8_has, cX8_has, (some .boolean), 8, false), (yX8_all, cX8_all, (some .long), 8, false), (yX8_holders, cX8_holders, (some .long), 8, false), (yX8_isRoom, cX8_isRoom, (some .boolean), 8, false), (yX8_haveRoom, cX8_haveRoom, (some .boolean), 8, false), (yX8_isCarrier, cX8_isCarrier, (some .boolean), 8, false)],
  [(yX8_isHolder, cX8_isHolder, (some .boolean), 8, false), (yX8_hasLid, cX8_hasLid, (some .boolean), 8, false), (yX8_isFixed, cX8_isFixed, (some .boolean), 8, false), (yX8_liesInOne, cX8_liesInOne, (some .boolean), 8, false), (yX8_mayLieIn, cX8_mayLieIn, (some .boolean), 8, false), (yX8_worth, cX8_worth, (some .int), 8, false), (yX8_lid, cX8_lid, (some .int), 8, false), (yX9_init, cX9_init, none, 9, true), (yX9_add, cX9_add, (some .int), 9, false), (yX9_has, cX9_has, (some .boolean), 9, false), (yX9_emptyCell, cX9_emptyCell, (some .long), 9, false), (yX9_knows, cX9_knows, (some .boolean), 9, false), (yX9_takes, cX9_takes, (some .boolean), 9, false), (yX9_isFor, cX9_isFor, (some .boolean), 9, false), (yX9_tellUsual, cX9_tellUsual, none, 9, false), (yX9_tellGiven, cX9_tellGiven, none, 9, false)],
  [(yX9_givenBy, cX9_givenBy, (some .int), 9, false), (yX9_givenCell, cX9_givenCell, (some .long), 9, false), (yX9_isGivenOtherwise, cX9_isGivenOtherwise, (some .boolean), 9, false), (yX9_valueOf, cX9_valueOf, (some .long), 9, false), (yX10_init, cX10_init, none, 10, true), (yX10_begin, cX10_begin, none, 10, false), (yX10_step, cX10_step, none, 10, false), (yX11_init, cX11_init, none, 11, true), (yX11_beginAnew, cX11_beginAnew, none, 11, false), (yX11_faulted, cX11_faulted, (some .int), 11, false), (yX11_against, cX11_against, (some .int), 11, false), (yX11_inRange, cX11_inRange, (some .boolean), 11, false), (yX11_kind, cX11_kind, (some .int), 11, false), (yX11_is, cX11_is, (some .int), 11, false), (yX11_property, cX11_property, (some .int), 11, false), (yX11_usual, cX11_usual, (some .int), 11, false)],
  [(yX11_thing, cX11_thing, (some .int), 11, false), (yX11_put, cX11_put, (some .int), 11, false), (yX11_bar, cX11_bar, (some .int), 11, false), (yX11_give, cX11_give, (some .int), 11, false), (yX11_value, cX11_value, (some .long), 11, false), (yX11_given, cX11_given, (some .int), 11, false), (yX11_peek, cX11_peek, (some .long), 11, false), (yX11_place, cX11_place, (some .int), 11, false), (yX11_says, cX11_says, (some .int), 11, false), (yX11_saying, cX11_saying, (some .int), 11, false), (yX11_stride, cX11_stride, (some .int), 11, false), (yX11_follow, cX11_follow, (some .int), 11, false), (yX11_mark, cX11_mark, (some .int), 11, false), (yX11_remark, cX11_remark, (some .int), 11, false), (yX11_open, cX11_open, (some .int), 11, false), (yX11_among, cX11_among, (some .int), 11, false)],
  [(yX11_pair, cX11_pair, (some .int), 11, false), (yX11_most, cX11_most, (some .int), 11, false), (yX11_settle, cX11_settle, (some .int), 11, false), (yX11_set, cX11_set, (some .long), 11, false), (yX11_relation, cX11_relation, (some .int), 11, false), (yX11_relate, cX11_relate, (some .int), 11, false), (yX11_deny, cX11_deny, (some .int), 11, false), (yX11_related, cX11_related, (some .int), 11, false), (yX11_along, cX11_along, (some .int), 11, false), (yX11_next, cX11_next, (some .int), 11, false), (yX11_areRelatable, cX11_areRelatable, (some .boolean), 11, false), (yX11_exit, cX11_exit, (some .int), 11, false), (yX11_door, cX11_door, (some .int), 11, false), (yX11_leads, cX11_leads, (some .int), 11, false), (yX11_sort, cX11_sort, (some .int), 11, false), (yX11_route, cX11_route, (some .int), 11, false)],
  [(yX11_first, cX11_first, (some .int), 11, false), (yX11_shelf, cX11_shelf, (some .int), 11, false), (yX11_stand, cX11_stand, (some .int), 11, false), (yX11_shelfTakes, cX11_shelfTakes, (some .boolean), 11, false), (yX11_stands, cX11_stands, (some .int), 11, false), (yX11_haul, cX11_haul, (some .int), 11, false), (yX11_came, cX11_came, (some .int), 11, false), (yX11_table, cX11_table, (some .int), 11, false), (yX11_areLanes, cX11_areLanes, (some .boolean), 11, false), (yX11_fill, cX11_fill, (some .int), 11, false), (yX11_blank, cX11_blank, (some .int), 11, false), (yX11_read, cX11_read, (some .long), 11, false), (yX11_choose, cX11_choose, (some .int), 11, false), (yX11_rank, cX11_rank, (some .int), 11, false), (yX11_total, cX11_total, (some .long), 11, false), (yX11_mean, cX11_mean, (some .long), 11, false)],
  [(yX11_make, cX11_make, (some .int), 11, false), (yX11_addWord, cX11_addWord, none, 11, false), (yX11_addWordsOfThing, cX11_addWordsOfThing, none, 11, false), (yX11_addWordsOfRoom, cX11_addWordsOfRoom, none, 11, false), (yX11_word, cX11_word, (some .int), 11, false), (yX11_digest, cX11_digest, (some .long), 11, false), (yX11_sentence, cX11_sentence, (some .int), 11, false), (yX11_count, cX11_count, (some .int), 11, false), (yX11_fault, cX11_fault, (some .int), 11, false), (yX11_clear, cX11_clear, (some .int), 11, false), (yX11_bit, cX11_bit, (some .long), 11, false), (yX11_toldBy, cX11_toldBy, (some .long), 11, false), (yX12_init, cX12_init, none, 12, true), (yX12_in, cX12_in, (some .boolean), 12, false), (yX12_faulty, cX12_faulty, (some .int), 12, false), (yX12_begin, cX12_begin, none, 12, false)],
  [(yX12_isKind, cX12_isKind, (some .boolean), 12, false), (yX12_isProperty, cX12_isProperty, (some .boolean), 12, false), (yX12_comesTo, cX12_comesTo, (some .boolean), 12, false), (yX12_baseOf, cX12_baseOf, (some .int), 12, false), (yX12_kind, cX12_kind, (some .int), 12, false), (yX12_is, cX12_is, (some .int), 12, false), (yX12_property, cX12_property, (some .int), 12, false), (yX12_cell, cX12_cell, (some .long), 12, false), (yX12_isUnknown, cX12_isUnknown, (some .boolean), 12, false), (yX12_isStored, cX12_isStored, (some .boolean), 12, false), (yX12_usual, cX12_usual, (some .int), 12, false), (yX12_isThing, cX12_isThing, (some .boolean), 12, false), (yX12_base, cX12_base, (some .int), 12, false), (yX12_isCarrier, cX12_isCarrier, (some .boolean), 12, false), (yX12_isHolder, cX12_isHolder, (some .boolean), 12, false), (yX12_isFixed, cX12_isFixed, (some .boolean), 12, false)],
  [(yX12_isBackdrop, cX12_isBackdrop, (some .boolean), 12, false), (yX12_thing, cX12_thing, (some .int), 12, false), (yX12_tell, cX12_tell, (some .int), 12, false), (yX12_against, cX12_against, (some .int), 12, false), (yX12_first, cX12_first, (some .int), 12, false), (yX12_latestAmong, cX12_latestAmong, (some .int), 12, false), (yX12_isWithin, cX12_isWithin, (some .boolean), 12, false), (yX12_placeOf, cX12_placeOf, (some .int), 12, false), (yX12_nth, cX12_nth, (some .int), 12, false), (yX12_held, cX12_held, (some .int), 12, false), (yX12_pairAgainst, cX12_pairAgainst, (some .int), 12, false), (yX12_putAgainst, cX12_putAgainst, (some .int), 12, false), (yX12_lies, cX12_lies, (some .int), 12, false), (yX12_put, cX12_put, (some .int), 12, false), (yX12_bar, cX12_bar, (some .int), 12, false), (yX12_give, cX12_give, (some .int), 12, false)],
  [(yX12_valueOf, cX12_valueOf, (some .long), 12, false), (yX12_value, cX12_value, (some .long), 12, false), (yX12_given, cX12_given, (some .int), 12, false), (yX12_peek, cX12_peek, (some .long), 12, false), (yX12_place, cX12_place, (some .int), 12, false), (yX12_loadOf, cX12_loadOf, (some .int), 12, false), (yX12_bulkOf, cX12_bulkOf, (some .int), 12, false), (yX12_worthOf, cX12_worthOf, (some .int), 12, false), (yX12_lidOf, cX12_lidOf, (some .int), 12, false), (yX12_said, cX12_said, (some .int), 12, false), (yX12_says, cX12_says, (some .int), 12, false), (yX12_follow, cX12_follow, (some .int), 12, false), (yX12_hasOwn, cX12_hasOwn, (some .boolean), 12, false), (yX12_mark, cX12_mark, (some .int), 12, false), (yX12_remark, cX12_remark, (some .int), 12, false), (yX12_open, cX12_open, (some .int), 12, false)],
  [(yX12_among, cX12_among, (some .int), 12, false), (yX12_pair, cX12_pair, (some .int), 12, false), (yX12_most, cX12_most, (some .int), 12, false), (yX12_isUnsettled, cX12_isUnsettled, (some .boolean), 12, false), (yX12_unsettled, cX12_unsettled, (some .int), 12, false), (yX12_keeps, cX12_keeps, (some .boolean), 12, false), (yX12_lowest, cX12_lowest, (some .int), 12, false), (yX12_many, cX12_many, (some .int), 12, false), (yX12_goesOn, cX12_goesOn, (some .boolean), 12, false), (yX12_settle, cX12_settle, (some .int), 12, false), (yX12_set, cX12_set, (some .long), 12, false), (yX12_isRelation, cX12_isRelation, (some .boolean), 12, false), (yX12_groupUp, cX12_groupUp, none, 12, false), (yX12_told, cX12_told, (some .int), 12, false), (yX12_earlier, cX12_earlier, (some .int), 12, false), (yX12_hasBy, cX12_hasBy, (some .int), 12, false)],
  [(yX12_has, cX12_has, (some .boolean), 12, false), (yX12_deniedBy, cX12_deniedBy, (some .int), 12, false), (yX12_oneOnly, cX12_oneOnly, (some .int), 12, false), (yX12_relation, cX12_relation, (some .int), 12, false), (yX12_isCouple, cX12_isCouple, (some .boolean), 12, false), (yX12_relate, cX12_relate, (some .int), 12, false), (yX12_deny, cX12_deny, (some .int), 12, false), (yX12_related, cX12_related, (some .int), 12, false), (yX12_couples, cX12_couples, none, 12, false), (yX12_goBack, cX12_goBack, none, 12, false), (yX12_along, cX12_along, (some .int), 12, false), (yX12_next, cX12_next, (some .int), 12, false), (yX12_isRoom, cX12_isRoom, (some .boolean), 12, false), (yX12_lead, cX12_lead, none, 12, false), (yX12_exit, cX12_exit, (some .int), 12, false), (yX12_door, cX12_door, (some .int), 12, false)],
  [(yX12_leads, cX12_leads, (some .int), 12, false), (yX12_sort, cX12_sort, (some .int), 12, false), (yX12_goes, cX12_goes, (some .boolean), 12, false), (yX12_routeBack, cX12_routeBack, none, 12, false), (yX12_route, cX12_route, (some .int), 12, false), (yX12_first_, cX12_first_, (some .int), 12, false), (yX12_isShelf, cX12_isShelf, (some .boolean), 12, false), (yX12_takes, cX12_takes, (some .boolean), 12, false), (yX12_shelf, cX12_shelf, (some .int), 12, false), (yX12_stand, cX12_stand, (some .int), 12, false), (yX12_stands, cX12_stands, (some .int), 12, false), (yX12_haul, cX12_haul, (some .int), 12, false), (yX12_came, cX12_came, (some .int), 12, false), (yX12_isTable, cX12_isTable, (some .boolean), 12, false), (yX12_table, cX12_table, (some .int), 12, false), (yX12_isColumn, cX12_isColumn, (some .boolean), 12, false)],
  [(yX12_isCell, cX12_isCell, (some .boolean), 12, false), (yX12_cellAt, cX12_cellAt, (some .int), 12, false), (yX12_fill, cX12_fill, (some .int), 12, false), (yX12_blank, cX12_blank, (some .int), 12, false), (yX12_read, cX12_read, (some .long), 12, false), (yX12_choose, cX12_choose, (some .int), 12, false), (yX12_isAhead, cX12_isAhead, (some .boolean), 12, false), (yX12_rank, cX12_rank, (some .int), 12, false), (yX12_filledIn, cX12_filledIn, (some .int), 12, false), (yX12_sumOf, cX12_sumOf, (some .long), 12, false), (yX12_total, cX12_total, (some .long), 12, false), (yX12_mean, cX12_mean, (some .long), 12, false), (yX12_add, cX12_add, none, 12, false), (yX12_make, cX12_make, (some .int), 12, false), (yX12_word, cX12_word, (some .int), 12, false), (yX12_digest, cX12_digest, (some .long), 12, false)],
  [(yX12_sentence, cX12_sentence, (some .int), 12, false), (yX12_count, cX12_count, (some .int), 12, false), (yX12_fault, cX12_fault, (some .int), 12, false), (yX12_clear, cX12_clear, (some .int), 12, false), (yJ13_bitCount_95d88, cJ13_bitCount_95d88, (some .int), 13, false), (yJ9_max_7cf53, cJ9_max_7cf53, (some .int), 14, false), (yL_law, cL_law, (some .boolean), 15, false)]]
def cN (k : Nat) : String := xgl "" [RX0, RX1, RX2, RX3, RX4, RX5, RX6, RX7, RX8, RX9, RX10, RX11, RX12, RJ13, RJ9, RL] k
/-- fields: class, index, kind of the object, slot, 0 for a number -/
abbrev XF : Type := Nat × Nat × Nat × Nat × Nat
def FT_l : List XF := [(0, 9, 10, 0, 2), (9, 86, 10, 0, 2), (0, 15, 10, 1, 0), (11, 136, 10, 1, 0), (8, 31, 18, 0, 2), (8, 9, 18, 1, 2), (9, 71, 18, 1, 2), (11, 479, 18, 1, 2), (8, 15, 18, 2, 2), (1, 65, 18, 2, 2), (9, 63, 18, 2, 2), (11, 275, 18, 2, 2), (8, 18, 18, 3, 2), (1, 141, 18, 3, 2), (11, 482, 18, 3, 2), (8, 21, 18, 4, 2), (11, 281, 18, 4, 2), (8, 24, 18, 5, 2), (11, 284, 18, 5, 2), (8, 27, 18, 6, 2), (3, 53, 18, 6, 2), (11, 287, 18, 6, 2), (8, 35, 18, 7, 0), (5, 23, 18, 7, 0), (11, 107, 18, 7, 0), (2, 89, 18, 7, 0), (1, 128, 18, 7, 0), (9, 35, 19, 0, 2), (9, 39, 19, 1, 2), (9, 9, 19, 2, 2), (11, 159, 19, 2, 2), (9, 15, 19, 3, 2), (11, 248, 19, 3, 2), (9, 18, 19, 4, 2), (9, 21, 19, 5, 2), (9, 25, 19, 6, 2), (9, 29, 19, 7, 2), (9, 32, 19, 8, 2), (9, 43, 19, 9, 0), (11, 111, 19, 9, 0), (4, 9, 14, 0, 2), (2, 64, 14, 0, 2), (1, 119, 14, 0, 2), (11, 489, 14, 0, 2), (4, 15, 14, 1, 2), (2, 67, 14, 1, 2), (1, 122, 14, 1, 2), (11, 492, 14, 1, 2), (4, 18, 14, 2, 2), (2, 70, 14, 2, 2), (1, 125, 14, 2, 2), (11, 495, 14, 2, 2), (4, 21, 14, 3, 2), (2, 73, 14, 3, 2), (4, 24, 14, 4, 0), (11, 112, 14, 4, 0), (2, 61, 14, 4, 0), (1, 116, 14, 4, 0), (1, 53, 11, 0, 2), (1, 57, 11, 1, 2), (1, 9, 11, 2, 2), (1, 15, 11, 3, 2), (1, 18, 11, 4, 2), (1, 21, 11, 5, 2), (1, 25, 11, 6, 2), (1, 28, 11, 7, 2), (1, 31, 11, 8, 2), (1, 34, 11, 9, 2), (1, 37, 11, 10, 2), (1, 40, 11, 11, 2), (1, 43, 11, 12, 2), (1, 46, 11, 13, 2), (1, 50, 11, 14, 2), (11, 113, 11, 15, 0), (1, 100, 11, 15, 0), (5, 15, 15, 0, 2), (5, 19, 15, 1, 2), (5, 9, 15, 2, 2), (5, 45, 15, 3, 0), (10, 9, 20, 0, 2), (11, 370, 20, 0, 2), (10, 15, 20, 1, 2), (11, 373, 20, 1, 2), (10, 18, 20, 2, 2), (2, 86, 20, 2, 2), (3, 69, 20, 2, 2), (10, 21, 20, 3, 0), (2, 85, 20, 3, 0), (3, 65, 20, 3, 0), (2, 22, 12, 0, 2), (2, 26, 12, 1, 2), (2, 30, 12, 2, 2), (2, 9, 12, 3, 2), (11, 473, 12, 3, 2), (2, 15, 12, 4, 2), (2, 19, 12, 5, 2), (2, 34, 12, 6, 0), (11, 116, 12, 6, 0), (3, 27, 13, 0, 2), (3, 31, 13, 1, 2), (3, 9, 13, 2, 2), (3, 15, 13, 3, 2), (3, 18, 13, 4, 2), (3, 21, 13, 5, 2), (3, 24, 13, 6, 2), (6, 9, 16, 0, 2), (11, 415, 16, 0, 2), (6, 15, 16, 1, 0), (11, 418, 16, 1, 0), (6, 19, 16, 2, 0), (11, 408, 16, 2, 0), (7, 9, 17, 0, 2), (7, 15, 17, 1, 2), (7, 19, 17, 2, 2), (7, 23, 17, 3, 2), (7, 26, 17, 4, 0), (7, 30, 17, 5, 0), (11, 444, 17, 5, 0), (11, 12, 21, 0, 2), (11, 21, 21, 1, 2), (11, 30, 21, 2, 2), (11, 37, 21, 3, 2), (11, 46, 21, 4, 2), (11, 55, 21, 5, 2), (11, 67, 21, 6, 2), (11, 76, 21, 7, 2), (11, 82, 21, 8, 2), (11, 89, 21, 9, 2), (11, 94, 21, 10, 2), (11, 98, 21, 11, 2), (11, 117, 21, 12, 0), (11, 120, 21, 13, 0), (11, 123, 21, 14, 0), (11, 126, 21, 15, 0), (11, 129, 21, 16, 0), (12, 157, 22, 0, 0), (12, 161, 22, 1, 0), (12, 7, 22, 2, 2), (12, 164, 22, 3, 0), (12, 13, 22, 4, 2), (12, 16, 22, 5, 2), (12, 19, 22, 6, 2), (12, 22, 22, 7, 2), (12, 26, 22, 8, 2), (12, 167, 22, 9, 0), (12, 30, 22, 10, 2), (12, 33, 22, 11, 2), (12, 36, 22, 12, 2), (12, 39, 22, 13, 2), (12, 42, 22, 14, 2), (12, 45, 22, 15, 2), (12, 48, 22, 16, 2), (12, 51, 22, 17, 2), (12, 54, 22, 18, 2), (12, 57, 22, 19, 2), (12, 60, 22, 20, 2), (12, 63, 22, 21, 2), (12, 170, 22, 22, 0), (12, 66, 22, 23, 2), (12, 69, 22, 24, 2), (12, 72, 22, 25, 2), (12, 75, 22, 26, 2), (12, 185, 22, 27, 0), (12, 78, 22, 28, 2), (12, 173, 22, 29, 0), (12, 81, 22, 30, 2), (12, 84, 22, 31, 2), (12, 87, 22, 32, 2), (12, 90, 22, 33, 2), (12, 93, 22, 34, 2), (12, 96, 22, 35, 2), (12, 99, 22, 36, 2), (12, 102, 22, 37, 2), (12, 105, 22, 38, 2), (12, 176, 22, 39, 0), (12, 108, 22, 40, 2), (12, 111, 22, 41, 2), (12, 114, 22, 42, 2), (12, 117, 22, 43, 2), (12, 188, 22, 44, 0), (12, 179, 22, 45, 0), (12, 120, 22, 46, 2), (12, 123, 22, 47, 2), (12, 126, 22, 48, 2), (12, 129, 22, 49, 2), (12, 132, 22, 50, 2), (12, 135, 22, 51, 2), (12, 139, 22, 52, 2), (12, 142, 22, 53, 2), (12, 145, 22, 54, 2), (12, 148, 22, 55, 2), (12, 182, 22, 56, 0), (12, 151, 22, 57, 2)]
/-- calls (virtual, <init>, static): class, index, receiver, callee, arguments, answer, nest mate; of Object and of max: class, index -/
abbrev XC : Type := Nat × Nat × Nat × Nat × Nat × Nat × Nat
def MT0_l : List XC := [(11, 101, 21, 120, 1, 3, 0), (11, 104, 10, 1, 1, 3, 0), (0, 19, 10, 2, 2, 0, 0), (15, 13, 21, 124, 2, 0, 0), (11, 132, 10, 3, 2, 0, 0), (11, 137, 10, 2, 2, 0, 0), (15, 18, 21, 125, 3, 0, 0), (11, 141, 10, 4, 3, 0, 0), (15, 23, 21, 126, 4, 0, 0), (11, 148, 10, 5, 2, 0, 0), (11, 151, 19, 104, 4, 0, 0), (9, 47, 19, 106, 2, 1, 0), (15, 30, 21, 127, 4, 0, 0), (11, 154, 19, 105, 2, 0, 0), (11, 155, 19, 107, 3, 0, 0), (9, 57, 18, 90, 2, 0, 0), (11, 162, 19, 108, 3, 0, 0), (9, 66, 10, 4, 3, 0, 0), (11, 165, 21, 121, 2, 0, 0), (11, 168, 19, 110, 4, 3, 0), (15, 35, 21, 128, 3, 0, 0), (11, 172, 18, 89, 3, 0, 0), (8, 39, 10, 5, 2, 0, 0), (11, 175, 11, 7, 2, 3, 0), (11, 178, 13, 50, 2, 3, 0), (3, 35, 13, 51, 6, 3, 0), (15, 39, 21, 129, 3, 0, 0), (11, 179, 18, 90, 2, 0, 0), (11, 182, 18, 100, 3, 0, 0), (8, 62, 18, 98, 2, 0, 0), (8, 65, 18, 93, 2, 0, 0), (8, 55, 18, 90, 2, 0, 0), (8, 51, 18, 96, 2, 0, 0), (8, 59, 18, 95, 2, 0, 0), (11, 185, 11, 12, 3, 0, 0), (1, 70, 11, 8, 3, 0, 0), (11, 188, 11, 10, 3, 0, 0), (11, 191, 14, 63, 1, 0, 0), (11, 195, 11, 11, 2, 0, 0), (11, 198, 11, 15, 3, 0, 0), (1, 74, 18, 99, 2, 0, 0), (1, 78, 11, 9, 2, 0, 0), (1, 85, 14, 65, 5, 0, 0), (1, 91, 11, 16, 2, 0, 0), (1, 97, 11, 29, 2, 0, 0), (1, 94, 11, 17, 3, 0, 0), (1, 104, 11, 18, 3, 0, 0), (11, 204, 14, 64, 5, 0, 0), (11, 207, 11, 13, 4, 3, 0), (15, 43, 21, 130, 3, 0, 0), (11, 211, 18, 98, 2, 0, 0), (11, 214, 18, 96, 2, 0, 0), (11, 217, 11, 19, 3, 0, 0), (1, 107, 11, 10, 3, 0, 0), (11, 220, 11, 20, 3, 3, 0), (15, 47, 21, 131, 4, 0, 0), (11, 224, 19, 109, 3, 0, 0), (11, 227, 19, 114, 4, 0, 0), (9, 78, 19, 112, 3, 0, 0), (9, 82, 19, 113, 3, 1, 0), (11, 231, 19, 112, 3, 0, 0), (11, 234, 19, 111, 5, 3, 0), (15, 51, 21, 132, 3, 1, 0), (11, 242, 19, 115, 3, 1, 0), (15, 56, 21, 133, 3, 0, 0), (15, 60, 21, 134, 4, 1, 0), (11, 251, 19, 113, 3, 1, 0), (15, 65, 21, 135, 3, 0, 0), (11, 254, 11, 8, 3, 0, 0), (15, 69, 21, 136, 3, 0, 0), (11, 257, 21, 137, 3, 0, 0), (11, 260, 11, 32, 2, 0, 0), (1, 137, 11, 34, 2, 0, 0), (1, 147, 11, 12, 3, 0, 0), (1, 144, 11, 33, 2, 0, 0), (11, 263, 18, 101, 2, 0, 0), (11, 266, 11, 34, 2, 0, 0), (11, 269, 18, 97, 2, 0, 0), (11, 272, 18, 102, 2, 0, 0), (11, 278, 21, 138, 2, 0, 0), (15, 73, 21, 139, 4, 0, 0), (15, 77, 21, 140, 3, 0, 0), (15, 81, 21, 141, 4, 0, 0), (15, 85, 21, 142, 3, 0, 0), (15, 90, 21, 143, 3, 0, 0), (11, 291, 18, 91, 1, 1, 0), (11, 295, 18, 99, 2, 0, 0), (11, 302, 18, 92, 1, 1, 0), (11, 305, 11, 21, 3, 0, 0), (1, 112, 11, 22, 3, 0, 0), (11, 309, 11, 23, 4, 3, 0), (15, 95, 21, 144, 4, 0, 0), (11, 313, 11, 27, 4, 0, 0), (11, 317, 11, 28, 5, 3, 0), (15, 100, 21, 145, 3, 0, 0), (11, 321, 11, 29, 2, 0, 0), (11, 324, 11, 31, 3, 0, 0), (11, 327, 11, 30, 4, 3, 0), (15, 104, 21, 146, 1, 0, 0), (11, 330, 11, 26, 1, 0, 0), (1, 129, 11, 25, 2, 0, 0), (11, 334, 15, 67, 1, 0, 0), (5, 29, 11, 25, 2, 0, 0), (5, 35, 11, 24, 2, 1, 0), (11, 337, 15, 69, 2, 0, 0), (5, 46, 15, 70, 3, 0, 0), (5, 53, 15, 71, 3, 0, 0), (5, 64, 11, 12, 3, 0, 0), (5, 67, 11, 16, 2, 0, 0), (5, 70, 11, 17, 3, 0, 0), (5, 56, 11, 13, 4, 3, 0), (5, 60, 11, 14, 2, 3, 0), (11, 340, 15, 68, 2, 0, 0), (15, 109, 21, 147, 2, 1, 0), (11, 343, 11, 24, 2, 1, 0), (15, 114, 21, 148, 2, 0, 0), (11, 346, 12, 36, 2, 0, 0), (15, 118, 21, 149, 4, 0, 0), (11, 347, 21, 154, 4, 0, 0), (11, 376, 12, 37, 2, 0, 0), (11, 351, 12, 39, 4, 0, 0), (2, 46, 12, 38, 3, 1, 0), (11, 354, 12, 42, 4, 0, 0), (2, 54, 12, 43, 4, 0, 0), (2, 58, 12, 44, 4, 0, 0), (11, 357, 12, 40, 4, 3, 0), (15, 122, 21, 150, 4, 0, 0), (11, 360, 14, 65, 5, 0, 0), (11, 363, 12, 45, 4, 0, 0), (2, 76, 12, 46, 4, 0, 0), (15, 126, 21, 151, 4, 0, 0), (15, 130, 21, 152, 4, 0, 0), (11, 366, 12, 47, 3, 2, 0), (2, 79, 20, 117, 2, 3, 0), (2, 92, 20, 118, 4, 3, 0), (15, 134, 21, 153, 4, 0, 0), (15, 138, 21, 155, 4, 0, 0), (11, 377, 18, 93, 2, 0, 0), (11, 380, 13, 54, 3, 0, 0), (3, 39, 13, 52, 3, 0, 0), (11, 383, 13, 52, 3, 0, 0), (11, 386, 13, 53, 3, 0, 0), (11, 389, 13, 55, 3, 0, 0), (11, 392, 13, 57, 5, 3, 0), (15, 142, 21, 156, 5, 0, 0), (11, 396, 13, 58, 5, 0, 0), (3, 47, 13, 55, 3, 0, 0), (11, 399, 13, 59, 6, 3, 0), (15, 147, 21, 157, 3, 0, 0), (15, 151, 21, 158, 3, 0, 0), (15, 155, 21, 159, 4, 0, 0), (11, 403, 13, 61, 3, 2, 0), (3, 59, 20, 117, 2, 3, 0), (3, 72, 13, 60, 4, 0, 0), (3, 50, 13, 53, 3, 0, 0), (3, 76, 20, 118, 4, 3, 0), (15, 159, 21, 160, 4, 0, 0), (15, 163, 21, 161, 3, 0, 0), (11, 406, 16, 73, 3, 3, 0), (15, 167, 21, 162, 4, 0, 0), (11, 411, 21, 163, 3, 0, 0), (15, 171, 21, 164, 3, 0, 0), (15, 175, 21, 165, 6, 0, 0), (11, 421, 16, 74, 3, 0, 0), (15, 180, 21, 166, 1, 0, 0), (15, 184, 21, 167, 4, 0, 0), (11, 427, 17, 76, 4, 3, 0), (15, 188, 21, 169, 5, 0, 0), (11, 429, 17, 77, 3, 0, 0), (11, 432, 17, 80, 4, 3, 0), (15, 193, 21, 170, 4, 0, 0), (11, 435, 17, 81, 3, 0, 0), (15, 197, 21, 171, 4, 1, 0), (11, 438, 17, 78, 3, 0, 0), (11, 441, 17, 79, 3, 1, 0), (15, 201, 21, 172, 5, 0, 0), (11, 447, 17, 82, 4, 0, 0), (7, 41, 17, 78, 3, 0, 0), (7, 44, 17, 79, 3, 1, 0), (15, 206, 21, 173, 4, 0, 0), (11, 451, 17, 83, 3, 0, 0), (7, 48, 17, 84, 5, 0, 0), (7, 52, 17, 85, 3, 3, 0), (15, 210, 21, 174, 3, 1, 0), (11, 455, 17, 86, 2, 1, 0), (15, 214, 21, 175, 3, 1, 0), (11, 458, 17, 87, 2, 0, 0), (15, 218, 21, 176, 1, 0, 0), (11, 461, 18, 94, 1, 0, 0), (11, 464, 21, 177, 2, 3, 0), (11, 467, 21, 178, 2, 3, 0), (11, 470, 21, 179, 2, 3, 0), (11, 476, 12, 48, 2, 0, 0), (15, 222, 21, 180, 2, 0, 0), (15, 226, 21, 181, 1, 1, 0), (15, 231, 21, 182, 3, 0, 0), (15, 235, 21, 183, 2, 0, 0), (15, 239, 21, 184, 1, 0, 0), (15, 243, 21, 185, 1, 0, 0), (12, 154, 22, 191, 1, 3, 0), (15, 17, 22, 196, 2, 0, 0), (12, 195, 22, 192, 2, 0, 0), (15, 22, 22, 197, 3, 0, 0), (12, 199, 22, 194, 3, 0, 0), (15, 27, 22, 198, 4, 0, 0), (12, 205, 22, 195, 2, 0, 0), (15, 34, 22, 202, 4, 0, 0), (12, 213, 22, 193, 2, 0, 0), (12, 216, 22, 200, 3, 0, 0), (12, 220, 22, 201, 3, 0, 0), (12, 223, 22, 190, 2, 0, 0), (15, 38, 22, 209, 3, 0, 0), (15, 42, 22, 221, 3, 0, 0), (12, 262, 22, 203, 2, 0, 0), (12, 238, 22, 208, 2, 0, 0), (12, 230, 22, 204, 2, 0, 0), (12, 266, 22, 206, 2, 0, 0), (12, 233, 22, 205, 2, 0, 0), (12, 269, 22, 207, 2, 0, 0), (12, 272, 22, 214, 3, 0, 0), (12, 275, 22, 216, 3, 0, 0), (12, 278, 22, 219, 3, 0, 0), (12, 244, 22, 212, 4, 0, 0), (12, 248, 22, 213, 2, 0, 0), (12, 251, 22, 217, 2, 0, 0), (12, 241, 22, 215, 2, 0, 0), (12, 254, 22, 218, 3, 0, 0), (12, 284, 22, 220, 3, 0, 0), (12, 258, 22, 210, 5, 0, 0), (15, 46, 22, 222, 3, 0, 0), (15, 50, 22, 223, 4, 0, 0), (15, 55, 22, 225, 3, 1, 0), (12, 291, 22, 224, 3, 1, 0), (15, 59, 22, 226, 3, 0, 0), (15, 64, 22, 227, 4, 1, 0), (15, 68, 22, 228, 3, 0, 0), (15, 72, 22, 234, 3, 0, 0), (12, 313, 22, 233, 3, 0, 0), (12, 299, 22, 229, 2, 0, 0), (12, 302, 22, 230, 2, 0, 0), (12, 305, 22, 231, 2, 0, 0), (12, 308, 22, 232, 2, 0, 0), (15, 76, 22, 235, 4, 0, 0), (15, 80, 22, 237, 3, 0, 0), (12, 316, 22, 236, 2, 0, 0), (15, 84, 22, 238, 4, 0, 0), (15, 89, 22, 239, 3, 0, 0), (15, 94, 22, 240, 3, 0, 0), (15, 99, 22, 241, 4, 0, 0), (15, 103, 22, 242, 3, 0, 0), (15, 108, 22, 249, 1, 0, 0), (12, 328, 22, 244, 1, 0, 0), (12, 321, 22, 243, 2, 0, 0), (12, 337, 22, 245, 1, 0, 0), (12, 341, 22, 248, 1, 0, 0), (15, 113, 22, 250, 2, 1, 0), (15, 117, 22, 259, 2, 0, 0), (15, 121, 22, 261, 4, 0, 0), (12, 362, 22, 260, 4, 0, 0), (12, 359, 22, 251, 2, 0, 0), (12, 366, 22, 256, 4, 0, 0), (12, 354, 22, 255, 4, 0, 0), (12, 344, 22, 252, 3, 3, 0), (12, 348, 22, 253, 5, 0, 0), (12, 369, 22, 257, 4, 0, 0), (12, 372, 22, 258, 4, 0, 0), (15, 125, 22, 262, 4, 0, 0), (15, 129, 22, 263, 4, 0, 0), (15, 133, 22, 266, 4, 0, 0), (12, 375, 22, 264, 2, 3, 0), (12, 379, 22, 265, 2, 3, 0), (15, 137, 22, 267, 4, 0, 0), (15, 141, 22, 270, 4, 0, 0), (12, 382, 22, 268, 2, 0, 0), (12, 387, 22, 269, 6, 3, 0), (15, 146, 22, 271, 5, 0, 0), (15, 150, 22, 272, 3, 0, 0), (15, 154, 22, 273, 3, 0, 0), (15, 158, 22, 276, 4, 0, 0), (12, 395, 22, 275, 3, 3, 0), (12, 391, 22, 274, 3, 0, 0), (15, 162, 22, 277, 4, 0, 0), (15, 166, 22, 280, 3, 0, 0), (15, 170, 22, 281, 4, 0, 0), (12, 399, 22, 278, 2, 0, 0), (12, 402, 22, 279, 3, 0, 0), (15, 174, 22, 282, 3, 0, 0), (15, 179, 22, 283, 6, 0, 0), (15, 183, 22, 284, 1, 0, 0), (15, 187, 22, 286, 4, 0, 0), (15, 192, 22, 290, 5, 0, 0), (12, 410, 22, 285, 2, 0, 0), (12, 413, 22, 288, 4, 0, 0), (12, 407, 22, 287, 3, 0, 0), (15, 196, 22, 291, 4, 0, 0), (15, 200, 22, 292, 4, 1, 0), (15, 205, 22, 293, 5, 0, 0), (15, 209, 22, 295, 4, 0, 0), (12, 421, 22, 294, 6, 0, 0), (15, 213, 22, 298, 3, 1, 0), (12, 425, 22, 297, 3, 1, 0), (15, 217, 22, 299, 3, 1, 0), (12, 428, 22, 296, 3, 0, 0), (15, 221, 22, 301, 1, 0, 0), (12, 431, 22, 300, 2, 3, 0), (12, 434, 22, 272, 3, 0, 0), (15, 225, 22, 302, 2, 0, 0), (15, 230, 22, 303, 1, 1, 0), (15, 234, 22, 304, 3, 0, 0), (15, 238, 22, 305, 2, 0, 0), (15, 242, 22, 306, 1, 0, 0), (15, 246, 22, 307, 1, 0, 0)]
def MT1_l : List XC := [(15, 9, 21, 119, 1, 3, 0), (11, 11, 10, 0, 1, 3, 1), (11, 18, 18, 88, 2, 3, 0), (11, 27, 19, 103, 3, 3, 0), (11, 36, 14, 62, 1, 3, 1), (11, 43, 11, 6, 3, 3, 0), (11, 52, 15, 66, 3, 3, 0), (11, 61, 20, 116, 1, 3, 1), (11, 64, 12, 35, 4, 3, 0), (11, 73, 13, 49, 3, 3, 0), (11, 86, 16, 72, 1, 3, 1), (11, 93, 17, 75, 1, 3, 1), (15, 12, 22, 188, 1, 3, 0)]
def MT2_l : List XC := [(0, 23, 0, 123, 2, 0, 1), (11, 145, 0, 123, 2, 0, 0), (9, 51, 0, 123, 2, 0, 1), (9, 74, 0, 187, 2, 1, 1), (1, 61, 0, 123, 2, 0, 1), (1, 81, 0, 186, 1, 1, 1), (11, 201, 0, 122, 1, 0, 0), (8, 47, 0, 186, 1, 1, 1), (11, 298, 0, 186, 1, 1, 0), (5, 39, 0, 308, 1, 0, 0), (5, 50, 0, 186, 1, 1, 1), (2, 38, 0, 186, 1, 1, 1), (2, 42, 0, 123, 2, 0, 1), (2, 50, 0, 41, 4, 3, 0), (3, 43, 0, 56, 1, 0, 0), (11, 424, 0, 168, 2, 0, 0), (7, 33, 0, 123, 2, 0, 1), (7, 37, 0, 187, 2, 1, 1), (2, 98, 0, 308, 1, 0, 0), (12, 191, 0, 189, 3, 0, 0), (12, 226, 0, 199, 2, 1, 0), (12, 281, 0, 211, 1, 0, 0), (12, 334, 0, 247, 1, 0, 0), (12, 324, 0, 246, 1, 0, 0), (12, 351, 0, 254, 2, 0, 0), (12, 416, 0, 289, 3, 0, 0)]
def MT3_l : List (Nat × Nat) := [(11, 3), (0, 3), (8, 3), (9, 3), (4, 3), (1, 3), (5, 3), (10, 3), (2, 3), (3, 3), (6, 3), (7, 3), (12, 1)]
def MT4_l : List (Nat × Nat) := [(1, 132)]
def KT_l : List (Nat × Nat × Int) := [(9, 55, (-9)), (1, 110, (-1)), (11, 238, (-1)), (11, 240, (-3)), (11, 246, (-2)), (8, 45, (-1)), (13, 314, 6148914691236517205), (13, 316, 3689348814741910323), (13, 318, 1085102592571150095), (2, 96, (-1)), (11, 485, 17), (11, 487, 31), (12, 203, 8), (12, 211, (-9)), (12, 209, 65535), (12, 236, 1000), (12, 287, (-1)), (12, 289, (-3)), (12, 295, (-2)), (12, 297, 63), (12, 311, 4), (12, 319, 64), (12, 332, 3000), (12, 357, 5), (12, 385, 7), (12, 405, 16), (12, 419, 15), (12, 437, 17), (12, 439, 31), (15, 28, 4294967295)]
def NT_l : List (Nat × Nat × Nat) := [(15, 7, 21), (11, 9, 10), (11, 16, 18), (11, 25, 19), (11, 34, 14), (11, 41, 11), (11, 50, 15), (11, 59, 20), (11, 62, 12), (11, 71, 13), (11, 80, 16), (11, 87, 17), (15, 10, 22)]
def mI (m : Nat) : XI := xg2 (yX0_init, cX0_init, none, 0, false) MI_l m
abbrev mY (m : Nat) : MethodName := (mI m).1
abbrev mC (m : Nat) : ByteArray := (mI m).2.1
abbrev mR (m : Nat) : Option FieldType := (mI m).2.2.1
abbrev mK (m : Nat) : Nat := (mI m).2.2.2.1
abbrev mN (m : Nat) : Bool := (mI m).2.2.2.2
def vcl (ci : Nat) : vw_C := xgl ("", TX0, 0) vwCl ci
def vty (ci : Nat) : Nat → FieldType := xgl tyX0 [tyX0, tyX1, tyX2, tyX3, tyX4, tyX5, tyX6, tyX7, tyX8, tyX9, tyX10, tyX11, tyX12] ci
def rtag : Option FieldType → Nat
  | none => 3
  | some .int => 0
  | some .boolean => 0
  | some .long => 1
  | some (.object _) => 2
  | _ => 7
def isI : FieldType → Bool
  | .int => true
  | _ => false
def npar (y : MethodName) : Nat := match parseMethodDescriptor y.desc with
  | some d => d.parameters.length
  | none => 99
/-- words picked out of a list in its order, by how many are passed over before each -/
def wskip : Nat → List Cond → List Cond
  | 0, l => l
  | _ + 1, [] => []
  | n + 1, _ :: l => wskip n l
def wpick : List Nat → List Cond → List Cond
  | [], _ => []
  | g :: gs, l => match wskip g l with
    | [] => []
    | w :: l => w :: wpick gs l
theorem wskip_mem {w : Cond} : ∀ (n : Nat) (l : List Cond), w ∈ wskip n l → w ∈ l := by
  intro n
  induction n with
  | zero => intro l h; exact h
  | succ n ih =>
    intro l h
    cases l with
    | nil => exact h
    | cons a l => exact List.mem_cons_of_mem _ (ih l h)
theorem wpick_mem {w : Cond} : ∀ (gs : List Nat) (l : List Cond), w ∈ wpick gs l → w ∈ l := by
  intro gs
  induction gs with
  | nil => intro l h; cases h
  | cons g gs ih =>
    intro l h
    unfold wpick at h
    cases hs : wskip g l with
    | nil => rw [hs] at h; cases h
    | cons a l2 =>
      rw [hs] at h
      rcases List.mem_cons.mp h with rfl | h
      · exact wskip_mem g l (by rw [hs]; exact List.mem_cons_self)
      · exact wskip_mem g l (by rw [hs]; exact List.mem_cons_of_mem _ (ih l2 h))
theorem wpick_map {α : Type} {L : List α} {f : α → Cond} {gs : List Nat} {l : List Cond} (h : wpick gs l = L.map f) {a : α} (ha : a ∈ L) : f a ∈ l := wpick_mem gs l (by rw [h]; exact List.mem_map_of_mem ha)
-- the words
def wF (f : XF) : Cond := .fieldLink (cN f.1) f.2.1 (vcl (f.2.2.1 - 10)).1 ((vcl (f.2.2.1 - 10)).2.1 f.2.2.2.1).2.1 ((vcl (f.2.2.1 - 10)).2.1 f.2.2.2.1).2.2.1
def wL (f : XC) : Cond := match f.2.2.2.2.2.2 with
  | 0 => .methodLink (cN f.1) f.2.1 (mY f.2.2.2.1)
  | _ => .methodLinkNest (cN f.1) f.2.1 (mY f.2.2.2.1) "WorldMake"
def okF (f : XF) : Bool := Nat.ble 10 f.2.2.1 && Nat.blt (f.2.2.1 - 10) 13 && Nat.blt f.2.2.2.1 (vcl (f.2.2.1 - 10)).2.2 && (Nat.beq f.2.2.2.2 0 == isI (vty (f.2.2.1 - 10) f.2.2.2.1))
def okV (f : XC) : Bool := Nat.blt f.2.2.2.1 310 && Nat.blt (mK f.2.2.2.1) 14 && Nat.beq (npar (mY f.2.2.2.1) + 1) f.2.2.2.2.1 && Nat.beq (rtag (mR f.2.2.2.1)) f.2.2.2.2.2.1 && Nat.beq f.2.2.2.2.2.2 0 && Nat.ble 10 f.2.2.1 && Nat.blt (f.2.2.1 - 10) 13 && Nat.beq (f.2.2.1 - 10) (mK f.2.2.2.1)
def okS (f : XC) : Bool := Nat.blt f.2.2.2.1 310 && Nat.blt (mK f.2.2.2.1) 14 && Nat.beq (npar (mY f.2.2.2.1) + 1) f.2.2.2.2.1 && (mR f.2.2.2.1).isNone && Nat.beq f.2.2.2.2.2.1 3 && Nat.ble 10 f.2.2.1 && mN f.2.2.2.1
def okT (f : XC) : Bool := Nat.blt f.2.2.2.1 310 && Nat.blt (mK f.2.2.2.1) 14 && Nat.beq (npar (mY f.2.2.2.1)) f.2.2.2.2.1 && Nat.beq (rtag (mR f.2.2.2.1)) f.2.2.2.2.2.1 && Nat.beq f.2.2.1 0
def ck32 (c : Int) : Bool := decide (-2147483648 ≤ c) && decide (c < 2147483648)
def ck64 (c : Int) : Bool := decide (-9223372036854775808 ≤ c) && decide (c < 9223372036854775808)
set_option maxRecDepth 100000 in
theorem sF1 : wpick [113, 0, 0, 0, 12, 0, 0, 0, 0, 0, 0, 0, 0, 0, 0, 0, 0, 0, 0, 0, 0, 0, 0, 0, 0, 0, 0, 24, 0, 0, 0, 0, 0, 0, 0, 0, 0, 0, 0, 0, 28, 0, 0, 0, 0, 0, 0, 0, 0, 0, 0, 0, 0, 0, 0, 0, 0, 0, 17, 0, 0, 0, 0, 0, 0, 0, 0, 0, 0, 0, 0, 0, 0, 0, 0, 39, 0, 0, 0, 15, 0, 0, 0, 0, 0, 0, 0, 0, 0, 15, 0, 0, 0, 0, 0, 0, 0, 0, 21, 0, 0, 0, 0, 0, 0, 22, 0, 0, 0, 0, 0, 14, 0, 0, 0, 0, 0, 0, 25, 0, 0, 0, 0, 0, 0, 0, 0, 0, 0, 0, 0, 0, 0, 0, 0, 789, 0, 0, 0, 0, 0, 0, 0, 0, 0, 0, 0, 0, 0, 0, 0, 0, 0, 0, 0, 0, 0, 0, 0, 0, 0, 0, 0, 0, 0, 0, 0, 0, 0, 0, 0, 0, 0, 0, 0, 0, 0, 0, 0, 0, 0, 0, 0, 0, 0, 0, 0, 0, 0, 0, 0, 0, 0] lw_tbl = FT_l.map wF := rfl
set_option maxRecDepth 100000 in
theorem sF2 : FT_l.map (fun f => ((vcl (f.2.2.1 - 10)).2.1 f.2.2.2.1).1) = FT_l.map (fun f => (vcl (f.2.2.1 - 10)).1) := rfl
set_option maxRecDepth 100000 in
theorem sF3 : FT_l.all okF = true := by decide +kernel
set_option maxRecDepth 100000 in
theorem sM01 : wpick [451, 3, 3, 55, 3, 6, 0, 3, 3, 4, 3, 3, 4, 3, 4, 3, 3, 3, 0, 3, 6, 3, 3, 0, 3, 3, 3, 3, 0, 3, 3, 3, 0, 3, 3, 3, 4, 3, 3, 3, 3, 3, 6, 3, 3, 3, 3, 6, 3, 3, 3, 0, 0, 3, 1, 3, 3, 3, 3, 3, 3, 0, 3, 5, 3, 3, 4, 0, 3, 0, 3, 3, 3, 3, 0, 3, 3, 0, 3, 3, 3, 3, 3, 3, 3, 3, 5, 1, 3, 3, 3, 3, 3, 6, 3, 3, 0, 3, 3, 3, 3, 3, 3, 0, 9, 3, 4, 3, 0, 0, 0, 0, 3, 3, 3, 0, 3, 4, 3, 3, 4, 3, 3, 3, 3, 3, 6, 3, 0, 3, 3, 3, 3, 3, 3, 3, 3, 3, 0, 3, 3, 0, 3, 3, 6, 3, 3, 0, 3, 3, 3, 3, 3, 0, 3, 0, 0, 3, 3, 3, 3, 3, 3, 3, 3, 3, 6, 3, 3, 4, 4, 3, 3, 3, 3, 3, 3, 3, 0, 0, 3, 3, 3, 3, 3, 3, 3, 3, 3, 3, 3, 3, 3, 5, 3, 5, 3, 3, 3, 9, 179, 3, 6, 3, 3, 4, 3, 3, 3, 4, 3, 7, 4, 3, 3, 3, 3, 3, 3, 3, 3, 3, 3, 3, 3, 3, 3, 6, 3, 3, 4, 3, 4, 3, 3, 5, 3, 4, 3, 3, 3, 3, 3, 3, 3, 3, 3, 3, 3, 3, 4, 3, 3, 10, 3, 3, 3, 4, 3, 3, 3, 3, 3, 3, 6, 3, 3, 3, 3, 3, 3, 3, 3, 3, 4, 3, 3, 3, 3, 3, 3, 3, 3, 3, 3, 3, 3, 3, 3, 3, 4, 3, 3, 3, 6, 3, 3, 4, 3, 3, 3, 3, 3, 3, 3, 3, 0, 3, 5, 3, 3, 3] lw_tbl = MT0_l.map wL := rfl
set_option maxRecDepth 100000 in
theorem sM05 : MT0_l.all okV = true := by decide +kernel
set_option maxRecDepth 100000 in
theorem sM11 : wpick [101, 7, 15, 46, 40, 34, 55, 18, 24, 29, 28, 19, 833] lw_tbl = MT1_l.map wL := rfl
set_option maxRecDepth 100000 in
theorem sM15 : MT1_l.all okS = true := by decide +kernel
set_option maxRecDepth 100000 in
theorem sM21 : wpick [523, 15, 21, 21, 57, 24, 22, 139, 1, 65, 13, 29, 12, 24, 65, 78, 14, 4, 87, 220, 40, 68, 113, 2, 47, 124] lw_tbl = MT2_l.map wL := rfl
set_option maxRecDepth 100000 in
theorem sM25 : MT2_l.all okT = true := by decide +kernel
set_option maxRecDepth 100000 in
theorem sM16 : MT1_l.map (fun f => (mY f.2.2.2.1).name) = MT1_l.map (fun _ => "<init>") := rfl
set_option maxRecDepth 100000 in
theorem sO1 : wpick [104, 7, 15, 46, 40, 34, 55, 18, 24, 29, 28, 19, 833] lw_tbl = MT3_l.map (fun f => Cond.methodLink (cN f.1) f.2 Lib.objectInit) := rfl
set_option maxRecDepth 100000 in
theorem sX1 : wpick [856] lw_tbl = MT4_l.map (fun f => Cond.methodLink (cN f.1) f.2 Lib.Math.max.name) := rfl
set_option maxRecDepth 100000 in
theorem sX2 : wpick [97, 7, 0, 750, 0] lw_tbl = [Cond.initialized "java/lang/Math", Cond.instanceMethod Lib.objectInit, Cond.code Lib.objectInit ⟨#[0xb1]⟩ 1 none, Cond.static Lib.Math.max.name, Cond.code Lib.Math.max.name Lib.Math.max.code 2 (some .int)] := rfl
set_option maxRecDepth 100000 in
theorem sK1 : wpick [552, 158, 33, 0, 12, 68, 71, 0, 0, 328, 9, 0, 225, 16, 11, 4, 75, 8, 12, 0, 8, 52, 12, 22, 71, 64, 31, 41, 0, 16] lw_tbl = KT_l.map (fun f => Cond.constantLong (cN f.1) f.2.1 (Int64.ofInt f.2.2)) := rfl
set_option maxRecDepth 100000 in
theorem sK2 : (KT_l.all fun f => ck64 f.2.2) = true := by decide +kernel
set_option maxRecDepth 100000 in
theorem sN1 : wpick [99, 7, 15, 46, 40, 34, 55, 18, 24, 29, 27, 19, 834] lw_tbl = NT_l.map (fun f => Cond.classLink (cN f.1) f.2.1 (vcl (f.2.2 - 10)).1) := rfl
set_option maxRecDepth 100000 in
theorem sN4 : (NT_l.all fun f => Nat.ble 10 f.2.2 && Nat.blt (f.2.2 - 10) 13) = true := by decide +kernel
set_option maxRecDepth 100000 in
theorem sN2 : wpick [100, 7, 15, 46, 40, 34, 55, 18, 24, 29, 28, 19, 833] lw_tbl = ([11, 0, 8, 9, 4, 1, 5, 10, 2, 3, 6, 7, 12] : List Nat).map (fun i => Cond.instantiable (vcl i).1 (vcl i).2.2) := rfl
def IC_l : List Nat := [15, 11, 0, 8, 9, 4, 1, 5, 10, 2, 3, 6, 7, 12, 14, 13]
set_option maxRecDepth 100000 in
theorem sN3 : wpick [83, 0, 0, 0, 0, 0, 0, 0, 0, 0, 0, 0, 0, 0, 0, 0] lw_tbl = IC_l.map (fun k => Cond.initialized (cN k)) := rfl
def CD_l : List Nat := [119, 0, 88, 103, 62, 6, 66, 116, 35, 49, 72, 75, 120, 1, 2, 124, 3, 123, 125, 4, 126, 5, 104, 106, 127, 105, 107, 90, 108, 121, 110, 187, 128, 89, 7, 50, 51, 129, 100, 98, 93, 96, 95, 12, 8, 10, 63, 11, 15, 99, 9, 186, 65, 16, 29, 17, 18, 122, 64, 13, 130, 19, 20, 131, 109, 114, 112, 113, 111, 132, 115, 133, 134, 135, 136, 137, 32, 34, 33, 101, 97, 102, 138, 139, 140, 141, 142, 143, 91, 92, 21, 22, 23, 144, 27, 309, 28, 145, 31, 30, 146, 26, 25, 67, 24, 308, 69, 70, 71, 14, 68, 147, 148, 36, 149, 154, 37, 39, 38, 42, 43, 44, 40, 41, 150, 45, 46, 151, 152, 47, 117, 118, 153, 155, 54, 52, 53, 55, 57, 56, 156, 58, 59, 157, 158, 159, 61, 60, 160, 161, 73, 162, 163, 164, 165, 74, 166, 167, 168, 76, 169, 77, 80, 170, 81, 171, 78, 79, 172, 82, 173, 83, 84, 85, 174, 86, 175, 87, 176, 94, 177, 178, 179, 48, 180, 181, 182, 183, 184, 185, 188, 191, 196, 192, 189, 197, 194, 198, 195, 202, 193, 200, 201, 190, 199, 209, 221, 203, 208, 204, 206, 205, 207, 214, 216, 219, 212, 213, 217, 215, 218, 211, 220, 210, 222, 223, 225, 224, 226, 227, 228, 234, 233, 229, 230, 231, 232, 235, 237, 236, 238, 239, 240, 241, 242, 249, 244, 243, 247, 246, 245, 248, 250, 259, 261, 260, 251, 256, 255, 252, 253, 254, 257, 258, 262, 263, 266, 264, 265, 267, 270, 268, 269, 271, 272, 273, 276, 275, 274, 277, 280, 281, 278, 279, 282, 283, 284, 286, 290, 285, 288, 287, 289, 291, 292, 293, 295, 294, 298, 297, 299, 296, 301, 300, 302, 303, 304, 305, 306, 307]
set_option maxRecDepth 100000 in
theorem sI1 : wpick [103, 7, 15, 46, 40, 34, 55, 18, 24, 29, 28, 19, 24, 3, 3, 55, 3, 2, 4, 3, 3, 4, 3, 3, 4, 3, 4, 3, 3, 4, 3, 2, 3, 3, 4, 3, 3, 3, 4, 3, 3, 4, 3, 3, 3, 4, 3, 3, 3, 3, 3, 2, 3, 3, 3, 3, 3, 2, 3, 3, 3, 5, 5, 3, 3, 3, 3, 3, 4, 3, 5, 3, 3, 5, 4, 3, 3, 3, 4, 3, 4, 3, 3, 3, 3, 3, 3, 3, 3, 7, 3, 3, 3, 3, 3, 2, 3, 3, 4, 3, 3, 3, 3, 3, 4, 2, 6, 3, 4, 7, 3, 3, 4, 3, 4, 3, 3, 4, 3, 3, 3, 3, 3, 2, 3, 4, 3, 3, 3, 3, 3, 3, 3, 3, 4, 3, 4, 3, 3, 2, 3, 3, 4, 3, 3, 3, 3, 4, 5, 3, 3, 3, 3, 3, 3, 3, 3, 3, 2, 3, 3, 3, 4, 4, 3, 3, 3, 3, 3, 3, 5, 3, 3, 3, 3, 3, 3, 3, 3, 3, 3, 3, 3, 3, 5, 3, 5, 3, 3, 3, 4, 4, 179, 3, 2, 3, 3, 3, 4, 3, 3, 3, 4, 3, 2, 4, 4, 3, 3, 3, 3, 3, 3, 3, 3, 3, 3, 3, 3, 3, 3, 2, 3, 3, 3, 4, 3, 4, 3, 3, 5, 3, 4, 3, 3, 3, 3, 3, 3, 3, 3, 3, 3, 3, 3, 4, 3, 3, 3, 2, 3, 3, 3, 3, 4, 3, 3, 3, 3, 3, 3, 2, 3, 3, 3, 3, 3, 3, 3, 3, 3, 3, 4, 3, 3, 3, 3, 3, 3, 3, 3, 3, 3, 3, 3, 3, 3, 3, 4, 3, 3, 3, 2, 3, 3, 3, 4, 3, 3, 3, 3, 3, 3, 3, 4, 3, 5, 3, 3, 3] lw_tbl = CD_l.map (fun m => Cond.code (mY m) (mC m) (XML m) (mR m)) := rfl
def IM_l : List Nat := [119, 0, 88, 103, 62, 6, 66, 116, 35, 49, 72, 75, 120, 1, 2, 124, 3, 125, 4, 126, 5, 104, 106, 127, 105, 107, 90, 108, 121, 110, 128, 89, 7, 50, 51, 129, 100, 98, 93, 96, 95, 12, 8, 10, 63, 11, 15, 99, 9, 65, 16, 29, 17, 18, 64, 13, 130, 19, 20, 131, 109, 114, 112, 113, 111, 132, 115, 133, 134, 135, 136, 137, 32, 34, 33, 101, 97, 102, 138, 139, 140, 141, 142, 143, 91, 92, 21, 22, 23, 144, 27, 28, 145, 31, 30, 146, 26, 25, 67, 24, 69, 70, 71, 14, 68, 147, 148, 36, 149, 154, 37, 39, 38, 42, 43, 44, 40, 150, 45, 46, 151, 152, 47, 117, 118, 153, 155, 54, 52, 53, 55, 57, 156, 58, 59, 157, 158, 159, 61, 60, 160, 161, 73, 162, 163, 164, 165, 74, 166, 167, 76, 169, 77, 80, 170, 81, 171, 78, 79, 172, 82, 173, 83, 84, 85, 174, 86, 175, 87, 176, 94, 177, 178, 179, 48, 180, 181, 182, 183, 184, 185, 188, 191, 196, 192, 197, 194, 198, 195, 202, 193, 200, 201, 190, 209, 221, 203, 208, 204, 206, 205, 207, 214, 216, 219, 212, 213, 217, 215, 218, 220, 210, 222, 223, 225, 224, 226, 227, 228, 234, 233, 229, 230, 231, 232, 235, 237, 236, 238, 239, 240, 241, 242, 249, 244, 243, 245, 248, 250, 259, 261, 260, 251, 256, 255, 252, 253, 257, 258, 262, 263, 266, 264, 265, 267, 270, 268, 269, 271, 272, 273, 276, 275, 274, 277, 280, 281, 278, 279, 282, 283, 284, 286, 290, 285, 288, 287, 291, 292, 293, 295, 294, 298, 297, 299, 296, 301, 300, 302, 303, 304, 305, 306, 307]
set_option maxRecDepth 100000 in
theorem sI4 : wpick [102, 7, 15, 46, 40, 34, 55, 18, 24, 29, 28, 19, 24, 2, 3, 55, 3, 7, 3, 3, 4, 3, 4, 3, 3, 4, 3, 3, 5, 2, 6, 3, 4, 3, 4, 2, 4, 3, 3, 4, 4, 2, 3, 4, 3, 3, 3, 3, 4, 5, 3, 3, 3, 4, 5, 3, 3, 5, 5, 3, 3, 3, 3, 3, 4, 3, 5, 3, 3, 5, 4, 4, 2, 3, 5, 2, 4, 3, 4, 2, 3, 3, 3, 3, 3, 7, 3, 4, 2, 3, 3, 6, 3, 4, 3, 3, 3, 3, 3, 4, 9, 4, 4, 6, 3, 3, 4, 3, 4, 4, 2, 4, 4, 2, 4, 3, 2, 6, 4, 4, 2, 3, 3, 3, 3, 3, 3, 4, 3, 4, 3, 3, 6, 3, 4, 3, 3, 3, 3, 5, 4, 3, 3, 3, 4, 2, 3, 3, 3, 3, 6, 3, 3, 4, 4, 3, 3, 3, 3, 3, 3, 5, 3, 4, 3, 2, 3, 3, 3, 3, 3, 4, 3, 3, 2, 5, 3, 5, 3, 3, 3, 5, 4, 178, 4, 5, 4, 2, 5, 2, 4, 3, 4, 3, 6, 4, 4, 3, 3, 3, 3, 3, 3, 3, 3, 3, 3, 3, 3, 3, 6, 3, 2, 4, 3, 5, 2, 3, 5, 3, 5, 3, 3, 3, 3, 2, 3, 4, 2, 3, 3, 3, 3, 4, 4, 3, 10, 3, 2, 3, 4, 4, 3, 3, 3, 3, 3, 6, 3, 2, 3, 3, 4, 3, 2, 3, 4, 4, 2, 3, 3, 3, 4, 3, 2, 3, 3, 4, 3, 2, 3, 3, 3, 4, 4, 3, 3, 5, 3, 3, 4, 4, 2, 4, 2, 4, 2, 4, 3, 3, 5, 3, 3, 3] lw_tbl = IM_l.map (fun m => Cond.instanceMethod (mY m)) := rfl
def ST_l : List Nat := [123, 187, 186, 122, 309, 308, 41, 56, 168, 189, 199, 211, 247, 246, 254, 289]
set_option maxRecDepth 100000 in
theorem sI5 : wpick [524, 59, 82, 22, 166, 40, 81, 65, 78, 328, 40, 68, 113, 2, 47, 124] lw_tbl = ST_l.map (fun m => Cond.static (mY m)) := rfl
def SE_l : List Nat := [120, 106, 121, 51, 95, 9, 18, 137, 33, 138, 22, 70, 71, 154, 38, 43, 44, 46, 60, 163, 84, 85, 177, 178, 179, 191, 192, 194, 195, 193, 200, 201, 190, 203, 208, 204, 206, 205, 207, 214, 216, 219, 212, 213, 217, 215, 218, 220, 210, 224, 233, 229, 230, 231, 232, 236, 244, 243, 245, 248, 260, 251, 256, 255, 252, 253, 257, 258, 264, 265, 268, 269, 275, 274, 278, 279, 285, 288, 287, 294, 297, 296, 300, 1, 2, 124, 3, 125, 4, 126, 5, 104, 127, 105, 107, 90, 108, 110, 128, 89, 7, 50, 129, 100, 98, 93, 96, 12, 8, 10, 63, 11, 15, 99, 65, 16, 29, 17, 64, 13, 130, 19, 20, 131, 109, 114, 112, 113, 111, 132, 115, 133, 134, 135, 136, 32, 34, 101, 97, 102, 139, 140, 141, 142, 143, 91, 92, 21, 23, 144, 27, 28, 145, 31, 30, 146, 26, 25, 67, 24, 69, 14, 68, 147, 148, 36, 149, 37, 39, 42, 40, 150, 45, 151, 152, 47, 117, 118, 153, 155, 54, 52, 53, 55, 57, 156, 58, 59, 157, 158, 159, 61, 160, 161, 73, 162, 164, 165, 74, 166, 167, 76, 169, 77, 80, 170, 81, 171, 78, 79, 172, 82, 173, 83, 174, 86, 175, 87, 176, 94, 48, 180, 181, 182, 183, 184, 185, 196, 197, 198, 202, 209, 221, 222, 223, 225, 226, 227, 228, 234, 235, 237, 238, 239, 240, 241, 242, 249, 250, 259, 261, 262, 263, 266, 267, 270, 271, 272, 273, 276, 277, 280, 281, 282, 283, 284, 286, 290, 291, 292, 293, 295, 298, 299, 301, 302, 303, 304, 305, 306, 307]
set_option maxRecDepth 100000 in
theorem sI6 : wpick [0, 0, 0, 0, 0, 0, 0, 0, 0, 0, 0, 0, 0, 0, 0, 0, 0, 0, 0, 0, 0, 0, 0, 0, 0, 0, 0, 0, 0, 0, 0, 0, 0, 0, 0, 0, 0, 0, 0, 0, 0, 0, 0, 0, 0, 0, 0, 0, 0, 0, 0, 0, 0, 0, 0, 0, 0, 0, 0, 0, 0, 0, 0, 0, 0, 0, 0, 0, 0, 0, 0, 0, 0, 0, 0, 0, 0, 0, 0, 0, 0, 0, 0, 374, 3, 55, 3, 7, 3, 3, 4, 3, 8, 3, 4, 3, 3, 8, 6, 3, 4, 3, 7, 4, 3, 3, 4, 7, 3, 4, 3, 3, 3, 3, 10, 3, 3, 3, 10, 3, 3, 5, 5, 3, 3, 3, 3, 3, 4, 3, 5, 3, 3, 5, 4, 7, 3, 8, 4, 3, 7, 3, 3, 3, 3, 3, 7, 3, 7, 3, 3, 6, 3, 4, 3, 3, 3, 3, 3, 4, 9, 16, 3, 3, 4, 3, 4, 7, 4, 7, 11, 6, 4, 7, 3, 3, 3, 3, 3, 3, 4, 3, 4, 3, 3, 6, 3, 4, 3, 3, 3, 3, 10, 3, 3, 3, 7, 3, 3, 3, 3, 6, 3, 3, 4, 4, 3, 3, 3, 3, 3, 3, 5, 3, 11, 3, 3, 3, 3, 3, 15, 5, 3, 5, 3, 3, 3, 189, 10, 7, 8, 24, 4, 70, 4, 3, 8, 3, 5, 3, 24, 3, 7, 3, 3, 3, 3, 4, 26, 3, 4, 38, 3, 3, 11, 3, 12, 3, 3, 3, 11, 3, 3, 11, 3, 3, 3, 4, 18, 3, 3, 4, 7, 7, 7, 8, 3, 5, 3, 3, 3] lw_tbl = SE_l.map (fun m => Cond.selects (mY m).cls (mY m) (mY m)) := rfl
set_option maxRecDepth 100000 in
theorem sI2 : (List.range 310).map (fun m => (mY m).cls) = (List.range 310).map (fun m => cN (mK m)) := rfl
set_option maxRecDepth 100000 in
theorem sI3 : ((List.range 310).all fun m => Nat.ble (XML m) 40 && (parseMethodDescriptor (mY m).desc).isSome && Nat.blt (mK m) 15 && CD_l.elem m) = true := by decide +kernel
set_option maxRecDepth 100000 in
theorem sI7 : (MT0_l.all fun f => IM_l.elem f.2.2.2.1 && SE_l.elem f.2.2.2.1) && (MT1_l.all fun f => IM_l.elem f.2.2.2.1) && (MT2_l.all fun f => ST_l.elem f.2.2.2.1) = true := by decide +kernel
set_option maxRecDepth 100000 in
theorem sC1 : ((List.range 14).all fun k => decide (cN k ≠ "java/lang/invoke/MethodHandle") && decide (cN k ≠ "java/lang/invoke/VarHandle") && plainName (cN k) && IC_l.elem k) = true := by decide +kernel
set_option maxRecDepth 100000 in
theorem sC2 : (List.range 13).map (fun k => cN k) = (List.range 13).map (fun k => (vcl k).1) := rfl
end
section
/-! how the abstract machine's state lies in the machine's -/
def ar (ad : Nat → Nat → Nat) (g i : Nat) : Option Nat := match g with
  | 0 => none
  | g + 1 => some (ad (g + 1) i)
def tv (ad : Nat → Nat → Nat) : XS → Value
  | .inl x => .int (Int32.ofInt x)
  | .inr (.inl x) => .long (Int64.ofInt x)
  | .inr (.inr (.inl x)) => .float (UInt32.ofNat x.toNat)
  | .inr (.inr (.inr (.inl x))) => .double (UInt64.ofNat x.toNat)
  | .inr (.inr (.inr (.inr (g, i)))) => va_rf (ar ad g i)
def rfv (md : Bool) (ad : Nat → Nat → Nat) (a b : Nat) (x : Int) : Option Nat := if md = false ∨ x = 1 then ar ad a b else none
def fv (md : Bool) (row : Nat → Int) (ad : Nat → Nat → Nat) (g i k : Nat) : Value := if isI (vty (WW.1 g - 10) k) = true then .int (Int32.ofInt (row k)) else va_rf (rfv md ad (WW.2.2.1 g k) (WW.2.2.2.1 g i k) (row k))
def ce (md : Bool) (row : Nat → Int) (ad : Nat → Nat → Nat) (dA : Nat → ClassId) (g i : Nat) : va_E := match WW.1 g with
  | 1 => .inl (dA 1, (WW.2.1 g).toNat, .inl (fun j => Int32.ofInt (row j)))
  | 2 => .inl (dA 2, (WW.2.1 g).toNat, .inr (.inl (fun j => Int64.ofInt (row j))))
  | 3 => .inl (dA 3, (WW.2.1 g).toNat, .inl (fun j => Int32.ofInt (row j)))
  | 4 => .inl (dA 4, (WW.2.1 g).toNat, .inr (.inr (.inr (.inl (fun j => UInt64.ofNat (row j).toNat)))))
  | 5 => .inl (dA 5, (WW.2.1 g).toNat, .inr (.inr (.inr (.inr (fun j => rfv md ad (WW.2.2.1 g 0) (WW.2.2.2.1 g i j) (row j))))))
  | 6 => .inl (dA 6, (WW.2.1 g).toNat, .inr (.inr (.inr (.inr (fun j => rfv md ad (WW.2.2.1 g 0) (WW.2.2.2.1 g i j) (row j))))))
  | k => .inr (k - 10, (List.range (vcl (k - 10)).2.2).map (fv md row ad g i))
abbrev tau (k : Nat) : Nat × Nat := WW.2.2.2.2.1 k
def wof (md : Bool) (n : Nat) (V : XM) (ad : Nat → Nat → Nat) (dA : Nat → ClassId) : va_W := (List.range n).map (fun k => (ad (tau k).1 (tau k).2, ce md (V (tau k).1 (tau k).2) ad dA (tau k).1 (tau k).2))
def al (n g i : Nat) : Prop := ∃ k, k < n ∧ tau k = (g, i)
def cK (k : Nat) (x : Int) : Prop := match k with
  | 2 => c64 x
  | 3 => x = 0 ∨ x = 1
  | 4 => 0 ≤ x ∧ x < 18446744073709551616
  | _ => c32 x
def cV (V : XM) : Prop := ∀ g i j, cK (WW.1 g) (V g i j)
def cS (sc : Bool) (n : Nat) : XS → Prop
  | .inl x => c32 x
  | .inr (.inl x) => c64 x
  | .inr (.inr (.inl x)) => 0 ≤ x ∧ x < 4294967296
  | .inr (.inr (.inr (.inl x))) => 0 ≤ x ∧ x < 18446744073709551616
  | .inr (.inr (.inr (.inr (g, i)))) => g = 0 ∨ (sc = true ∧ g = 1 ∧ i = 0) ∨ al n g i
/-- what references hold is there -/
def Iof (n : Nat) : Prop := (∀ (g i j : Nat), al n g i → (WW.1 g = 5 ∨ WW.1 g = 6) → (j : Int) < WW.2.1 g → al n (WW.2.2.1 g 0) (WW.2.2.2.1 g i j)) ∧ ∀ g i k, al n g i → 10 ≤ WW.1 g → k < (vcl (WW.1 g - 10)).2.2 → isI (vty (WW.1 g - 10) k) = false → al n (WW.2.2.1 g k) (WW.2.2.2.1 g i k)
def Iot (n : Nat) (V : XM) : Prop := (∀ g i j, al n g i → (WW.1 g = 5 ∨ WW.1 g = 6) → V g i j = 1 → al n (WW.2.2.1 g 0) (WW.2.2.2.1 g i j)) ∧ ∀ g i k, al n g i → 10 ≤ WW.1 g → isI (vty (WW.1 g - 10) k) = false → V g i k = 1 → al n (WW.2.2.1 g k) (WW.2.2.2.1 g i k)
def Io (md : Bool) (n : Nat) (V : XM) : Prop := match md with
  | false => Iof n
  | true => Iot n V ∧ V 0 0 0 = (n : Int)
/-- the addresses stay -/
def axt (n : Nat) (ad ad' : Nat → Nat → Nat) : Prop := ∀ g i, (g = 1 ∨ al n g i) → ad' g i = ad g i
def dead : XS → Bool
  | .inr (.inr (.inr (.inr (0, _)))) => true
  | _ => false
def lvl (ad : Nat → Nat → Nat) (ls : List XS) : List (Nat × Value) := (List.range ls.length).filterMap (fun k => if dead (xget ls k) = true then none else some (k, tv ad (xget ls k)))
-- facts that the kernel decides
theorem wt_1 : ((List.range 155).all fun k => Nat.blt 1 (tau k).1 && (Nat.beq (WW.1 (tau k).1) 1 || Nat.beq (WW.1 (tau k).1) 2 || Nat.beq (WW.1 (tau k).1) 3 || Nat.beq (WW.1 (tau k).1) 4 || Nat.beq (WW.1 (tau k).1) 5 || Nat.beq (WW.1 (tau k).1) 6 || (Nat.ble 10 (WW.1 (tau k).1) && Nat.blt (WW.1 (tau k).1 - 10) 13))) = true := by decide +kernel
theorem wt_2 : ((List.range 155).map tau).Nodup := by decide +kernel
theorem wt_3 : ((List.range 155).all fun k => decide (0 ≤ WW.2.1 (tau k).1)) = true := by decide +kernel
theorem wt_n : WW.2.2.2.2.2 = 155 := rfl
theorem tau_inj {a b : Nat} (ha : a < 155) (hb : b < 155) (h : tau a = tau b) : a = b := by
  have h1 : ((List.range 155).map tau)[a]? = some (tau a) := by simp [ha]
  have h2 : ((List.range 155).map tau)[b]? = some (tau a) := by rw [h]; simp [hb]
  exact (List.getElem?_inj (by simpa using ha) wt_2).mp (h1.trans h2.symm)
theorem al_kind {n g i : Nat} (hn : n ≤ 155) (h : al n g i) : 1 < g ∧ 0 ≤ WW.2.1 g ∧ (WW.1 g = 1 ∨ WW.1 g = 2 ∨ WW.1 g = 3 ∨ WW.1 g = 4 ∨ WW.1 g = 5 ∨ WW.1 g = 6 ∨ (10 ≤ WW.1 g ∧ WW.1 g - 10 < 13)) := by
  obtain ⟨k, hk, e⟩ := h
  have h1 := List.all_eq_true.mp wt_1 k (List.mem_range.mpr (by omega))
  have h3 := List.all_eq_true.mp wt_3 k (List.mem_range.mpr (by omega))
  rw [e] at h1 h3
  simp only [Bool.and_eq_true, Bool.or_eq_true, decide_eq_true_eq] at h1 h3
  refine ⟨Nat.le_of_ble_eq_true h1.1, h3, ?_⟩
  rcases h1.2 with (((((q | q) | q) | q) | q) | q) | ⟨q1, q2⟩
  · exact Or.inl (Nat.eq_of_beq_eq_true q)
  · exact Or.inr (Or.inl (Nat.eq_of_beq_eq_true q))
  · exact Or.inr (Or.inr (Or.inl (Nat.eq_of_beq_eq_true q)))
  · exact Or.inr (Or.inr (Or.inr (Or.inl (Nat.eq_of_beq_eq_true q))))
  · exact Or.inr (Or.inr (Or.inr (Or.inr (Or.inl (Nat.eq_of_beq_eq_true q)))))
  · exact Or.inr (Or.inr (Or.inr (Or.inr (Or.inr (Or.inl (Nat.eq_of_beq_eq_true q))))))
  · exact Or.inr (Or.inr (Or.inr (Or.inr (Or.inr (Or.inr ⟨Nat.le_of_ble_eq_true q1, Nat.le_of_ble_eq_true q2⟩)))))
theorem al_mono {n n' g i : Nat} (h : al n g i) (hn : n ≤ n') : al n' g i := by
  obtain ⟨k, hk, e⟩ := h
  exact ⟨k, by omega, e⟩
theorem wof_get {md : Bool} {n : Nat} {V : XM} {ad : Nat → Nat → Nat} {dA : Nat → ClassId} {g i k : Nat} (hk : k < n) (e : tau k = (g, i)) : (wof md n V ad dA)[k]? = some (ad g i, ce md (V g i) ad dA g i) := by
  unfold wof
  simp [hk, e]
theorem wof_len {md : Bool} {n : Nat} {V : XM} {ad : Nat → Nat → Nat} {dA : Nat → ClassId} : (wof md n V ad dA).length = n := by unfold wof; simp
/-- one cell is written -/
theorem wof_set {md : Bool} {n : Nat} {V : XM} {ad : Nat → Nat → Nat} {dA : Nat → ClassId} {g i j k : Nat} {x : Int} (hn : n ≤ 155) (hk : k < n) (e : tau k = (g, i)) {c : va_E} (hc : c = ce md (xu V g i j x g i) ad dA g i) : (wof md n V ad dA).set k (ad g i, c) = wof md n (xu V g i j x) ad dA := by
  apply List.ext_getElem?
  intro q
  by_cases hq : q < n
  · by_cases hqk : q = k
    · subst hqk
      rw [List.getElem?_set_self (by rw [wof_len]; exact hk), wof_get hk e, hc]
    · rw [List.getElem?_set_ne (fun h => hqk h.symm)]
      rw [wof_get (g := (tau q).1) (i := (tau q).2) hq rfl, wof_get (g := (tau q).1) (i := (tau q).2) hq rfl]
      have hne : ¬ ((tau q).1 = g ∧ (tau q).2 = i) := by
        intro h
        exact hqk (tau_inj (by omega) (by omega) (by rw [e]; exact Prod.ext h.1 h.2))
      have hr : xu V g i j x (tau q).1 (tau q).2 = V (tau q).1 (tau q).2 := by
        funext c
        unfold xu
        rw [if_neg (fun h => hne ⟨h.1, h.2.1⟩)]
      rw [hr]
  · rw [List.getElem?_eq_none (by rw [List.length_set, wof_len]; omega), List.getElem?_eq_none (by rw [wof_len]; omega)]
theorem xu_row {V : XM} {g i j : Nat} {x : Int} : xu V g i j x g i = fun c => if c = j then x else V g i c := by
  funext c
  unfold xu
  by_cases h : c = j <;> simp [h]
theorem lvl_mem {ad : Nat → Nat → Nat} {ls : List XS} {q : Nat × Value} : q ∈ lvl ad ls ↔ q.1 < ls.length ∧ dead (xget ls q.1) = false ∧ q.2 = tv ad (xget ls q.1) := by
  unfold lvl
  rw [List.mem_filterMap]
  constructor
  · rintro ⟨k, hk, h⟩
    cases hd : dead (xget ls k) with
    | true => rw [hd] at h; simp at h
    | false =>
      rw [hd] at h
      simp only [Bool.false_eq_true, if_false, Option.some.injEq] at h
      subst h
      exact ⟨List.mem_range.mp hk, hd, rfl⟩
  · rintro ⟨h1, h2, h3⟩
    refine ⟨q.1, List.mem_range.mpr h1, ?_⟩
    rw [h2]
    simp only [Bool.false_eq_true, if_false, Option.some.injEq]
    exact Prod.ext rfl h3.symm
theorem xset_length (v : XS) : ∀ (ls : List XS) (i : Nat), (xset ls i v).length = ls.length := by
  intro ls
  induction ls with
  | nil => intro i; rfl
  | cons a l ih => intro i; cases i with
    | zero => rfl
    | succ n => simp [xset, ih n]
theorem xget_set (v : XS) : ∀ (ls : List XS) (i k : Nat), i < ls.length → xget (xset ls i v) k = if k = i then v else xget ls k := by
  intro ls
  induction ls with
  | nil => intro i k h; simp at h
  | cons a l ih =>
    intro i k h
    cases i with
    | zero => cases k with
      | zero => rfl
      | succ k => simp [xset, xget]
    | succ i => cases k with
      | zero => simp [xset, xget]
      | succ k =>
        simp only [xset, xget, Nat.succ.injEq, Nat.add_right_cancel_iff]
        exact ih i k (by simpa using h)
theorem xget_mem : ∀ (ls : List XS) (k : Nat), k < ls.length → xget ls k ∈ ls := by
  intro ls
  induction ls with
  | nil => intro k h; simp at h
  | cons a l ih => intro k h; cases k with
    | zero => exact List.mem_cons_self
    | succ k => exact List.mem_cons_of_mem _ (ih k (by simpa using h))
theorem xget_out : ∀ (ls : List XS) (k : Nat), ls.length ≤ k → xget ls k = xr 0 0 := by
  intro ls
  induction ls with
  | nil => intro k h; rfl
  | cons a l ih => intro k h; cases k with
    | zero => simp at h
    | succ k => exact ih k (by simpa using h)
theorem xset_mem {v w : XS} : ∀ (ls : List XS) (i : Nat), w ∈ xset ls i v → w = v ∨ w ∈ ls := by
  intro ls
  induction ls with
  | nil => intro i h; exact Or.inr h
  | cons a l ih => intro i h; cases i with
    | zero =>
      rcases List.mem_cons.mp h with h | h
      · exact Or.inl h
      · exact Or.inr (List.mem_cons_of_mem _ h)
    | succ i =>
      rcases List.mem_cons.mp h with h | h
      · exact Or.inr (h ▸ List.mem_cons_self)
      · rcases ih i h with h | h
        · exact Or.inl h
        · exact Or.inr (List.mem_cons_of_mem _ h)
theorem xmask_length : ∀ (b : List Bool) (ls : List XS), b.length = ls.length → (xmask b ls).length = ls.length := by
  intro b
  induction b with
  | nil => intro ls h; cases ls with
    | nil => rfl
    | cons a l => simp at h
  | cons a b ih => intro ls h; cases ls with
    | nil => simp at h
    | cons v l => cases a <;> simp [xmask, ih l (by simpa using h)]
theorem xmask_get : ∀ (b : List Bool) (ls : List XS) (k : Nat), xget (xmask b ls) k = xget ls k ∨ xget (xmask b ls) k = xr 0 0 := by
  intro b
  induction b with
  | nil => intro ls k; cases ls <;> exact Or.inr rfl
  | cons a b ih => intro ls k; cases ls with
    | nil => cases a <;> exact Or.inr rfl
    | cons v l => cases k with
      | zero => cases a with
        | false => exact Or.inr rfl
        | true => exact Or.inl rfl
      | succ k => cases a <;> exact ih l k
theorem xmask_mem {w : XS} : ∀ (b : List Bool) (ls : List XS), w ∈ xmask b ls → w = xr 0 0 ∨ w ∈ ls := by
  intro b
  induction b with
  | nil => intro ls h; cases ls <;> cases h
  | cons a b ih => intro ls h; cases ls with
    | nil => cases a <;> cases h
    | cons v l => cases a with
      | false =>
        rcases List.mem_cons.mp h with h | h
        · exact Or.inl h
        · exact (ih l h).imp id (List.mem_cons_of_mem _)
      | true =>
        rcases List.mem_cons.mp h with h | h
        · exact Or.inr (h ▸ List.mem_cons_self)
        · exact (ih l h).imp id (List.mem_cons_of_mem _)
end
section
/-! the frame of the soundness proof -/
theorem tv_cat (ad : Nat → Nat → Nat) (v : XS) : (tv ad v).category = xcat v := by
  match v with
  | .inl x => rfl
  | .inr (.inl x) => rfl
  | .inr (.inr (.inl x)) => rfl
  | .inr (.inr (.inr (.inl x))) => rfl
  | .inr (.inr (.inr (.inr (0, i)))) => rfl
  | .inr (.inr (.inr (.inr (g + 1, i)))) => rfl
theorem xone1_cat {v : XS} (h : xone1 v = true) : xcat v = 1 := by
  match v, h with
  | .inl x, h => rfl
  | .inr (.inl x), h => cases h
  | .inr (.inr (.inl x)), h => rfl
  | .inr (.inr (.inr (.inl x))), h => cases h
  | .inr (.inr (.inr (.inr (g, i)))), h => rfl
theorem lvl_st1 {ad : Nat → Nat → Nat} {ls : List XS} {i : Nat} {v : XS} (hi : i < ls.length) (hok : xok1 ls i = true) {lsA : Array Slot} {nL : Nat} (h : lv_has lsA nL ((i, tv ad v) :: (lvl ad ls).filter (fun q => !(q.1 == i) && !(q.1 + 1 == i && q.2.category == 2)))) : lv_has lsA nL (lvl ad (xset ls i v)) := by
  refine ⟨h.1, h.2.1, fun q hq => h.2.2 q ?_⟩
  obtain ⟨a, b, c⟩ := lvl_mem.mp hq
  rw [xset_length] at a
  rw [xget_set v ls i q.1 hi] at b c
  by_cases e : q.1 = i
  · rw [if_pos e] at c
    exact List.mem_cons.mpr (Or.inl (Prod.ext e c))
  · rw [if_neg e] at b c
    refine List.mem_cons_of_mem _ (List.mem_filter.mpr ⟨lvl_mem.mpr ⟨a, b, c⟩, ?_⟩)
    simp only [Bool.and_eq_true, Bool.not_eq_true', beq_eq_false_iff_ne, ne_eq, Bool.and_eq_false_iff]
    refine ⟨e, ?_⟩
    by_cases e2 : q.1 + 1 = i
    · right
      rw [← e2] at hok
      rw [c, tv_cat, xone1_cat hok]
      decide
    · exact Or.inl e2
theorem lvl_st2 {ad : Nat → Nat → Nat} {ls : List XS} {i : Nat} {v : XS} (hi : i + 1 < ls.length) (hok : xok1 ls i = true) {lsA : Array Slot} {nL : Nat} (h : lv_has lsA nL ((i, tv ad v) :: (lvl ad ls).filter (fun q => !(q.1 == i) && (!(q.1 == i + 1) && !(q.1 + 1 == i && q.2.category == 2))))) : lv_has lsA nL (lvl ad (xset (xset ls i v) (i + 1) (xr 0 0))) := by
  refine ⟨h.1, h.2.1, fun q hq => h.2.2 q ?_⟩
  obtain ⟨a, b, c⟩ := lvl_mem.mp hq
  rw [xset_length, xset_length] at a
  rw [xget_set _ _ _ _ (by rw [xset_length]; exact hi)] at b c
  by_cases e3 : q.1 = i + 1
  · rw [if_pos e3] at b
    cases b
  rw [if_neg e3, xget_set v ls i q.1 (by omega)] at b c
  by_cases e : q.1 = i
  · rw [if_pos e] at c
    exact List.mem_cons.mpr (Or.inl (Prod.ext e c))
  · rw [if_neg e] at b c
    refine List.mem_cons_of_mem _ (List.mem_filter.mpr ⟨lvl_mem.mpr ⟨a, b, c⟩, ?_⟩)
    simp only [Bool.and_eq_true, Bool.not_eq_true', beq_eq_false_iff_ne, ne_eq, Bool.and_eq_false_iff]
    refine ⟨e, e3, ?_⟩
    by_cases e2 : q.1 + 1 = i
    · right
      rw [← e2] at hok
      rw [c, tv_cat, xone1_cat hok]
      decide
    · exact Or.inl e2
theorem lvl_mask {ad : Nat → Nat → Nat} {ls : List XS} (b : List Bool) (hb : b.length = ls.length) {lsA : Array Slot} {nL : Nat} (h : lv_has lsA nL (lvl ad ls)) : lv_has lsA nL (lvl ad (xmask b ls)) := by
  refine ⟨h.1, h.2.1, fun q hq => h.2.2 q ?_⟩
  obtain ⟨a, d, c⟩ := lvl_mem.mp hq
  rw [xmask_length b ls hb] at a
  rcases xmask_get b ls q.1 with e | e
  · rw [e] at d c
    exact lvl_mem.mpr ⟨a, d, c⟩
  · rw [e] at d
    cases d
theorem tv_axt {n : Nat} {ad ad' : Nat → Nat → Nat} {sc : Bool} (h : axt n ad ad') {v : XS} (hv : cS sc n v) : tv ad' v = tv ad v := by
  match v, hv with
  | .inl x, _ => rfl
  | .inr (.inl x), _ => rfl
  | .inr (.inr (.inl x)), _ => rfl
  | .inr (.inr (.inr (.inl x))), _ => rfl
  | .inr (.inr (.inr (.inr (0, i)))), _ => rfl
  | .inr (.inr (.inr (.inr (g + 1, i)))), hv =>
    have : ad' (g + 1) i = ad (g + 1) i := by
      rcases hv with hv | hv | hv
      · omega
      · exact h _ _ (Or.inl hv.2.1)
      · exact h _ _ (Or.inr hv)
    show va_rf (some (ad' (g + 1) i)) = va_rf (some (ad (g + 1) i))
    rw [this]
theorem map_axt {n : Nat} {ad ad' : Nat → Nat → Nat} {sc : Bool} (h : axt n ad ad') {st : List XS} (hv : ∀ v ∈ st, cS sc n v) : st.map (tv ad') = st.map (tv ad) := List.map_congr_left fun v hm => tv_axt h (hv v hm)
theorem lvl_axt {n : Nat} {ad ad' : Nat → Nat → Nat} {sc : Bool} (h : axt n ad ad') {ls : List XS} (hv : ∀ v ∈ ls, cS sc n v) {lsA : Array Slot} {nL : Nat} (hh : lv_has lsA nL (lvl ad ls)) : lv_has lsA nL (lvl ad' ls) := by
  refine ⟨hh.1, hh.2.1, fun q hq => hh.2.2 q ?_⟩
  obtain ⟨a, b, c⟩ := lvl_mem.mp hq
  rw [tv_axt h (hv _ (xget_mem ls q.1 a))] at c
  exact lvl_mem.mpr ⟨a, b, c⟩
theorem cS_mono {sc : Bool} {n n' : Nat} (hn : n ≤ n') {v : XS} (hv : cS sc n v) : cS sc n' v := by
  match v, hv with
  | .inl x, h => exact h
  | .inr (.inl x), h => exact h
  | .inr (.inr (.inl x)), h => exact h
  | .inr (.inr (.inr (.inl x))), h => exact h
  | .inr (.inr (.inr (.inr (g, i)))), h => exact h.imp id (fun h => h.imp id (fun h => al_mono h hn))
theorem cS_sc {sc : Bool} {n : Nat} {v : XS} (hv : cS false n v) : cS sc n v := by
  match v, hv with
  | .inl x, h => exact h
  | .inr (.inl x), h => exact h
  | .inr (.inr (.inl x)), h => exact h
  | .inr (.inr (.inr (.inl x))), h => exact h
  | .inr (.inr (.inr (.inr (g, i)))), h => exact h.imp id (fun h => Or.inr (h.elim (fun q => by cases q.1) id))
def tysA (dA : Nat → ClassId) : List (ClassId × FieldType) := [(dA 1, .int), (dA 2, .long), (dA 3, .boolean), (dA 4, .double), (dA 5, .object "WorldMake$Shelf"), (dA 6, .object "WorldMake$Table")]
def TW : List Cond := lw_tbl.filter goodWord
def isNest : Cond → Bool
  | .methodLinkNest _ _ _ _ => true
  | _ => false
def NWs (U : State) : Prop := (∀ w ∈ lw_tbl, isNest w = true → va_Nw w U) ∧ va_AO "WorldMake$Shelf" U ∧ va_AO "WorldMake$Table" U
def wsM (m : Nat) : List Cond := Cond.code (mY m) (mC m) (XML m) (mR m) :: TW
def slz (k : Nat) : Nat := if 10 ≤ WW.1 (tau k).1 then (vcl (WW.1 (tau k).1 - 10)).2.2 else (WW.2.1 (tau k).1).toNat
def Sl : Nat → Nat
  | 0 => 0
  | n + 1 => Sl n + slz n
theorem Sl_mono {a b : Nat} (h : a ≤ b) : Sl a ≤ Sl b := by
  induction h with
  | refl => exact Nat.le_refl _
  | step _ ih => exact Nat.le_trans ih (Nat.le_add_right _ _)
def nF (md : Bool) (n : Nat) (Vf : XM) : Nat := match md with
  | false => n
  | true => (Vf 0 0 0).toNat
def rmD (d mc ms : Nat) : Room := { frames := d, cells := mc, slots := ms, locals := 60 * d }
def world (D : va_G) (dA : Nat → ClassId) (z : Nat) (md : Bool) (n : Nat) (V : XM) (ad : Nat → Nat → Nat) (H : Heap) : Prop := va_P D vwCl (wof md n V ad dA) H ∧ va_D (fun q => z ≤ q) (wof md n V ad dA)
def XPre (D : va_G) (dA : Nat → ClassId) (z : Nat) (md : Bool) (n : Nat) (V : XM) (ad : Nat → Nat → Nat) (as : List XS) : Array Value → State → Prop := va_Pc (as.map (tv ad)) (fun U => z ≤ U.heap.size ∧ world D dA z md n V ad U.heap ∧ va_K D vwCl (tysA dA) U ∧ NWs U)
def rval (rt : Option FieldType) (ad : Nat → Nat → Nat) (r : XS) : Option Value := match rt with
  | none => none
  | some _ => some (tv ad r)
def XPost (D : va_G) (dA : Nat → ClassId) (z : Nat) (md : Bool) (n : Nat) (ad : Nat → Nat → Nat) (n' : Nat) (V' : XM) (r : XS) (rt : Option FieldType) : Array Value → State → Outcome → State → Prop := fun _ st oc t => ∃ ad', axt n ad ad' ∧ world D dA z md n' V' ad' t.heap ∧ oc = .returned (rval rt ad' r) ∧ va_F (fun q => z ≤ q) st t
def PEnd (V0 : XM) (sc md : Bool) (n : Nat) (r : XS) (Vf : XM) : Prop := Vf 1 = V0 1 ∧ cV Vf ∧ Io md (nF md n Vf) Vf ∧ n ≤ nF md n Vf ∧ nF md n Vf ≤ 155 ∧ cS sc (nF md n Vf) r
def Ctr (l : Launch) (D : va_G) (dA : Nat → ClassId) (z : Nat) (md : Bool) (d m : Nat) (as : List XS) (V : XM) (r : XS) (Vf : XM) : Prop := ∀ n ad, cV V → Io md n V → n ≤ 155 → (∀ v ∈ as, cS false n v) → PEnd V false md n r Vf ∧ Met l (mY m) (wsM m) (rmD d (nF md n Vf - n) (Sl (nF md n Vf) - Sl n)) (XPre D dA z md n V ad as) (XPost D dA z md n ad (nF md n Vf) Vf r (mR m)) (nF md n Vf - n) (Sl (nF md n Vf) - Sl n) (fun q => z ≤ q)
/-- what is at hand in a method's body -/
def Cx (p : Program) (D : va_G) (dA : Nat → ClassId) (z : Nat) (sc : Bool) (b : Nat) (V0 : XM) (s : State) (mi : MethodId) (args : Array Value) (meth : Method) (c : Code) (m : Nat) : Prop :=
  p.tables.exec = Jvm.exec ∧ c.code = mC m ∧ meth.sig.returnType = mR m ∧ c.maxLocals = XML m ∧ s.vm.findClass (cN (mK m)) = some mi.cls ∧ (∀ w ∈ TW, w.before args s = true) ∧ NWs s ∧ va_K D vwCl (tysA dA) s ∧ meth.locks = false ∧ (mN m = true → meth.name = "<init>") ∧ z ≤ s.heap.size ∧
  (sc = true → b < z ∧ ∃ (L : Nat) (xs : Nat → Int32), va_X b L xs s s.heap ∧ V0 1 1 0 = (L : Int) ∧ ∀ j, j < L → V0 1 0 j = (xs j).toInt)
/-- from here the run goes well: pure facts of its end, and the machine's run -/
def Good (p : Program) (l : Launch) (e : Env) (R : Room) (s : State) (mi : MethodId) (args : Array Value) (below : List Frame) (meth : Method) (c : Code) (Q : State → Prop) (D : va_G) (dA : Nat → ClassId) (z : Nat) (sc md : Bool) (b m n0 : Nat) (ad0 : Nat → Nat → Nat) (r : XS) (Vf : XM) (V0 : XM) (pc : Nat) (ls st : List XS) (V : XM) : Prop :=
  ∀ n, cV V → Io md n V → n ≤ 155 → n0 ≤ n → ls.length = XML m → (∀ v ∈ ls, cS sc n v) → (∀ v ∈ st, cS sc n v) → (md = false → n = n0) → (V 1 = V0 1) →
    PEnd V0 sc md n r Vf ∧ ∀ ad H locs lsA, axt n0 ad0 ad → (sc = true → ad 1 0 = b) → world D dA z md n V ad H → va_S (fun q => z ≤ q) s.heap H locs → lv_has lsA (XML m) (lvl ad ls) →
      W p l e R s mi args below meth c H locs (n - n0) (Sl n - Sl n0) Q (F0 mi pc lsA (st.map (tv ad)))
end
section
/-! soundness: the plain instructions -/
theorem f32_id (u : UInt32) : UInt32.ofNat ((u.toNat : Int)).toNat = u := by
  rw [Int.toNat_natCast]
  exact UInt32.ofNat_toNat
theorem f64_id (u : UInt64) : UInt64.ofNat ((u.toNat : Int)).toNat = u := by
  rw [Int.toNat_natCast]
  exact UInt64.ofNat_toNat
theorem f32_c (u : UInt32) : 0 ≤ (u.toNat : Int) ∧ (u.toNat : Int) < 4294967296 := ⟨by omega, by have := u.toNat_lt; omega⟩
theorem f64_c (u : UInt64) : 0 ≤ (u.toNat : Int) ∧ (u.toNat : Int) < 18446744073709551616 := ⟨by omega, by have := u.toNat_lt; omega⟩
section
variable {p : Program} {l : Launch} {e : Env} {R : Room} {s : State} {mi : MethodId} {args : Array Value} {below : List Frame} {meth : Method} {c : Code} {Q : State → Prop} {D : va_G} {dA : Nat → ClassId} {z : Nat} {sc md : Bool} {b m n0 : Nat} {ad0 : Nat → Nat → Nat} {r : XS} {Vf V0 : XM} {pc : Nat} {ls st : List XS} {V : XM}

theorem G_pure {pc' : Nat} {st' : List XS} (hg : Good p l e R s mi args below meth c Q D dA z sc md b m n0 ad0 r Vf V0 pc' ls st' V) (hc : ∀ n, (∀ v ∈ ls, cS sc n v) → (∀ v ∈ st, cS sc n v) → ∀ v ∈ st', cS sc n v) (hw : ∀ n ad H locs lsA k1 k2, (∀ v ∈ ls, cS sc n v) → (∀ v ∈ st, cS sc n v) → lv_has lsA (XML m) (lvl ad ls) → ls.length = XML m → W p l e R s mi args below meth c H locs k1 k2 Q (F0 mi pc' lsA (st'.map (tv ad))) → W p l e R s mi args below meth c H locs k1 k2 Q (F0 mi pc lsA (st.map (tv ad)))) : Good p l e R s mi args below meth c Q D dA z sc md b m n0 ad0 r Vf V0 pc ls st V := by
  intro n h1 h2 h3 h4 h5 h6 h7 h8 h9
  obtain ⟨a, bb⟩ := hg n h1 h2 h3 h4 h5 h6 (hc n h6 h7) h8 h9
  exact ⟨a, fun ad H locs lsA q1 q2 q3 q4 q5 => hw n ad H locs lsA _ _ h6 h7 q5 h5 (bb ad H locs lsA q1 q2 q3 q4 q5)⟩
theorem G_br {pc1 pc2 : Nat} {st' : List XS} {P : Prop} (hg1 : P → Good p l e R s mi args below meth c Q D dA z sc md b m n0 ad0 r Vf V0 pc1 ls st' V) (hg2 : ¬ P → Good p l e R s mi args below meth c Q D dA z sc md b m n0 ad0 r Vf V0 pc2 ls st' V) (hc : ∀ n, (∀ v ∈ st, cS sc n v) → ∀ v ∈ st', cS sc n v) (hw : ∀ n ad H locs lsA k1 k2, (∀ v ∈ st, cS sc n v) → (P → W p l e R s mi args below meth c H locs k1 k2 Q (F0 mi pc1 lsA (st'.map (tv ad)))) → (¬ P → W p l e R s mi args below meth c H locs k1 k2 Q (F0 mi pc2 lsA (st'.map (tv ad)))) → W p l e R s mi args below meth c H locs k1 k2 Q (F0 mi pc lsA (st.map (tv ad)))) : Good p l e R s mi args below meth c Q D dA z sc md b m n0 ad0 r Vf V0 pc ls st V := by
  intro n h1 h2 h3 h4 h5 h6 h7 h8 h9
  have hP : PEnd V0 sc md n r Vf := by
    by_cases hp : P
    · exact (hg1 hp n h1 h2 h3 h4 h5 h6 (hc n h7) h8 h9).1
    · exact (hg2 hp n h1 h2 h3 h4 h5 h6 (hc n h7) h8 h9).1
  exact ⟨hP, fun ad H locs lsA q1 q2 q3 q4 q5 => hw n ad H locs lsA _ _ h7 (fun hp => (hg1 hp n h1 h2 h3 h4 h5 h6 (hc n h7) h8 h9).2 ad H locs lsA q1 q2 q3 q4 q5) (fun hp => (hg2 hp n h1 h2 h3 h4 h5 h6 (hc n h7) h8 h9).2 ad H locs lsA q1 q2 q3 q4 q5)⟩
theorem m1 {sc : Bool} {n : Nat} {a : XS} {st : List XS} (h : ∀ v ∈ a :: st, cS sc n v) : cS sc n a ∧ ∀ v ∈ st, cS sc n v := ⟨h a List.mem_cons_self, fun v hv => h v (List.mem_cons_of_mem _ hv)⟩
theorem m2 {sc : Bool} {n : Nat} {a : XS} {st : List XS} (h1 : cS sc n a) (h2 : ∀ v ∈ st, cS sc n v) : ∀ v ∈ a :: st, cS sc n v := fun v hv => (List.mem_cons.mp hv).elim (fun e => e ▸ h1) (h2 v)

theorem G_iadd {x y : Int} (hx : p.tables.exec = Jvm.exec) (hb : c.code = mC m) (hd : decode (mC m) pc = .ok (.iadd, 1)) (hg : Good p l e R s mi args below meth c Q D dA z sc md b m n0 ad0 r Vf V0 (pc + 1) ls (xi (w32 (x + y)) :: st) V) : Good p l e R s mi args below meth c Q D dA z sc md b m n0 ad0 r Vf V0 pc ls (xi y :: xi x :: st) V := by
  refine G_pure hg (fun n hl hs => ?_) (fun n ad H locs lsA k1 k2 hl hs hh hlen k => ?_)
  · obtain ⟨h_0, hs⟩ := m1 hs
    obtain ⟨h_1, hs⟩ := m1 hs
    exact m2 (w32_c _) (hs)
  · obtain ⟨h_0, hs⟩ := m1 hs
    obtain ⟨h_1, hs⟩ := m1 hs
    refine lv_iadd hx hb hd ?_
    rw [show Int32.ofInt x + Int32.ofInt y = Int32.ofInt (w32 (x + y)) from by rw [n32_w, Int32.ofInt_add]]
    exact k
theorem G_isub {x y : Int} (hx : p.tables.exec = Jvm.exec) (hb : c.code = mC m) (hd : decode (mC m) pc = .ok (.isub, 1)) (hg : Good p l e R s mi args below meth c Q D dA z sc md b m n0 ad0 r Vf V0 (pc + 1) ls (xi (w32 (x - y)) :: st) V) : Good p l e R s mi args below meth c Q D dA z sc md b m n0 ad0 r Vf V0 pc ls (xi y :: xi x :: st) V := by
  refine G_pure hg (fun n hl hs => ?_) (fun n ad H locs lsA k1 k2 hl hs hh hlen k => ?_)
  · obtain ⟨h_0, hs⟩ := m1 hs
    obtain ⟨h_1, hs⟩ := m1 hs
    exact m2 (w32_c _) (hs)
  · obtain ⟨h_0, hs⟩ := m1 hs
    obtain ⟨h_1, hs⟩ := m1 hs
    refine lv_isub hx hb hd ?_
    rw [show Int32.ofInt x - Int32.ofInt y = Int32.ofInt (w32 (x - y)) from by rw [n32_w, Int32.ofInt_sub]]
    exact k
theorem G_imul {x y : Int} (hx : p.tables.exec = Jvm.exec) (hb : c.code = mC m) (hd : decode (mC m) pc = .ok (.imul, 1)) (hg : Good p l e R s mi args below meth c Q D dA z sc md b m n0 ad0 r Vf V0 (pc + 1) ls (xi (w32 (x * y)) :: st) V) : Good p l e R s mi args below meth c Q D dA z sc md b m n0 ad0 r Vf V0 pc ls (xi y :: xi x :: st) V := by
  refine G_pure hg (fun n hl hs => ?_) (fun n ad H locs lsA k1 k2 hl hs hh hlen k => ?_)
  · obtain ⟨h_0, hs⟩ := m1 hs
    obtain ⟨h_1, hs⟩ := m1 hs
    exact m2 (w32_c _) (hs)
  · obtain ⟨h_0, hs⟩ := m1 hs
    obtain ⟨h_1, hs⟩ := m1 hs
    refine lv_imul hx hb hd ?_
    rw [show Int32.ofInt x * Int32.ofInt y = Int32.ofInt (w32 (x * y)) from by rw [n32_w, Int32.ofInt_mul]]
    exact k
theorem G_iand {x y : Int} (hx : p.tables.exec = Jvm.exec) (hb : c.code = mC m) (hd : decode (mC m) pc = .ok (.iand, 1)) (hg : Good p l e R s mi args below meth c Q D dA z sc md b m n0 ad0 r Vf V0 (pc + 1) ls (xi (iAnd x y) :: st) V) : Good p l e R s mi args below meth c Q D dA z sc md b m n0 ad0 r Vf V0 pc ls (xi y :: xi x :: st) V := by
  refine G_pure hg (fun n hl hs => ?_) (fun n ad H locs lsA k1 k2 hl hs hh hlen k => ?_)
  · obtain ⟨h_0, hs⟩ := m1 hs
    obtain ⟨h_1, hs⟩ := m1 hs
    exact m2 (iAnd_c _ _) (hs)
  · obtain ⟨h_0, hs⟩ := m1 hs
    obtain ⟨h_1, hs⟩ := m1 hs
    refine lv_iand hx hb hd ?_
    rw [show Int32.ofInt x &&& Int32.ofInt y = Int32.ofInt (iAnd x y) from by unfold iAnd; rw [Int32.ofInt_toInt]]
    exact k
theorem G_ior {x y : Int} (hx : p.tables.exec = Jvm.exec) (hb : c.code = mC m) (hd : decode (mC m) pc = .ok (.ior, 1)) (hg : Good p l e R s mi args below meth c Q D dA z sc md b m n0 ad0 r Vf V0 (pc + 1) ls (xi (iOr x y) :: st) V) : Good p l e R s mi args below meth c Q D dA z sc md b m n0 ad0 r Vf V0 pc ls (xi y :: xi x :: st) V := by
  refine G_pure hg (fun n hl hs => ?_) (fun n ad H locs lsA k1 k2 hl hs hh hlen k => ?_)
  · obtain ⟨h_0, hs⟩ := m1 hs
    obtain ⟨h_1, hs⟩ := m1 hs
    exact m2 (iOr_c _ _) (hs)
  · obtain ⟨h_0, hs⟩ := m1 hs
    obtain ⟨h_1, hs⟩ := m1 hs
    refine lv_ior hx hb hd ?_
    rw [show Int32.ofInt x ||| Int32.ofInt y = Int32.ofInt (iOr x y) from by unfold iOr; rw [Int32.ofInt_toInt]]
    exact k
theorem G_ixor {x y : Int} (hx : p.tables.exec = Jvm.exec) (hb : c.code = mC m) (hd : decode (mC m) pc = .ok (.ixor, 1)) (hg : Good p l e R s mi args below meth c Q D dA z sc md b m n0 ad0 r Vf V0 (pc + 1) ls (xi (iXor x y) :: st) V) : Good p l e R s mi args below meth c Q D dA z sc md b m n0 ad0 r Vf V0 pc ls (xi y :: xi x :: st) V := by
  refine G_pure hg (fun n hl hs => ?_) (fun n ad H locs lsA k1 k2 hl hs hh hlen k => ?_)
  · obtain ⟨h_0, hs⟩ := m1 hs
    obtain ⟨h_1, hs⟩ := m1 hs
    exact m2 (iXor_c _ _) (hs)
  · obtain ⟨h_0, hs⟩ := m1 hs
    obtain ⟨h_1, hs⟩ := m1 hs
    refine lv_ixor hx hb hd ?_
    rw [show Int32.ofInt x ^^^ Int32.ofInt y = Int32.ofInt (iXor x y) from by unfold iXor; rw [Int32.ofInt_toInt]]
    exact k
theorem G_idiv {x y : Int} (hx : p.tables.exec = Jvm.exec) (hb : c.code = mC m) (hy : ¬ y = 0) (hd : decode (mC m) pc = .ok (.idiv, 1)) (hg : Good p l e R s mi args below meth c Q D dA z sc md b m n0 ad0 r Vf V0 (pc + 1) ls (xi (w32 (Int.tdiv x y)) :: st) V) : Good p l e R s mi args below meth c Q D dA z sc md b m n0 ad0 r Vf V0 pc ls (xi y :: xi x :: st) V := by
  refine G_pure hg (fun n hl hs => ?_) (fun n ad H locs lsA k1 k2 hl hs hh hlen k => ?_)
  · obtain ⟨h_0, hs⟩ := m1 hs
    obtain ⟨h_1, hs⟩ := m1 hs
    exact m2 (w32_c _) (hs)
  · obtain ⟨h_0, hs⟩ := m1 hs
    obtain ⟨h_1, hs⟩ := m1 hs
    refine lv_idiv hx hb hd (fun q => hy ((n32_inj h_0 (by unfold c32; omega)).mp q)) ?_
    rw [n32_div h_1 h_0]
    exact k
theorem G_irem {x y : Int} (hx : p.tables.exec = Jvm.exec) (hb : c.code = mC m) (hy : ¬ y = 0) (hd : decode (mC m) pc = .ok (.irem, 1)) (hg : Good p l e R s mi args below meth c Q D dA z sc md b m n0 ad0 r Vf V0 (pc + 1) ls (xi (Int.tmod x y) :: st) V) : Good p l e R s mi args below meth c Q D dA z sc md b m n0 ad0 r Vf V0 pc ls (xi y :: xi x :: st) V := by
  refine G_pure hg (fun n hl hs => ?_) (fun n ad H locs lsA k1 k2 hl hs hh hlen k => ?_)
  · obtain ⟨h_0, hs⟩ := m1 hs
    obtain ⟨h_1, hs⟩ := m1 hs
    exact m2 (tmod_c h_1) (hs)
  · obtain ⟨h_0, hs⟩ := m1 hs
    obtain ⟨h_1, hs⟩ := m1 hs
    refine lv_irem hx hb hd (fun q => hy ((n32_inj h_0 (by unfold c32; omega)).mp q)) ?_
    rw [n32_rem h_1 h_0]
    exact k
theorem G_ineg {x : Int} (hx : p.tables.exec = Jvm.exec) (hb : c.code = mC m) (hd : decode (mC m) pc = .ok (.ineg, 1)) (hg : Good p l e R s mi args below meth c Q D dA z sc md b m n0 ad0 r Vf V0 (pc + 1) ls (xi (w32 (-x)) :: st) V) : Good p l e R s mi args below meth c Q D dA z sc md b m n0 ad0 r Vf V0 pc ls (xi x :: st) V := by
  refine G_pure hg (fun n hl hs => ?_) (fun n ad H locs lsA k1 k2 hl hs hh hlen k => ?_)
  · obtain ⟨h_0, hs⟩ := m1 hs
    exact m2 (w32_c _) (hs)
  · obtain ⟨h_0, hs⟩ := m1 hs
    refine lv_ineg hx hb hd ?_
    rw [show -Int32.ofInt x = Int32.ofInt (w32 (-x)) from by rw [n32_w, Int32.ofInt_neg]]
    exact k
theorem G_ladd {x y : Int} (hx : p.tables.exec = Jvm.exec) (hb : c.code = mC m) (hd : decode (mC m) pc = .ok (.ladd, 1)) (hg : Good p l e R s mi args below meth c Q D dA z sc md b m n0 ad0 r Vf V0 (pc + 1) ls (xl (w64 (x + y)) :: st) V) : Good p l e R s mi args below meth c Q D dA z sc md b m n0 ad0 r Vf V0 pc ls (xl y :: xl x :: st) V := by
  refine G_pure hg (fun n hl hs => ?_) (fun n ad H locs lsA k1 k2 hl hs hh hlen k => ?_)
  · obtain ⟨h_0, hs⟩ := m1 hs
    obtain ⟨h_1, hs⟩ := m1 hs
    exact m2 (w64_c _) (hs)
  · obtain ⟨h_0, hs⟩ := m1 hs
    obtain ⟨h_1, hs⟩ := m1 hs
    refine lv_ladd hx hb hd ?_
    rw [show Int64.ofInt x + Int64.ofInt y = Int64.ofInt (w64 (x + y)) from by rw [n64_w, Int64.ofInt_add]]
    exact k
theorem G_lsub {x y : Int} (hx : p.tables.exec = Jvm.exec) (hb : c.code = mC m) (hd : decode (mC m) pc = .ok (.lsub, 1)) (hg : Good p l e R s mi args below meth c Q D dA z sc md b m n0 ad0 r Vf V0 (pc + 1) ls (xl (w64 (x - y)) :: st) V) : Good p l e R s mi args below meth c Q D dA z sc md b m n0 ad0 r Vf V0 pc ls (xl y :: xl x :: st) V := by
  refine G_pure hg (fun n hl hs => ?_) (fun n ad H locs lsA k1 k2 hl hs hh hlen k => ?_)
  · obtain ⟨h_0, hs⟩ := m1 hs
    obtain ⟨h_1, hs⟩ := m1 hs
    exact m2 (w64_c _) (hs)
  · obtain ⟨h_0, hs⟩ := m1 hs
    obtain ⟨h_1, hs⟩ := m1 hs
    refine lv_lsub hx hb hd ?_
    rw [show Int64.ofInt x - Int64.ofInt y = Int64.ofInt (w64 (x - y)) from by rw [n64_w, Int64.ofInt_sub]]
    exact k
theorem G_lmul {x y : Int} (hx : p.tables.exec = Jvm.exec) (hb : c.code = mC m) (hd : decode (mC m) pc = .ok (.lmul, 1)) (hg : Good p l e R s mi args below meth c Q D dA z sc md b m n0 ad0 r Vf V0 (pc + 1) ls (xl (w64 (x * y)) :: st) V) : Good p l e R s mi args below meth c Q D dA z sc md b m n0 ad0 r Vf V0 pc ls (xl y :: xl x :: st) V := by
  refine G_pure hg (fun n hl hs => ?_) (fun n ad H locs lsA k1 k2 hl hs hh hlen k => ?_)
  · obtain ⟨h_0, hs⟩ := m1 hs
    obtain ⟨h_1, hs⟩ := m1 hs
    exact m2 (w64_c _) (hs)
  · obtain ⟨h_0, hs⟩ := m1 hs
    obtain ⟨h_1, hs⟩ := m1 hs
    refine lv_lmul hx hb hd ?_
    rw [show Int64.ofInt x * Int64.ofInt y = Int64.ofInt (w64 (x * y)) from by rw [n64_w, Int64.ofInt_mul]]
    exact k
theorem G_land {x y : Int} (hx : p.tables.exec = Jvm.exec) (hb : c.code = mC m) (hd : decode (mC m) pc = .ok (.land, 1)) (hg : Good p l e R s mi args below meth c Q D dA z sc md b m n0 ad0 r Vf V0 (pc + 1) ls (xl (lAnd x y) :: st) V) : Good p l e R s mi args below meth c Q D dA z sc md b m n0 ad0 r Vf V0 pc ls (xl y :: xl x :: st) V := by
  refine G_pure hg (fun n hl hs => ?_) (fun n ad H locs lsA k1 k2 hl hs hh hlen k => ?_)
  · obtain ⟨h_0, hs⟩ := m1 hs
    obtain ⟨h_1, hs⟩ := m1 hs
    exact m2 (lAnd_c _ _) (hs)
  · obtain ⟨h_0, hs⟩ := m1 hs
    obtain ⟨h_1, hs⟩ := m1 hs
    refine lv_land hx hb hd ?_
    rw [show Int64.ofInt x &&& Int64.ofInt y = Int64.ofInt (lAnd x y) from by unfold lAnd; rw [Int64.ofInt_toInt]]
    exact k
theorem G_lor {x y : Int} (hx : p.tables.exec = Jvm.exec) (hb : c.code = mC m) (hd : decode (mC m) pc = .ok (.lor, 1)) (hg : Good p l e R s mi args below meth c Q D dA z sc md b m n0 ad0 r Vf V0 (pc + 1) ls (xl (lOr x y) :: st) V) : Good p l e R s mi args below meth c Q D dA z sc md b m n0 ad0 r Vf V0 pc ls (xl y :: xl x :: st) V := by
  refine G_pure hg (fun n hl hs => ?_) (fun n ad H locs lsA k1 k2 hl hs hh hlen k => ?_)
  · obtain ⟨h_0, hs⟩ := m1 hs
    obtain ⟨h_1, hs⟩ := m1 hs
    exact m2 (lOr_c _ _) (hs)
  · obtain ⟨h_0, hs⟩ := m1 hs
    obtain ⟨h_1, hs⟩ := m1 hs
    refine lv_lor hx hb hd ?_
    rw [show Int64.ofInt x ||| Int64.ofInt y = Int64.ofInt (lOr x y) from by unfold lOr; rw [Int64.ofInt_toInt]]
    exact k
theorem G_lxor {x y : Int} (hx : p.tables.exec = Jvm.exec) (hb : c.code = mC m) (hd : decode (mC m) pc = .ok (.lxor, 1)) (hg : Good p l e R s mi args below meth c Q D dA z sc md b m n0 ad0 r Vf V0 (pc + 1) ls (xl (lXor x y) :: st) V) : Good p l e R s mi args below meth c Q D dA z sc md b m n0 ad0 r Vf V0 pc ls (xl y :: xl x :: st) V := by
  refine G_pure hg (fun n hl hs => ?_) (fun n ad H locs lsA k1 k2 hl hs hh hlen k => ?_)
  · obtain ⟨h_0, hs⟩ := m1 hs
    obtain ⟨h_1, hs⟩ := m1 hs
    exact m2 (lXor_c _ _) (hs)
  · obtain ⟨h_0, hs⟩ := m1 hs
    obtain ⟨h_1, hs⟩ := m1 hs
    refine lv_lxor hx hb hd ?_
    rw [show Int64.ofInt x ^^^ Int64.ofInt y = Int64.ofInt (lXor x y) from by unfold lXor; rw [Int64.ofInt_toInt]]
    exact k
theorem G_ldiv {x y : Int} (hx : p.tables.exec = Jvm.exec) (hb : c.code = mC m) (hy : ¬ y = 0) (hd : decode (mC m) pc = .ok (.ldiv, 1)) (hg : Good p l e R s mi args below meth c Q D dA z sc md b m n0 ad0 r Vf V0 (pc + 1) ls (xl (w64 (Int.tdiv x y)) :: st) V) : Good p l e R s mi args below meth c Q D dA z sc md b m n0 ad0 r Vf V0 pc ls (xl y :: xl x :: st) V := by
  refine G_pure hg (fun n hl hs => ?_) (fun n ad H locs lsA k1 k2 hl hs hh hlen k => ?_)
  · obtain ⟨h_0, hs⟩ := m1 hs
    obtain ⟨h_1, hs⟩ := m1 hs
    exact m2 (w64_c _) (hs)
  · obtain ⟨h_0, hs⟩ := m1 hs
    obtain ⟨h_1, hs⟩ := m1 hs
    refine lv_ldiv hx hb hd (fun q => hy ((n64_inj h_0 (by unfold c64; omega)).mp q)) ?_
    rw [n64_div h_1 h_0]
    exact k
theorem G_lshl {x y : Int} (hx : p.tables.exec = Jvm.exec) (hb : c.code = mC m) (hd : decode (mC m) pc = .ok (.lshl, 1)) (hg : Good p l e R s mi args below meth c Q D dA z sc md b m n0 ad0 r Vf V0 (pc + 1) ls (xl (lShl x y) :: st) V) : Good p l e R s mi args below meth c Q D dA z sc md b m n0 ad0 r Vf V0 pc ls (xi y :: xl x :: st) V := by
  refine G_pure hg (fun n hl hs => ?_) (fun n ad H locs lsA k1 k2 hl hs hh hlen k => ?_)
  · obtain ⟨h_0, hs⟩ := m1 hs
    obtain ⟨h_1, hs⟩ := m1 hs
    exact m2 (lShl_c _ _) (hs)
  · obtain ⟨h_0, hs⟩ := m1 hs
    obtain ⟨h_1, hs⟩ := m1 hs
    exact lv_lshl hx hb hd (n64_shl h_0) k
theorem G_lushr {x y : Int} (hx : p.tables.exec = Jvm.exec) (hb : c.code = mC m) (hd : decode (mC m) pc = .ok (.lushr, 1)) (hg : Good p l e R s mi args below meth c Q D dA z sc md b m n0 ad0 r Vf V0 (pc + 1) ls (xl (lUshr x y) :: st) V) : Good p l e R s mi args below meth c Q D dA z sc md b m n0 ad0 r Vf V0 pc ls (xi y :: xl x :: st) V := by
  refine G_pure hg (fun n hl hs => ?_) (fun n ad H locs lsA k1 k2 hl hs hh hlen k => ?_)
  · obtain ⟨h_0, hs⟩ := m1 hs
    obtain ⟨h_1, hs⟩ := m1 hs
    exact m2 (lUshr_c _ _) (hs)
  · obtain ⟨h_0, hs⟩ := m1 hs
    obtain ⟨h_1, hs⟩ := m1 hs
    exact lv_lushr hx hb hd (n64_ushr h_0) k
theorem G_i2l {x : Int} (hx : p.tables.exec = Jvm.exec) (hb : c.code = mC m) (hd : decode (mC m) pc = .ok (.i2l, 1)) (hg : Good p l e R s mi args below meth c Q D dA z sc md b m n0 ad0 r Vf V0 (pc + 1) ls (xl x :: st) V) : Good p l e R s mi args below meth c Q D dA z sc md b m n0 ad0 r Vf V0 pc ls (xi x :: st) V := by
  refine G_pure hg (fun n hl hs => ?_) (fun n ad H locs lsA k1 k2 hl hs hh hlen k => ?_)
  · obtain ⟨h_0, hs⟩ := m1 hs
    exact m2 (c32_64 h_0) (hs)
  · obtain ⟨h_0, hs⟩ := m1 hs
    exact lv_i2l hx hb hd (n32_toInt64 h_0) k
theorem G_l2i {x : Int} (hx : p.tables.exec = Jvm.exec) (hb : c.code = mC m) (hd : decode (mC m) pc = .ok (.l2i, 1)) (hg : Good p l e R s mi args below meth c Q D dA z sc md b m n0 ad0 r Vf V0 (pc + 1) ls (xi (w32 x) :: st) V) : Good p l e R s mi args below meth c Q D dA z sc md b m n0 ad0 r Vf V0 pc ls (xl x :: st) V := by
  refine G_pure hg (fun n hl hs => ?_) (fun n ad H locs lsA k1 k2 hl hs hh hlen k => ?_)
  · obtain ⟨h_0, hs⟩ := m1 hs
    exact m2 (w32_c _) (hs)
  · obtain ⟨h_0, hs⟩ := m1 hs
    exact lv_l2i hx hb hd n64_toInt32 k
theorem G_i2b {x : Int} (hx : p.tables.exec = Jvm.exec) (hb : c.code = mC m) (hd : decode (mC m) pc = .ok (.i2b, 1)) (hg : Good p l e R s mi args below meth c Q D dA z sc md b m n0 ad0 r Vf V0 (pc + 1) ls (xi (w8 x) :: st) V) : Good p l e R s mi args below meth c Q D dA z sc md b m n0 ad0 r Vf V0 pc ls (xi x :: st) V := by
  refine G_pure hg (fun n hl hs => ?_) (fun n ad H locs lsA k1 k2 hl hs hh hlen k => ?_)
  · obtain ⟨h_0, hs⟩ := m1 hs
    exact m2 (w8_c _) (hs)
  · obtain ⟨h_0, hs⟩ := m1 hs
    exact lv_i2b hx hb hd n32_i2b k
theorem G_i2s {x : Int} (hx : p.tables.exec = Jvm.exec) (hb : c.code = mC m) (hd : decode (mC m) pc = .ok (.i2s, 1)) (hg : Good p l e R s mi args below meth c Q D dA z sc md b m n0 ad0 r Vf V0 (pc + 1) ls (xi (w16 x) :: st) V) : Good p l e R s mi args below meth c Q D dA z sc md b m n0 ad0 r Vf V0 pc ls (xi x :: st) V := by
  refine G_pure hg (fun n hl hs => ?_) (fun n ad H locs lsA k1 k2 hl hs hh hlen k => ?_)
  · obtain ⟨h_0, hs⟩ := m1 hs
    exact m2 (w16_c _) (hs)
  · obtain ⟨h_0, hs⟩ := m1 hs
    exact lv_i2s hx hb hd n32_i2s k
theorem G_i2c {x : Int} (hx : p.tables.exec = Jvm.exec) (hb : c.code = mC m) (hd : decode (mC m) pc = .ok (.i2c, 1)) (hg : Good p l e R s mi args below meth c Q D dA z sc md b m n0 ad0 r Vf V0 (pc + 1) ls (xi (c16 x) :: st) V) : Good p l e R s mi args below meth c Q D dA z sc md b m n0 ad0 r Vf V0 pc ls (xi x :: st) V := by
  refine G_pure hg (fun n hl hs => ?_) (fun n ad H locs lsA k1 k2 hl hs hh hlen k => ?_)
  · obtain ⟨h_0, hs⟩ := m1 hs
    exact m2 (c16_c _) (hs)
  · obtain ⟨h_0, hs⟩ := m1 hs
    exact lv_i2c hx hb hd n32_i2c k
theorem G_l2f {x : Int} (hx : p.tables.exec = Jvm.exec) (hb : c.code = mC m) (hd : decode (mC m) pc = .ok (.l2f, 1)) (hg : Good p l e R s mi args below meth c Q D dA z sc md b m n0 ad0 r Vf V0 (pc + 1) ls (xf (fL2F x) :: st) V) : Good p l e R s mi args below meth c Q D dA z sc md b m n0 ad0 r Vf V0 pc ls (xl x :: st) V := by
  refine G_pure hg (fun n hl hs => ?_) (fun n ad H locs lsA k1 k2 hl hs hh hlen k => ?_)
  · obtain ⟨h_0, hs⟩ := m1 hs
    exact m2 (f32_c _) (hs)
  · obtain ⟨h_0, hs⟩ := m1 hs
    refine lv_l2f hx hb hd ?_
    rw [show FP.l2f (Int64.ofInt x) = UInt32.ofNat (fL2F x).toNat from (f32_id _).symm]
    exact k
theorem G_l2d {x : Int} (hx : p.tables.exec = Jvm.exec) (hb : c.code = mC m) (hd : decode (mC m) pc = .ok (.l2d, 1)) (hg : Good p l e R s mi args below meth c Q D dA z sc md b m n0 ad0 r Vf V0 (pc + 1) ls (xd (fL2D x) :: st) V) : Good p l e R s mi args below meth c Q D dA z sc md b m n0 ad0 r Vf V0 pc ls (xl x :: st) V := by
  refine G_pure hg (fun n hl hs => ?_) (fun n ad H locs lsA k1 k2 hl hs hh hlen k => ?_)
  · obtain ⟨h_0, hs⟩ := m1 hs
    exact m2 (f64_c _) (hs)
  · obtain ⟨h_0, hs⟩ := m1 hs
    refine lv_l2d hx hb hd ?_
    rw [show FP.l2d (Int64.ofInt x) = UInt64.ofNat (fL2D x).toNat from (f64_id _).symm]
    exact k
theorem G_f2l {x : Int} (hx : p.tables.exec = Jvm.exec) (hb : c.code = mC m) (hd : decode (mC m) pc = .ok (.f2l, 1)) (hg : Good p l e R s mi args below meth c Q D dA z sc md b m n0 ad0 r Vf V0 (pc + 1) ls (xl (fF2L x) :: st) V) : Good p l e R s mi args below meth c Q D dA z sc md b m n0 ad0 r Vf V0 pc ls (xf x :: st) V := by
  refine G_pure hg (fun n hl hs => ?_) (fun n ad H locs lsA k1 k2 hl hs hh hlen k => ?_)
  · obtain ⟨h_0, hs⟩ := m1 hs
    exact m2 (fF2L_c _) (hs)
  · obtain ⟨h_0, hs⟩ := m1 hs
    refine lv_f2l hx hb hd ?_
    rw [show FP.f2l (UInt32.ofNat x.toNat) = Int64.ofInt (fF2L x) from by unfold fF2L; rw [Int64.ofInt_toInt]]
    exact k
theorem G_d2l {x : Int} (hx : p.tables.exec = Jvm.exec) (hb : c.code = mC m) (hd : decode (mC m) pc = .ok (.d2l, 1)) (hg : Good p l e R s mi args below meth c Q D dA z sc md b m n0 ad0 r Vf V0 (pc + 1) ls (xl (fD2L x) :: st) V) : Good p l e R s mi args below meth c Q D dA z sc md b m n0 ad0 r Vf V0 pc ls (xd x :: st) V := by
  refine G_pure hg (fun n hl hs => ?_) (fun n ad H locs lsA k1 k2 hl hs hh hlen k => ?_)
  · obtain ⟨h_0, hs⟩ := m1 hs
    exact m2 (fD2L_c _) (hs)
  · obtain ⟨h_0, hs⟩ := m1 hs
    refine lv_d2l hx hb hd ?_
    rw [show FP.d2l (UInt64.ofNat x.toNat) = Int64.ofInt (fD2L x) from by unfold fD2L; rw [Int64.ofInt_toInt]]
    exact k
theorem G_f2d {x : Int} (hx : p.tables.exec = Jvm.exec) (hb : c.code = mC m) (hn : fNum (fF2D x) = true) (hd : decode (mC m) pc = .ok (.f2d, 1)) (hg : Good p l e R s mi args below meth c Q D dA z sc md b m n0 ad0 r Vf V0 (pc + 1) ls (xd (fF2D x) :: st) V) : Good p l e R s mi args below meth c Q D dA z sc md b m n0 ad0 r Vf V0 pc ls (xf x :: st) V := by
  refine G_pure hg (fun n hl hs => ?_) (fun n ad H locs lsA k1 k2 hl hs hh hlen k => ?_)
  · obtain ⟨h_0, hs⟩ := m1 hs
    exact m2 (f64_c _) (hs)
  · obtain ⟨h_0, hs⟩ := m1 hs
    have e1 : UInt64.ofNat (fF2D x).toNat = FP.f2d (UInt32.ofNat x.toNat) := f64_id _
    refine lv_f2d hx hb hd ?_ ?_
    · unfold fNum at hn
      rw [e1] at hn
      unfold vf_n64
      exact of_decide_eq_true hn
    · rw [← e1]
      exact k
theorem G_dcmp {x y : Int} {op : CmpOp} (hx : p.tables.exec = Jvm.exec) (hb : c.code = mC m) (hd : decode (mC m) pc = .ok (.dcmp op, 1)) (hg : Good p l e R s mi args below meth c Q D dA z sc md b m n0 ad0 r Vf V0 (pc + 1) ls (xi (fDcmp op x y) :: st) V) : Good p l e R s mi args below meth c Q D dA z sc md b m n0 ad0 r Vf V0 pc ls (xd y :: xd x :: st) V := by
  refine G_pure hg (fun n hl hs => ?_) (fun n ad H locs lsA k1 k2 hl hs hh hlen k => ?_)
  · obtain ⟨h_0, hs⟩ := m1 hs
    obtain ⟨h_1, hs⟩ := m1 hs
    exact m2 (fDcmp_c _ _ _) (hs)
  · obtain ⟨h_0, hs⟩ := m1 hs
    obtain ⟨h_1, hs⟩ := m1 hs
    refine lv_dcmp hx hb hd ?_
    rw [show Op.cmpValue (FP.dcmp (UInt64.ofNat x.toNat) (UInt64.ofNat y.toNat)) op = Int32.ofInt (fDcmp op x y) from by unfold fDcmp; rw [Int32.ofInt_toInt]]
    exact k
theorem G_dup_i {x : Int} (hx : p.tables.exec = Jvm.exec) (hb : c.code = mC m) (hd : decode (mC m) pc = .ok (.dup, 1)) (hg : Good p l e R s mi args below meth c Q D dA z sc md b m n0 ad0 r Vf V0 (pc + 1) ls (xi x :: xi x :: st) V) : Good p l e R s mi args below meth c Q D dA z sc md b m n0 ad0 r Vf V0 pc ls (xi x :: st) V := by
  refine G_pure hg (fun n hl hs => ?_) (fun n ad H locs lsA k1 k2 hl hs hh hlen k => ?_)
  · obtain ⟨h_0, hs⟩ := m1 hs
    exact m2 (h_0) (m2 (h_0) (hs))
  · obtain ⟨h_0, hs⟩ := m1 hs
    exact lv_dup hx hb hd rfl k
theorem G_dup_r {g i : Nat} (hx : p.tables.exec = Jvm.exec) (hb : c.code = mC m) (hd : decode (mC m) pc = .ok (.dup, 1)) (hg : Good p l e R s mi args below meth c Q D dA z sc md b m n0 ad0 r Vf V0 (pc + 1) ls (xr g i :: xr g i :: st) V) : Good p l e R s mi args below meth c Q D dA z sc md b m n0 ad0 r Vf V0 pc ls (xr g i :: st) V := by
  refine G_pure hg (fun n hl hs => ?_) (fun n ad H locs lsA k1 k2 hl hs hh hlen k => ?_)
  · obtain ⟨h_0, hs⟩ := m1 hs
    exact m2 (h_0) (m2 (h_0) (hs))
  · obtain ⟨h_0, hs⟩ := m1 hs
    exact lv_dup hx hb hd (tv_cat ad (xr g i)) k
theorem G_dup2 {y : Int} {g i : Nat} (hx : p.tables.exec = Jvm.exec) (hb : c.code = mC m) (hd : decode (mC m) pc = .ok (.dup2, 1)) (hg : Good p l e R s mi args below meth c Q D dA z sc md b m n0 ad0 r Vf V0 (pc + 1) ls (xi y :: xr g i :: xi y :: xr g i :: st) V) : Good p l e R s mi args below meth c Q D dA z sc md b m n0 ad0 r Vf V0 pc ls (xi y :: xr g i :: st) V := by
  refine G_pure hg (fun n hl hs => ?_) (fun n ad H locs lsA k1 k2 hl hs hh hlen k => ?_)
  · obtain ⟨h_0, hs⟩ := m1 hs
    obtain ⟨h_1, hs⟩ := m1 hs
    exact m2 (h_0) (m2 (h_1) (m2 (h_0) (m2 (h_1) (hs))))
  · obtain ⟨h_0, hs⟩ := m1 hs
    obtain ⟨h_1, hs⟩ := m1 hs
    exact lv_dup2_11 hx hb hd rfl (tv_cat ad (xr g i)) k
theorem G_dup_x1 {y : Int} {g i : Nat} (hx : p.tables.exec = Jvm.exec) (hb : c.code = mC m) (hd : decode (mC m) pc = .ok (.dup_x1, 1)) (hg : Good p l e R s mi args below meth c Q D dA z sc md b m n0 ad0 r Vf V0 (pc + 1) ls (xi y :: xr g i :: xi y :: st) V) : Good p l e R s mi args below meth c Q D dA z sc md b m n0 ad0 r Vf V0 pc ls (xi y :: xr g i :: st) V := by
  refine G_pure hg (fun n hl hs => ?_) (fun n ad H locs lsA k1 k2 hl hs hh hlen k => ?_)
  · obtain ⟨h_0, hs⟩ := m1 hs
    obtain ⟨h_1, hs⟩ := m1 hs
    exact m2 (h_0) (m2 (h_1) (m2 (h_0) (hs)))
  · obtain ⟨h_0, hs⟩ := m1 hs
    obtain ⟨h_1, hs⟩ := m1 hs
    exact lv_dup_x1 hx hb hd rfl (tv_cat ad (xr g i)) k
theorem G_pop {y : Int} (hx : p.tables.exec = Jvm.exec) (hb : c.code = mC m) (hd : decode (mC m) pc = .ok (.pop, 1)) (hg : Good p l e R s mi args below meth c Q D dA z sc md b m n0 ad0 r Vf V0 (pc + 1) ls (st) V) : Good p l e R s mi args below meth c Q D dA z sc md b m n0 ad0 r Vf V0 pc ls (xi y :: st) V := by
  refine G_pure hg (fun n hl hs => ?_) (fun n ad H locs lsA k1 k2 hl hs hh hlen k => ?_)
  · obtain ⟨h_0, hs⟩ := m1 hs
    exact hs
  · obtain ⟨h_0, hs⟩ := m1 hs
    exact lv_pop hx hb hd rfl k
theorem G_iconst {k0 : Int} (hx : p.tables.exec = Jvm.exec) (hb : c.code = mC m) (hk0 : c32 k0) (hd : decode (mC m) pc = .ok (.iconst k0, 1)) (hg : Good p l e R s mi args below meth c Q D dA z sc md b m n0 ad0 r Vf V0 (pc + 1) ls (xi k0 :: st) V) : Good p l e R s mi args below meth c Q D dA z sc md b m n0 ad0 r Vf V0 pc ls (st) V := by
  refine G_pure hg (fun n hl hs => ?_) (fun n ad H locs lsA k1 k2 hl hs hh hlen k => ?_)
  · exact m2 (hk0) (hs)
  · exact lv_iconst hx hb hd rfl k
theorem G_bipush {k0 : Int} (hx : p.tables.exec = Jvm.exec) (hb : c.code = mC m) (hk0 : -128 ≤ k0 ∧ k0 < 128) (hd : decode (mC m) pc = .ok (.bipush k0, 2)) (hg : Good p l e R s mi args below meth c Q D dA z sc md b m n0 ad0 r Vf V0 (pc + 2) ls (xi k0 :: st) V) : Good p l e R s mi args below meth c Q D dA z sc md b m n0 ad0 r Vf V0 pc ls (st) V := by
  refine G_pure hg (fun n hl hs => ?_) (fun n ad H locs lsA k1 k2 hl hs hh hlen k => ?_)
  · exact m2 (by unfold cS c32; omega) (hs)
  · exact lv_bipush (v := Int32.ofInt k0) hx hb hd (by apply Int32.toInt_inj.mp; rw [Int8.toInt_toInt32, Int8.toInt_ofInt_of_le hk0.1 hk0.2, n32_id (by unfold c32; omega)]) k
theorem G_sipush {k0 : Int} (hx : p.tables.exec = Jvm.exec) (hb : c.code = mC m) (hk0 : -32768 ≤ k0 ∧ k0 < 32768) (hd : decode (mC m) pc = .ok (.sipush k0, 3)) (hg : Good p l e R s mi args below meth c Q D dA z sc md b m n0 ad0 r Vf V0 (pc + 3) ls (xi k0 :: st) V) : Good p l e R s mi args below meth c Q D dA z sc md b m n0 ad0 r Vf V0 pc ls (st) V := by
  refine G_pure hg (fun n hl hs => ?_) (fun n ad H locs lsA k1 k2 hl hs hh hlen k => ?_)
  · exact m2 (by unfold cS c32; omega) (hs)
  · exact lv_sipush (v := Int32.ofInt k0) hx hb hd (by apply Int32.toInt_inj.mp; rw [Int16.toInt_toInt32, Int16.toInt_ofInt_of_le hk0.1 hk0.2, n32_id (by unfold c32; omega)]) k
theorem G_lconst {k0 : Fin 2} (hx : p.tables.exec = Jvm.exec) (hb : c.code = mC m) (hd : decode (mC m) pc = .ok (.lconst k0, 1)) (hg : Good p l e R s mi args below meth c Q D dA z sc md b m n0 ad0 r Vf V0 (pc + 1) ls (xl (k0.val : Int) :: st) V) : Good p l e R s mi args below meth c Q D dA z sc md b m n0 ad0 r Vf V0 pc ls (st) V := by
  refine G_pure hg (fun n hl hs => ?_) (fun n ad H locs lsA k1 k2 hl hs hh hlen k => ?_)
  · exact m2 (by have := k0.isLt; show c64 _; unfold c64; omega) (hs)
  · refine lv_lconst (v := Int64.ofInt (k0.val : Int)) hx hb hd (by rw [Int64.ofInt_eq_ofNat]) k
theorem G_ldc2 {k0 : Int} {idx : Nat} {own : String} (hx : p.tables.exec = Jvm.exec) (hb : c.code = mC m) (hown : s.vm.findClass own = some mi.cls) (hcn : (Cond.constantLong own idx (Int64.ofInt k0)).before args s = true) (hk0 : c64 k0) (hd : decode (mC m) pc = .ok (.ldc2_w idx, 3)) (hg : Good p l e R s mi args below meth c Q D dA z sc md b m n0 ad0 r Vf V0 (pc + 3) ls (xl k0 :: st) V) : Good p l e R s mi args below meth c Q D dA z sc md b m n0 ad0 r Vf V0 pc ls (st) V := by
  refine G_pure hg (fun n hl hs => ?_) (fun n ad H locs lsA k1 k2 hl hs hh hlen k => ?_)
  · exact m2 (hk0) (hs)
  · exact lv_ldc2 hx hb hown hcn hd k
theorem G_dconst  (hx : p.tables.exec = Jvm.exec) (hb : c.code = mC m) (hd : decode (mC m) pc = .ok (.dconst 0, 1)) (hg : Good p l e R s mi args below meth c Q D dA z sc md b m n0 ad0 r Vf V0 (pc + 1) ls (xd 0 :: st) V) : Good p l e R s mi args below meth c Q D dA z sc md b m n0 ad0 r Vf V0 pc ls (st) V := by
  refine G_pure hg (fun n hl hs => ?_) (fun n ad H locs lsA k1 k2 hl hs hh hlen k => ?_)
  · exact m2 (⟨by omega, by omega⟩) (hs)
  · exact lv_dconst0 hx hb hd k
theorem G_ifeq {x off : Int} {r1 : Nat} (hx : p.tables.exec = Jvm.exec) (hb : c.code = mC m) (hd : decode (mC m) pc = .ok (.ifCond .eq off, 3)) (ht : (pc : Int) + off = (r1 : Int)) (hg1 : x = 0 → Good p l e R s mi args below meth c Q D dA z sc md b m n0 ad0 r Vf V0 r1 ls st V) (hg2 : ¬ x = 0 → Good p l e R s mi args below meth c Q D dA z sc md b m n0 ad0 r Vf V0 (pc + 3) ls st V) : Good p l e R s mi args below meth c Q D dA z sc md b m n0 ad0 r Vf V0 pc ls (xi x :: st) V := by
  refine G_br hg1 hg2 (fun n hs => (m1 hs).2) (fun n ad H locs lsA k1 k2 hs w1 w2 => ?_)
  have h0 : c32 x := (m1 hs).1
  have z0 : c32 0 := by unfold c32; omega
  refine lv_if_eq hx hb hd ht (fun q => ?_) (fun q => ?_)
  · first | exact w1 ((n32_inj h0 z0).mp q) | exact w2 (fun t => q ((n32_inj h0 z0).mpr t)) | exact w2 (fun t => Int32.not_lt.mpr q ((n32_inj h0 z0).mpr t)) | exact w1 ((n32_inj h0 z0).mp (Int32.not_le.mp q)) | exact w2 (fun t => Int32.not_le.mpr ((n32_inj h0 z0).mpr t) q) | exact w1 (Classical.byContradiction fun t => q (fun t2 => t ((n32_inj h0 z0).mp t2)))
  · first | exact w1 ((n32_inj h0 z0).mp q) | exact w2 (fun t => q ((n32_inj h0 z0).mpr t)) | exact w2 (fun t => Int32.not_lt.mpr q ((n32_inj h0 z0).mpr t)) | exact w1 ((n32_inj h0 z0).mp (Int32.not_le.mp q)) | exact w2 (fun t => Int32.not_le.mpr ((n32_inj h0 z0).mpr t) q) | exact w1 (Classical.byContradiction fun t => q (fun t2 => t ((n32_inj h0 z0).mp t2)))
theorem G_ifne {x off : Int} {r1 : Nat} (hx : p.tables.exec = Jvm.exec) (hb : c.code = mC m) (hd : decode (mC m) pc = .ok (.ifCond .ne off, 3)) (ht : (pc : Int) + off = (r1 : Int)) (hg1 : x = 0 → Good p l e R s mi args below meth c Q D dA z sc md b m n0 ad0 r Vf V0 (pc + 3) ls st V) (hg2 : ¬ x = 0 → Good p l e R s mi args below meth c Q D dA z sc md b m n0 ad0 r Vf V0 r1 ls st V) : Good p l e R s mi args below meth c Q D dA z sc md b m n0 ad0 r Vf V0 pc ls (xi x :: st) V := by
  refine G_br hg1 hg2 (fun n hs => (m1 hs).2) (fun n ad H locs lsA k1 k2 hs w1 w2 => ?_)
  have h0 : c32 x := (m1 hs).1
  have z0 : c32 0 := by unfold c32; omega
  refine lv_if_ne hx hb hd ht (fun q => ?_) (fun q => ?_)
  · first | exact w1 ((n32_inj h0 z0).mp q) | exact w2 (fun t => q ((n32_inj h0 z0).mpr t)) | exact w2 (fun t => Int32.not_lt.mpr q ((n32_inj h0 z0).mpr t)) | exact w1 ((n32_inj h0 z0).mp (Int32.not_le.mp q)) | exact w2 (fun t => Int32.not_le.mpr ((n32_inj h0 z0).mpr t) q) | exact w1 (Classical.byContradiction fun t => q (fun t2 => t ((n32_inj h0 z0).mp t2)))
  · first | exact w1 ((n32_inj h0 z0).mp q) | exact w2 (fun t => q ((n32_inj h0 z0).mpr t)) | exact w2 (fun t => Int32.not_lt.mpr q ((n32_inj h0 z0).mpr t)) | exact w1 ((n32_inj h0 z0).mp (Int32.not_le.mp q)) | exact w2 (fun t => Int32.not_le.mpr ((n32_inj h0 z0).mpr t) q) | exact w1 (Classical.byContradiction fun t => q (fun t2 => t ((n32_inj h0 z0).mp t2)))
theorem G_iflt {x off : Int} {r1 : Nat} (hx : p.tables.exec = Jvm.exec) (hb : c.code = mC m) (hd : decode (mC m) pc = .ok (.ifCond .lt off, 3)) (ht : (pc : Int) + off = (r1 : Int)) (hg1 : x < 0 → Good p l e R s mi args below meth c Q D dA z sc md b m n0 ad0 r Vf V0 r1 ls st V) (hg2 : ¬ x < 0 → Good p l e R s mi args below meth c Q D dA z sc md b m n0 ad0 r Vf V0 (pc + 3) ls st V) : Good p l e R s mi args below meth c Q D dA z sc md b m n0 ad0 r Vf V0 pc ls (xi x :: st) V := by
  refine G_br hg1 hg2 (fun n hs => (m1 hs).2) (fun n ad H locs lsA k1 k2 hs w1 w2 => ?_)
  have h0 : c32 x := (m1 hs).1
  have z0 : c32 0 := by unfold c32; omega
  refine lv_if_lt hx hb hd ht (fun q => ?_) (fun q => ?_)
  · first | exact w1 ((n32_lt h0 z0).mp q) | exact w2 (fun t => q ((n32_lt h0 z0).mpr t)) | exact w2 (fun t => Int32.not_lt.mpr q ((n32_lt h0 z0).mpr t)) | exact w1 ((n32_lt h0 z0).mp (Int32.not_le.mp q)) | exact w2 (fun t => Int32.not_le.mpr ((n32_lt h0 z0).mpr t) q) | exact w1 (Classical.byContradiction fun t => q (fun t2 => t ((n32_lt h0 z0).mp t2)))
  · first | exact w1 ((n32_lt h0 z0).mp q) | exact w2 (fun t => q ((n32_lt h0 z0).mpr t)) | exact w2 (fun t => Int32.not_lt.mpr q ((n32_lt h0 z0).mpr t)) | exact w1 ((n32_lt h0 z0).mp (Int32.not_le.mp q)) | exact w2 (fun t => Int32.not_le.mpr ((n32_lt h0 z0).mpr t) q) | exact w1 (Classical.byContradiction fun t => q (fun t2 => t ((n32_lt h0 z0).mp t2)))
theorem G_ifge {x off : Int} {r1 : Nat} (hx : p.tables.exec = Jvm.exec) (hb : c.code = mC m) (hd : decode (mC m) pc = .ok (.ifCond .ge off, 3)) (ht : (pc : Int) + off = (r1 : Int)) (hg1 : x < 0 → Good p l e R s mi args below meth c Q D dA z sc md b m n0 ad0 r Vf V0 (pc + 3) ls st V) (hg2 : ¬ x < 0 → Good p l e R s mi args below meth c Q D dA z sc md b m n0 ad0 r Vf V0 r1 ls st V) : Good p l e R s mi args below meth c Q D dA z sc md b m n0 ad0 r Vf V0 pc ls (xi x :: st) V := by
  refine G_br hg1 hg2 (fun n hs => (m1 hs).2) (fun n ad H locs lsA k1 k2 hs w1 w2 => ?_)
  have h0 : c32 x := (m1 hs).1
  have z0 : c32 0 := by unfold c32; omega
  refine lv_if_ge hx hb hd ht (fun q => ?_) (fun q => ?_)
  · first | exact w1 ((n32_lt h0 z0).mp q) | exact w2 (fun t => q ((n32_lt h0 z0).mpr t)) | exact w2 (fun t => Int32.not_lt.mpr q ((n32_lt h0 z0).mpr t)) | exact w1 ((n32_lt h0 z0).mp (Int32.not_le.mp q)) | exact w2 (fun t => Int32.not_le.mpr ((n32_lt h0 z0).mpr t) q) | exact w1 (Classical.byContradiction fun t => q (fun t2 => t ((n32_lt h0 z0).mp t2)))
  · first | exact w1 ((n32_lt h0 z0).mp q) | exact w2 (fun t => q ((n32_lt h0 z0).mpr t)) | exact w2 (fun t => Int32.not_lt.mpr q ((n32_lt h0 z0).mpr t)) | exact w1 ((n32_lt h0 z0).mp (Int32.not_le.mp q)) | exact w2 (fun t => Int32.not_le.mpr ((n32_lt h0 z0).mpr t) q) | exact w1 (Classical.byContradiction fun t => q (fun t2 => t ((n32_lt h0 z0).mp t2)))
theorem G_ifgt {x off : Int} {r1 : Nat} (hx : p.tables.exec = Jvm.exec) (hb : c.code = mC m) (hd : decode (mC m) pc = .ok (.ifCond .gt off, 3)) (ht : (pc : Int) + off = (r1 : Int)) (hg1 : 0 < x → Good p l e R s mi args below meth c Q D dA z sc md b m n0 ad0 r Vf V0 r1 ls st V) (hg2 : ¬ 0 < x → Good p l e R s mi args below meth c Q D dA z sc md b m n0 ad0 r Vf V0 (pc + 3) ls st V) : Good p l e R s mi args below meth c Q D dA z sc md b m n0 ad0 r Vf V0 pc ls (xi x :: st) V := by
  refine G_br hg1 hg2 (fun n hs => (m1 hs).2) (fun n ad H locs lsA k1 k2 hs w1 w2 => ?_)
  have h0 : c32 x := (m1 hs).1
  have z0 : c32 0 := by unfold c32; omega
  refine lv_if_gt hx hb hd ht (fun q => ?_) (fun q => ?_)
  · first | exact w1 ((n32_lt z0 h0).mp q) | exact w2 (fun t => q ((n32_lt z0 h0).mpr t)) | exact w2 (fun t => Int32.not_lt.mpr q ((n32_lt z0 h0).mpr t)) | exact w1 ((n32_lt z0 h0).mp (Int32.not_le.mp q)) | exact w2 (fun t => Int32.not_le.mpr ((n32_lt z0 h0).mpr t) q) | exact w1 (Classical.byContradiction fun t => q (fun t2 => t ((n32_lt z0 h0).mp t2)))
  · first | exact w1 ((n32_lt z0 h0).mp q) | exact w2 (fun t => q ((n32_lt z0 h0).mpr t)) | exact w2 (fun t => Int32.not_lt.mpr q ((n32_lt z0 h0).mpr t)) | exact w1 ((n32_lt z0 h0).mp (Int32.not_le.mp q)) | exact w2 (fun t => Int32.not_le.mpr ((n32_lt z0 h0).mpr t) q) | exact w1 (Classical.byContradiction fun t => q (fun t2 => t ((n32_lt z0 h0).mp t2)))
theorem G_ifle {x off : Int} {r1 : Nat} (hx : p.tables.exec = Jvm.exec) (hb : c.code = mC m) (hd : decode (mC m) pc = .ok (.ifCond .le off, 3)) (ht : (pc : Int) + off = (r1 : Int)) (hg1 : 0 < x → Good p l e R s mi args below meth c Q D dA z sc md b m n0 ad0 r Vf V0 (pc + 3) ls st V) (hg2 : ¬ 0 < x → Good p l e R s mi args below meth c Q D dA z sc md b m n0 ad0 r Vf V0 r1 ls st V) : Good p l e R s mi args below meth c Q D dA z sc md b m n0 ad0 r Vf V0 pc ls (xi x :: st) V := by
  refine G_br hg1 hg2 (fun n hs => (m1 hs).2) (fun n ad H locs lsA k1 k2 hs w1 w2 => ?_)
  have h0 : c32 x := (m1 hs).1
  have z0 : c32 0 := by unfold c32; omega
  refine lv_if_le hx hb hd ht (fun q => ?_) (fun q => ?_)
  · first | exact w1 ((n32_lt z0 h0).mp q) | exact w2 (fun t => q ((n32_lt z0 h0).mpr t)) | exact w2 (fun t => Int32.not_lt.mpr q ((n32_lt z0 h0).mpr t)) | exact w1 ((n32_lt z0 h0).mp (Int32.not_le.mp q)) | exact w2 (fun t => Int32.not_le.mpr ((n32_lt z0 h0).mpr t) q) | exact w1 (Classical.byContradiction fun t => q (fun t2 => t ((n32_lt z0 h0).mp t2)))
  · first | exact w1 ((n32_lt z0 h0).mp q) | exact w2 (fun t => q ((n32_lt z0 h0).mpr t)) | exact w2 (fun t => Int32.not_lt.mpr q ((n32_lt z0 h0).mpr t)) | exact w1 ((n32_lt z0 h0).mp (Int32.not_le.mp q)) | exact w2 (fun t => Int32.not_le.mpr ((n32_lt z0 h0).mpr t) q) | exact w1 (Classical.byContradiction fun t => q (fun t2 => t ((n32_lt z0 h0).mp t2)))
theorem G_iceq {x y off : Int} {r1 : Nat} (hx : p.tables.exec = Jvm.exec) (hb : c.code = mC m) (hd : decode (mC m) pc = .ok (.if_icmp .eq off, 3)) (ht : (pc : Int) + off = (r1 : Int)) (hg1 : x = y → Good p l e R s mi args below meth c Q D dA z sc md b m n0 ad0 r Vf V0 r1 ls st V) (hg2 : ¬ x = y → Good p l e R s mi args below meth c Q D dA z sc md b m n0 ad0 r Vf V0 (pc + 3) ls st V) : Good p l e R s mi args below meth c Q D dA z sc md b m n0 ad0 r Vf V0 pc ls (xi y :: xi x :: st) V := by
  refine G_br hg1 hg2 (fun n hs => (m1 (m1 hs).2).2) (fun n ad H locs lsA k1 k2 hs w1 w2 => ?_)
  have h0 : c32 y := (m1 hs).1
  have h1 : c32 x := (m1 (m1 hs).2).1
  refine lv_icmp_eq hx hb hd ht (fun q => ?_) (fun q => ?_)
  · first | exact w1 ((n32_inj h1 h0).mp q) | exact w2 (fun t => q ((n32_inj h1 h0).mpr t)) | exact w2 (fun t => Int32.not_lt.mpr q ((n32_inj h1 h0).mpr t)) | exact w1 ((n32_inj h1 h0).mp (Int32.not_le.mp q)) | exact w2 (fun t => Int32.not_le.mpr ((n32_inj h1 h0).mpr t) q) | exact w1 (Classical.byContradiction fun t => q (fun t2 => t ((n32_inj h1 h0).mp t2)))
  · first | exact w1 ((n32_inj h1 h0).mp q) | exact w2 (fun t => q ((n32_inj h1 h0).mpr t)) | exact w2 (fun t => Int32.not_lt.mpr q ((n32_inj h1 h0).mpr t)) | exact w1 ((n32_inj h1 h0).mp (Int32.not_le.mp q)) | exact w2 (fun t => Int32.not_le.mpr ((n32_inj h1 h0).mpr t) q) | exact w1 (Classical.byContradiction fun t => q (fun t2 => t ((n32_inj h1 h0).mp t2)))
theorem G_icne {x y off : Int} {r1 : Nat} (hx : p.tables.exec = Jvm.exec) (hb : c.code = mC m) (hd : decode (mC m) pc = .ok (.if_icmp .ne off, 3)) (ht : (pc : Int) + off = (r1 : Int)) (hg1 : x = y → Good p l e R s mi args below meth c Q D dA z sc md b m n0 ad0 r Vf V0 (pc + 3) ls st V) (hg2 : ¬ x = y → Good p l e R s mi args below meth c Q D dA z sc md b m n0 ad0 r Vf V0 r1 ls st V) : Good p l e R s mi args below meth c Q D dA z sc md b m n0 ad0 r Vf V0 pc ls (xi y :: xi x :: st) V := by
  refine G_br hg1 hg2 (fun n hs => (m1 (m1 hs).2).2) (fun n ad H locs lsA k1 k2 hs w1 w2 => ?_)
  have h0 : c32 y := (m1 hs).1
  have h1 : c32 x := (m1 (m1 hs).2).1
  refine lv_icmp_ne hx hb hd ht (fun q => ?_) (fun q => ?_)
  · first | exact w1 ((n32_inj h1 h0).mp q) | exact w2 (fun t => q ((n32_inj h1 h0).mpr t)) | exact w2 (fun t => Int32.not_lt.mpr q ((n32_inj h1 h0).mpr t)) | exact w1 ((n32_inj h1 h0).mp (Int32.not_le.mp q)) | exact w2 (fun t => Int32.not_le.mpr ((n32_inj h1 h0).mpr t) q) | exact w1 (Classical.byContradiction fun t => q (fun t2 => t ((n32_inj h1 h0).mp t2)))
  · first | exact w1 ((n32_inj h1 h0).mp q) | exact w2 (fun t => q ((n32_inj h1 h0).mpr t)) | exact w2 (fun t => Int32.not_lt.mpr q ((n32_inj h1 h0).mpr t)) | exact w1 ((n32_inj h1 h0).mp (Int32.not_le.mp q)) | exact w2 (fun t => Int32.not_le.mpr ((n32_inj h1 h0).mpr t) q) | exact w1 (Classical.byContradiction fun t => q (fun t2 => t ((n32_inj h1 h0).mp t2)))
theorem G_iclt {x y off : Int} {r1 : Nat} (hx : p.tables.exec = Jvm.exec) (hb : c.code = mC m) (hd : decode (mC m) pc = .ok (.if_icmp .lt off, 3)) (ht : (pc : Int) + off = (r1 : Int)) (hg1 : x < y → Good p l e R s mi args below meth c Q D dA z sc md b m n0 ad0 r Vf V0 r1 ls st V) (hg2 : ¬ x < y → Good p l e R s mi args below meth c Q D dA z sc md b m n0 ad0 r Vf V0 (pc + 3) ls st V) : Good p l e R s mi args below meth c Q D dA z sc md b m n0 ad0 r Vf V0 pc ls (xi y :: xi x :: st) V := by
  refine G_br hg1 hg2 (fun n hs => (m1 (m1 hs).2).2) (fun n ad H locs lsA k1 k2 hs w1 w2 => ?_)
  have h0 : c32 y := (m1 hs).1
  have h1 : c32 x := (m1 (m1 hs).2).1
  refine lv_icmp_lt hx hb hd ht (fun q => ?_) (fun q => ?_)
  · first | exact w1 ((n32_lt h1 h0).mp q) | exact w2 (fun t => q ((n32_lt h1 h0).mpr t)) | exact w2 (fun t => Int32.not_lt.mpr q ((n32_lt h1 h0).mpr t)) | exact w1 ((n32_lt h1 h0).mp (Int32.not_le.mp q)) | exact w2 (fun t => Int32.not_le.mpr ((n32_lt h1 h0).mpr t) q) | exact w1 (Classical.byContradiction fun t => q (fun t2 => t ((n32_lt h1 h0).mp t2)))
  · first | exact w1 ((n32_lt h1 h0).mp q) | exact w2 (fun t => q ((n32_lt h1 h0).mpr t)) | exact w2 (fun t => Int32.not_lt.mpr q ((n32_lt h1 h0).mpr t)) | exact w1 ((n32_lt h1 h0).mp (Int32.not_le.mp q)) | exact w2 (fun t => Int32.not_le.mpr ((n32_lt h1 h0).mpr t) q) | exact w1 (Classical.byContradiction fun t => q (fun t2 => t ((n32_lt h1 h0).mp t2)))
theorem G_icge {x y off : Int} {r1 : Nat} (hx : p.tables.exec = Jvm.exec) (hb : c.code = mC m) (hd : decode (mC m) pc = .ok (.if_icmp .ge off, 3)) (ht : (pc : Int) + off = (r1 : Int)) (hg1 : x < y → Good p l e R s mi args below meth c Q D dA z sc md b m n0 ad0 r Vf V0 (pc + 3) ls st V) (hg2 : ¬ x < y → Good p l e R s mi args below meth c Q D dA z sc md b m n0 ad0 r Vf V0 r1 ls st V) : Good p l e R s mi args below meth c Q D dA z sc md b m n0 ad0 r Vf V0 pc ls (xi y :: xi x :: st) V := by
  refine G_br hg1 hg2 (fun n hs => (m1 (m1 hs).2).2) (fun n ad H locs lsA k1 k2 hs w1 w2 => ?_)
  have h0 : c32 y := (m1 hs).1
  have h1 : c32 x := (m1 (m1 hs).2).1
  refine lv_icmp_ge hx hb hd ht (fun q => ?_) (fun q => ?_)
  · first | exact w1 ((n32_lt h1 h0).mp q) | exact w2 (fun t => q ((n32_lt h1 h0).mpr t)) | exact w2 (fun t => Int32.not_lt.mpr q ((n32_lt h1 h0).mpr t)) | exact w1 ((n32_lt h1 h0).mp (Int32.not_le.mp q)) | exact w2 (fun t => Int32.not_le.mpr ((n32_lt h1 h0).mpr t) q) | exact w1 (Classical.byContradiction fun t => q (fun t2 => t ((n32_lt h1 h0).mp t2)))
  · first | exact w1 ((n32_lt h1 h0).mp q) | exact w2 (fun t => q ((n32_lt h1 h0).mpr t)) | exact w2 (fun t => Int32.not_lt.mpr q ((n32_lt h1 h0).mpr t)) | exact w1 ((n32_lt h1 h0).mp (Int32.not_le.mp q)) | exact w2 (fun t => Int32.not_le.mpr ((n32_lt h1 h0).mpr t) q) | exact w1 (Classical.byContradiction fun t => q (fun t2 => t ((n32_lt h1 h0).mp t2)))
theorem G_icgt {x y off : Int} {r1 : Nat} (hx : p.tables.exec = Jvm.exec) (hb : c.code = mC m) (hd : decode (mC m) pc = .ok (.if_icmp .gt off, 3)) (ht : (pc : Int) + off = (r1 : Int)) (hg1 : y < x → Good p l e R s mi args below meth c Q D dA z sc md b m n0 ad0 r Vf V0 r1 ls st V) (hg2 : ¬ y < x → Good p l e R s mi args below meth c Q D dA z sc md b m n0 ad0 r Vf V0 (pc + 3) ls st V) : Good p l e R s mi args below meth c Q D dA z sc md b m n0 ad0 r Vf V0 pc ls (xi y :: xi x :: st) V := by
  refine G_br hg1 hg2 (fun n hs => (m1 (m1 hs).2).2) (fun n ad H locs lsA k1 k2 hs w1 w2 => ?_)
  have h0 : c32 y := (m1 hs).1
  have h1 : c32 x := (m1 (m1 hs).2).1
  refine lv_icmp_gt hx hb hd ht (fun q => ?_) (fun q => ?_)
  · first | exact w1 ((n32_lt h0 h1).mp q) | exact w2 (fun t => q ((n32_lt h0 h1).mpr t)) | exact w2 (fun t => Int32.not_lt.mpr q ((n32_lt h0 h1).mpr t)) | exact w1 ((n32_lt h0 h1).mp (Int32.not_le.mp q)) | exact w2 (fun t => Int32.not_le.mpr ((n32_lt h0 h1).mpr t) q) | exact w1 (Classical.byContradiction fun t => q (fun t2 => t ((n32_lt h0 h1).mp t2)))
  · first | exact w1 ((n32_lt h0 h1).mp q) | exact w2 (fun t => q ((n32_lt h0 h1).mpr t)) | exact w2 (fun t => Int32.not_lt.mpr q ((n32_lt h0 h1).mpr t)) | exact w1 ((n32_lt h0 h1).mp (Int32.not_le.mp q)) | exact w2 (fun t => Int32.not_le.mpr ((n32_lt h0 h1).mpr t) q) | exact w1 (Classical.byContradiction fun t => q (fun t2 => t ((n32_lt h0 h1).mp t2)))
theorem G_icle {x y off : Int} {r1 : Nat} (hx : p.tables.exec = Jvm.exec) (hb : c.code = mC m) (hd : decode (mC m) pc = .ok (.if_icmp .le off, 3)) (ht : (pc : Int) + off = (r1 : Int)) (hg1 : y < x → Good p l e R s mi args below meth c Q D dA z sc md b m n0 ad0 r Vf V0 (pc + 3) ls st V) (hg2 : ¬ y < x → Good p l e R s mi args below meth c Q D dA z sc md b m n0 ad0 r Vf V0 r1 ls st V) : Good p l e R s mi args below meth c Q D dA z sc md b m n0 ad0 r Vf V0 pc ls (xi y :: xi x :: st) V := by
  refine G_br hg1 hg2 (fun n hs => (m1 (m1 hs).2).2) (fun n ad H locs lsA k1 k2 hs w1 w2 => ?_)
  have h0 : c32 y := (m1 hs).1
  have h1 : c32 x := (m1 (m1 hs).2).1
  refine lv_icmp_le hx hb hd ht (fun q => ?_) (fun q => ?_)
  · first | exact w1 ((n32_lt h0 h1).mp q) | exact w2 (fun t => q ((n32_lt h0 h1).mpr t)) | exact w2 (fun t => Int32.not_lt.mpr q ((n32_lt h0 h1).mpr t)) | exact w1 ((n32_lt h0 h1).mp (Int32.not_le.mp q)) | exact w2 (fun t => Int32.not_le.mpr ((n32_lt h0 h1).mpr t) q) | exact w1 (Classical.byContradiction fun t => q (fun t2 => t ((n32_lt h0 h1).mp t2)))
  · first | exact w1 ((n32_lt h0 h1).mp q) | exact w2 (fun t => q ((n32_lt h0 h1).mpr t)) | exact w2 (fun t => Int32.not_lt.mpr q ((n32_lt h0 h1).mpr t)) | exact w1 ((n32_lt h0 h1).mp (Int32.not_le.mp q)) | exact w2 (fun t => Int32.not_le.mpr ((n32_lt h0 h1).mpr t) q) | exact w1 (Classical.byContradiction fun t => q (fun t2 => t ((n32_lt h0 h1).mp t2)))
theorem G_goto {off : Int} {r1 : Nat} (hx : p.tables.exec = Jvm.exec) (hb : c.code = mC m) (hd : decode (mC m) pc = .ok (.goto off, 3)) (ht : (pc : Int) + off = (r1 : Int)) (hg : Good p l e R s mi args below meth c Q D dA z sc md b m n0 ad0 r Vf V0 r1 ls st V) : Good p l e R s mi args below meth c Q D dA z sc md b m n0 ad0 r Vf V0 pc ls st V :=
  G_pure hg (fun n hl hs => hs) (fun n ad H locs lsA k1 k2 hl hs hh hlen k => lv_goto hx hb hd ht k)
theorem G_mask (bm : List Bool) (hbm : bm.length = XML m) (hg : Good p l e R s mi args below meth c Q D dA z sc md b m n0 ad0 r Vf V0 pc (xmask bm ls) st V) : Good p l e R s mi args below meth c Q D dA z sc md b m n0 ad0 r Vf V0 pc ls st V := by
  intro n h1 h2 h3 h4 h5 h6 h7 h8 h9
  obtain ⟨a, bb⟩ := hg n h1 h2 h3 h4 ((xmask_length bm ls (hbm.trans h5.symm)).trans h5) (fun v hv => (xmask_mem bm ls hv).elim (fun e => by rw [e]; exact Or.inl rfl) (h6 v)) h7 h8 h9
  exact ⟨a, fun ad H locs lsA q1 q2 q3 q4 q5 => bb ad H locs lsA q1 q2 q3 q4 (lvl_mask bm (hbm.trans h5.symm) q5)⟩
theorem G_iload {x : Int} {r1 : Nat} (hx : p.tables.exec = Jvm.exec) (hb : c.code = mC m) (hv : xget ls r1 = xi x) (hd : decode (mC m) pc = .ok (.iload r1, 2)) (hg : Good p l e R s mi args below meth c Q D dA z sc md b m n0 ad0 r Vf V0 (pc + 2) ls (xi x :: st) V) : Good p l e R s mi args below meth c Q D dA z sc md b m n0 ad0 r Vf V0 pc ls st V := by
  have hlt : r1 < ls.length := by
    rcases Nat.lt_or_ge r1 ls.length with q | q
    · exact q
    · rw [xget_out ls r1 q] at hv
      cases hv
  refine G_pure hg (fun n hl hs => m2 (by rw [← hv]; exact hl _ (xget_mem ls r1 hlt)) hs) (fun n ad H locs lsA k1 k2 hl hs hh hlen k => ?_)
  have hat : lsA[r1]? = some (.val (Value.int (Int32.ofInt x))) := hh.2.2 (r1, Value.int (Int32.ofInt x)) (lvl_mem.mpr ⟨hlt, by show dead (xget ls r1) = false; rw [hv]; rfl, by show _ = tv ad (xget ls r1); rw [hv]; rfl⟩)
  exact lv_iload hx hb hd hat k
theorem G_iload_n {x : Int} {r1 : Nat} {k0 : Fin 4} (hk0 : k0.val = r1) (hx : p.tables.exec = Jvm.exec) (hb : c.code = mC m) (hv : xget ls r1 = xi x) (hd : decode (mC m) pc = .ok (.iload_n k0, 1)) (hg : Good p l e R s mi args below meth c Q D dA z sc md b m n0 ad0 r Vf V0 (pc + 1) ls (xi x :: st) V) : Good p l e R s mi args below meth c Q D dA z sc md b m n0 ad0 r Vf V0 pc ls st V := by
  have hlt : r1 < ls.length := by
    rcases Nat.lt_or_ge r1 ls.length with q | q
    · exact q
    · rw [xget_out ls r1 q] at hv
      cases hv
  refine G_pure hg (fun n hl hs => m2 (by rw [← hv]; exact hl _ (xget_mem ls r1 hlt)) hs) (fun n ad H locs lsA k1 k2 hl hs hh hlen k => ?_)
  have hat : lsA[r1]? = some (.val (Value.int (Int32.ofInt x))) := hh.2.2 (r1, Value.int (Int32.ofInt x)) (lvl_mem.mpr ⟨hlt, by show dead (xget ls r1) = false; rw [hv]; rfl, by show _ = tv ad (xget ls r1); rw [hv]; rfl⟩)
  exact lv_iload_n hx hb hd hk0 hat k
theorem G_lload {x : Int} {r1 : Nat} (hx : p.tables.exec = Jvm.exec) (hb : c.code = mC m) (hv : xget ls r1 = xl x) (hd : decode (mC m) pc = .ok (.lload r1, 2)) (hg : Good p l e R s mi args below meth c Q D dA z sc md b m n0 ad0 r Vf V0 (pc + 2) ls (xl x :: st) V) : Good p l e R s mi args below meth c Q D dA z sc md b m n0 ad0 r Vf V0 pc ls st V := by
  have hlt : r1 < ls.length := by
    rcases Nat.lt_or_ge r1 ls.length with q | q
    · exact q
    · rw [xget_out ls r1 q] at hv
      cases hv
  refine G_pure hg (fun n hl hs => m2 (by rw [← hv]; exact hl _ (xget_mem ls r1 hlt)) hs) (fun n ad H locs lsA k1 k2 hl hs hh hlen k => ?_)
  have hat : lsA[r1]? = some (.val (Value.long (Int64.ofInt x))) := hh.2.2 (r1, Value.long (Int64.ofInt x)) (lvl_mem.mpr ⟨hlt, by show dead (xget ls r1) = false; rw [hv]; rfl, by show _ = tv ad (xget ls r1); rw [hv]; rfl⟩)
  exact lv_lload hx hb hd hat k
theorem G_lload_n {x : Int} {r1 : Nat} {k0 : Fin 4} (hk0 : k0.val = r1) (hx : p.tables.exec = Jvm.exec) (hb : c.code = mC m) (hv : xget ls r1 = xl x) (hd : decode (mC m) pc = .ok (.lload_n k0, 1)) (hg : Good p l e R s mi args below meth c Q D dA z sc md b m n0 ad0 r Vf V0 (pc + 1) ls (xl x :: st) V) : Good p l e R s mi args below meth c Q D dA z sc md b m n0 ad0 r Vf V0 pc ls st V := by
  have hlt : r1 < ls.length := by
    rcases Nat.lt_or_ge r1 ls.length with q | q
    · exact q
    · rw [xget_out ls r1 q] at hv
      cases hv
  refine G_pure hg (fun n hl hs => m2 (by rw [← hv]; exact hl _ (xget_mem ls r1 hlt)) hs) (fun n ad H locs lsA k1 k2 hl hs hh hlen k => ?_)
  have hat : lsA[r1]? = some (.val (Value.long (Int64.ofInt x))) := hh.2.2 (r1, Value.long (Int64.ofInt x)) (lvl_mem.mpr ⟨hlt, by show dead (xget ls r1) = false; rw [hv]; rfl, by show _ = tv ad (xget ls r1); rw [hv]; rfl⟩)
  exact lv_lload_n hx hb hd hk0 hat k
theorem G_aload {g i : Nat} {r1 : Nat} (hx : p.tables.exec = Jvm.exec) (hb : c.code = mC m) (hv : xget ls r1 = xr (g + 1) i) (hd : decode (mC m) pc = .ok (.aload r1, 2)) (hg : Good p l e R s mi args below meth c Q D dA z sc md b m n0 ad0 r Vf V0 (pc + 2) ls (xr (g + 1) i :: st) V) : Good p l e R s mi args below meth c Q D dA z sc md b m n0 ad0 r Vf V0 pc ls st V := by
  have hlt : r1 < ls.length := by
    rcases Nat.lt_or_ge r1 ls.length with q | q
    · exact q
    · rw [xget_out ls r1 q] at hv
      cases hv
  refine G_pure hg (fun n hl hs => m2 (by rw [← hv]; exact hl _ (xget_mem ls r1 hlt)) hs) (fun n ad H locs lsA k1 k2 hl hs hh hlen k => ?_)
  have hat : lsA[r1]? = some (.val (Value.ref (ad (g + 1) i))) := hh.2.2 (r1, Value.ref (ad (g + 1) i)) (lvl_mem.mpr ⟨hlt, by show dead (xget ls r1) = false; rw [hv]; rfl, by show _ = tv ad (xget ls r1); rw [hv]; rfl⟩)
  exact lv_aload hx hb hd hat k
theorem G_aload_n {g i : Nat} {r1 : Nat} {k0 : Fin 4} (hk0 : k0.val = r1) (hx : p.tables.exec = Jvm.exec) (hb : c.code = mC m) (hv : xget ls r1 = xr (g + 1) i) (hd : decode (mC m) pc = .ok (.aload_n k0, 1)) (hg : Good p l e R s mi args below meth c Q D dA z sc md b m n0 ad0 r Vf V0 (pc + 1) ls (xr (g + 1) i :: st) V) : Good p l e R s mi args below meth c Q D dA z sc md b m n0 ad0 r Vf V0 pc ls st V := by
  have hlt : r1 < ls.length := by
    rcases Nat.lt_or_ge r1 ls.length with q | q
    · exact q
    · rw [xget_out ls r1 q] at hv
      cases hv
  refine G_pure hg (fun n hl hs => m2 (by rw [← hv]; exact hl _ (xget_mem ls r1 hlt)) hs) (fun n ad H locs lsA k1 k2 hl hs hh hlen k => ?_)
  have hat : lsA[r1]? = some (.val (Value.ref (ad (g + 1) i))) := hh.2.2 (r1, Value.ref (ad (g + 1) i)) (lvl_mem.mpr ⟨hlt, by show dead (xget ls r1) = false; rw [hv]; rfl, by show _ = tv ad (xget ls r1); rw [hv]; rfl⟩)
  exact lv_aload_n hx hb hd hk0 hat k
theorem G_loc {pc' : Nat} {st' ls' : List XS} (hg : Good p l e R s mi args below meth c Q D dA z sc md b m n0 ad0 r Vf V0 pc' ls' st' V) (hlen : ls'.length = ls.length) (hc : ∀ n, (∀ v ∈ ls, cS sc n v) → (∀ v ∈ st, cS sc n v) → (∀ v ∈ ls', cS sc n v) ∧ ∀ v ∈ st', cS sc n v) (hw : ∀ n ad H locs lsA k1 k2, (∀ v ∈ ls, cS sc n v) → (∀ v ∈ st, cS sc n v) → lv_has lsA (XML m) (lvl ad ls) → ls.length = XML m → (∀ lsA', lv_has lsA' (XML m) (lvl ad ls') → W p l e R s mi args below meth c H locs k1 k2 Q (F0 mi pc' lsA' (st'.map (tv ad)))) → W p l e R s mi args below meth c H locs k1 k2 Q (F0 mi pc lsA (st.map (tv ad)))) : Good p l e R s mi args below meth c Q D dA z sc md b m n0 ad0 r Vf V0 pc ls st V := by
  intro n h1 h2 h3 h4 h5 h6 h7 h8 h9
  obtain ⟨c1, c2⟩ := hc n h6 h7
  obtain ⟨a, bb⟩ := hg n h1 h2 h3 h4 (hlen.trans h5) c1 c2 h8 h9
  exact ⟨a, fun ad H locs lsA q1 q2 q3 q4 q5 => hw n ad H locs lsA _ _ h6 h7 q5 h5 (fun lsA' h => bb ad H locs lsA' q1 q2 q3 q4 h)⟩
theorem G_istore {x : Int} {r1 : Nat} (hx : p.tables.exec = Jvm.exec) (hb : c.code = mC m) (hr1 : r1 < XML m) (hok : xok1 ls r1 = true) (hd : decode (mC m) pc = .ok (.istore r1, 2)) (hg : Good p l e R s mi args below meth c Q D dA z sc md b m n0 ad0 r Vf V0 (pc + 2) (xset ls r1 (xi x)) st V) : Good p l e R s mi args below meth c Q D dA z sc md b m n0 ad0 r Vf V0 pc ls (xi x :: st) V := by
  refine G_loc hg (xset_length _ _ _) (fun n hl hs => ⟨fun v hv => (xset_mem ls r1 hv).elim (fun e => e ▸ (m1 hs).1) (hl v), (m1 hs).2⟩) (fun n ad H locs lsA k1 k2 hl hs hh hlen k => ?_)
  exact lv_istore hx hb hd hh (by omega) rfl (fun lsA' h => k lsA' (lvl_st1 (by omega) hok h))
theorem G_istore_n {x : Int} {r1 : Nat} {k0 : Fin 4} (hk0 : k0.val = r1) (hx : p.tables.exec = Jvm.exec) (hb : c.code = mC m) (hr1 : r1 < XML m) (hok : xok1 ls r1 = true) (hd : decode (mC m) pc = .ok (.istore_n k0, 1)) (hg : Good p l e R s mi args below meth c Q D dA z sc md b m n0 ad0 r Vf V0 (pc + 1) (xset ls r1 (xi x)) st V) : Good p l e R s mi args below meth c Q D dA z sc md b m n0 ad0 r Vf V0 pc ls (xi x :: st) V := by
  refine G_loc hg (xset_length _ _ _) (fun n hl hs => ⟨fun v hv => (xset_mem ls r1 hv).elim (fun e => e ▸ (m1 hs).1) (hl v), (m1 hs).2⟩) (fun n ad H locs lsA k1 k2 hl hs hh hlen k => ?_)
  exact lv_istore_n hx hb hd hk0 hh (by omega) rfl (fun lsA' h => k lsA' (lvl_st1 (by omega) hok h))
theorem G_astore {g i : Nat} {r1 : Nat} (hg0 : g ≠ 0) (hx : p.tables.exec = Jvm.exec) (hb : c.code = mC m) (hr1 : r1 < XML m) (hok : xok1 ls r1 = true) (hd : decode (mC m) pc = .ok (.astore r1, 2)) (hg : Good p l e R s mi args below meth c Q D dA z sc md b m n0 ad0 r Vf V0 (pc + 2) (xset ls r1 (xr g i)) st V) : Good p l e R s mi args below meth c Q D dA z sc md b m n0 ad0 r Vf V0 pc ls (xr g i :: st) V := by
  refine G_loc hg (xset_length _ _ _) (fun n hl hs => ⟨fun v hv => (xset_mem ls r1 hv).elim (fun e => e ▸ (m1 hs).1) (hl v), (m1 hs).2⟩) (fun n ad H locs lsA k1 k2 hl hs hh hlen k => ?_)
  obtain ⟨g0, rfl⟩ : ∃ g0, g = g0 + 1 := ⟨g - 1, by omega⟩
  exact lv_astore hx hb hd hh (by omega) rfl (fun lsA' h => k lsA' (lvl_st1 (by omega) hok h))
theorem G_astore_n {g i : Nat} {r1 : Nat} {k0 : Fin 4} (hk0 : k0.val = r1) (hg0 : g ≠ 0) (hx : p.tables.exec = Jvm.exec) (hb : c.code = mC m) (hr1 : r1 < XML m) (hok : xok1 ls r1 = true) (hd : decode (mC m) pc = .ok (.astore_n k0, 1)) (hg : Good p l e R s mi args below meth c Q D dA z sc md b m n0 ad0 r Vf V0 (pc + 1) (xset ls r1 (xr g i)) st V) : Good p l e R s mi args below meth c Q D dA z sc md b m n0 ad0 r Vf V0 pc ls (xr g i :: st) V := by
  refine G_loc hg (xset_length _ _ _) (fun n hl hs => ⟨fun v hv => (xset_mem ls r1 hv).elim (fun e => e ▸ (m1 hs).1) (hl v), (m1 hs).2⟩) (fun n ad H locs lsA k1 k2 hl hs hh hlen k => ?_)
  obtain ⟨g0, rfl⟩ : ∃ g0, g = g0 + 1 := ⟨g - 1, by omega⟩
  exact lv_astore_n hx hb hd hk0 hh (by omega) rfl (fun lsA' h => k lsA' (lvl_st1 (by omega) hok h))
theorem G_lstore {x : Int} {r1 : Nat} (hx : p.tables.exec = Jvm.exec) (hb : c.code = mC m) (hr1 : r1 + 1 < XML m) (hok : xok1 ls r1 = true) (hd : decode (mC m) pc = .ok (.lstore r1, 2)) (hg : Good p l e R s mi args below meth c Q D dA z sc md b m n0 ad0 r Vf V0 (pc + 2) (xset (xset ls r1 (xl x)) (r1 + 1) (xr 0 0)) st V) : Good p l e R s mi args below meth c Q D dA z sc md b m n0 ad0 r Vf V0 pc ls (xl x :: st) V := by
  refine G_loc hg (by rw [xset_length, xset_length]) (fun n hl hs => ⟨fun v hv => (xset_mem _ _ hv).elim (fun e => by rw [e]; exact Or.inl rfl) (fun hv => (xset_mem ls r1 hv).elim (fun e => e ▸ (m1 hs).1) (hl v)), (m1 hs).2⟩) (fun n ad H locs lsA k1 k2 hl hs hh hlen k => ?_)
  exact lv_lstore hx hb hd hh (by omega) rfl (fun lsA' h => k lsA' (lvl_st2 (v := xl x) (by omega) hok h))
theorem G_lstore_n {x : Int} {r1 : Nat} {k0 : Fin 4} (hk0 : k0.val = r1) (hx : p.tables.exec = Jvm.exec) (hb : c.code = mC m) (hr1 : r1 + 1 < XML m) (hok : xok1 ls r1 = true) (hd : decode (mC m) pc = .ok (.lstore_n k0, 1)) (hg : Good p l e R s mi args below meth c Q D dA z sc md b m n0 ad0 r Vf V0 (pc + 1) (xset (xset ls r1 (xl x)) (r1 + 1) (xr 0 0)) st V) : Good p l e R s mi args below meth c Q D dA z sc md b m n0 ad0 r Vf V0 pc ls (xl x :: st) V := by
  refine G_loc hg (by rw [xset_length, xset_length]) (fun n hl hs => ⟨fun v hv => (xset_mem _ _ hv).elim (fun e => by rw [e]; exact Or.inl rfl) (fun hv => (xset_mem ls r1 hv).elim (fun e => e ▸ (m1 hs).1) (hl v)), (m1 hs).2⟩) (fun n ad H locs lsA k1 k2 hl hs hh hlen k => ?_)
  exact lv_lstore_n hx hb hd hk0 hh (by omega) rfl (fun lsA' h => k lsA' (lvl_st2 (v := xl x) (by omega) hok h))
theorem G_iinc {x k0 : Int} {r1 : Nat} (hx : p.tables.exec = Jvm.exec) (hb : c.code = mC m) (hr1 : r1 < XML m) (hok : xok1 ls r1 = true) (hv : xget ls r1 = xi x) (hd : decode (mC m) pc = .ok (.iinc r1 k0, 3)) (hg : Good p l e R s mi args below meth c Q D dA z sc md b m n0 ad0 r Vf V0 (pc + 3) (xset ls r1 (xi (w32 (x + k0)))) st V) : Good p l e R s mi args below meth c Q D dA z sc md b m n0 ad0 r Vf V0 pc ls st V := by
  refine G_loc hg (xset_length _ _ _) (fun n hl hs => ⟨fun v hv => (xset_mem ls r1 hv).elim (fun e => by rw [e]; exact w32_c _) (hl v), hs⟩) (fun n ad H locs lsA k1 k2 hl hs hh hlen k => ?_)
  have hm : (r1, Value.int (Int32.ofInt x)) ∈ lvl ad ls := lvl_mem.mpr ⟨by omega, by show dead (xget ls r1) = false; rw [hv]; rfl, by show _ = tv ad (xget ls r1); rw [hv]; rfl⟩
  obtain ⟨q, hq⟩ := List.getElem?_of_mem hm
  exact lv_iinc (v := Int32.ofInt (w32 (x + k0))) hx hb hd hh hq (by rw [n32_w, Int32.ofInt_add]) (by omega) rfl (fun lsA' h => k lsA' (lvl_st1 (v := xi (w32 (x + k0))) (by omega) hok h))
end
end
section
/-! more of the static facts: the fields' layout words, and what an entry of the tables gives -/
def UL_l : List (Nat × Nat) := [(0, 0), (0, 1), (8, 0), (8, 1), (8, 2), (8, 3), (8, 4), (8, 5), (8, 6), (8, 7), (9, 0), (9, 1), (9, 2), (9, 3), (9, 4), (9, 5), (9, 6), (9, 7), (9, 8), (9, 9), (4, 0), (4, 1), (4, 2), (4, 3), (4, 4), (1, 0), (1, 1), (1, 2), (1, 3), (1, 4), (1, 5), (1, 6), (1, 7), (1, 8), (1, 9), (1, 10), (1, 11), (1, 12), (1, 13), (1, 14), (1, 15), (5, 0), (5, 1), (5, 2), (5, 3), (10, 0), (10, 1), (10, 2), (10, 3), (2, 0), (2, 1), (2, 2), (2, 3), (2, 4), (2, 5), (2, 6), (3, 0), (3, 1), (3, 2), (3, 3), (3, 4), (3, 5), (3, 6), (6, 0), (6, 1), (6, 2), (7, 0), (7, 1), (7, 2), (7, 3), (7, 4), (7, 5), (11, 0), (11, 1), (11, 2), (11, 3), (11, 4), (11, 5), (11, 6), (11, 7), (11, 8), (11, 9), (11, 10), (11, 11), (11, 12), (11, 13), (11, 14), (11, 15), (11, 16), (12, 0), (12, 1), (12, 2), (12, 3), (12, 4), (12, 5), (12, 6), (12, 7), (12, 8), (12, 9), (12, 10), (12, 11), (12, 12), (12, 13), (12, 14), (12, 15), (12, 16), (12, 17), (12, 18), (12, 19), (12, 20), (12, 21), (12, 22), (12, 23), (12, 24), (12, 25), (12, 26), (12, 27), (12, 28), (12, 29), (12, 30), (12, 31), (12, 32), (12, 33), (12, 34), (12, 35), (12, 36), (12, 37), (12, 38), (12, 39), (12, 40), (12, 41), (12, 42), (12, 43), (12, 44), (12, 45), (12, 46), (12, 47), (12, 48), (12, 49), (12, 50), (12, 51), (12, 52), (12, 53), (12, 54), (12, 55), (12, 56), (12, 57)]
set_option maxRecDepth 100000 in
theorem sU1 : wpick [117, 1, 32, 1, 1, 1, 1, 1, 1, 1, 22, 1, 1, 1, 1, 1, 1, 1, 1, 1, 27, 1, 1, 1, 1, 25, 1, 1, 1, 1, 1, 1, 1, 1, 1, 1, 1, 1, 1, 1, 1, 12, 1, 1, 1, 18, 1, 1, 1, 17, 1, 1, 1, 1, 1, 1, 15, 1, 1, 1, 1, 1, 1, 15, 1, 1, 16, 1, 1, 1, 1, 1, 31, 1, 1, 1, 1, 1, 1, 1, 1, 1, 1, 1, 1, 1, 1, 1, 1, 814, 1, 1, 1, 1, 1, 1, 1, 1, 1, 1, 1, 1, 1, 1, 1, 1, 1, 1, 1, 1, 1, 1, 1, 1, 1, 1, 1, 1, 1, 1, 1, 1, 1, 1, 1, 1, 1, 1, 1, 1, 1, 1, 1, 1, 1, 1, 1, 1, 1, 1, 1, 1, 1, 1, 1, 1, 1] lw_tbl = UL_l.map (fun f => u_lay (vcl f.1).1 (vcl f.1).2.1 f.2) := rfl
theorem sU2 : ((List.range 13).all fun ci => (List.range (vcl ci).2.2).all fun k => UL_l.any fun f => Nat.beq f.1 ci && Nat.beq f.2 k) = true := by decide +kernel
theorem sU3 : ((List.range 13).all fun ci => (List.range (vcl ci).2.2).all fun k => isI (vty ci k) == !((vcl ci).2.1 k).2.2.2) = true := by decide +kernel
def isRf : FieldType → Bool
  | .object _ => true
  | .array _ => true
  | _ => false
theorem sU4 : ((List.range 13).all fun ci => (List.range (vcl ci).2.2).all fun k => isI (vty ci k) || isRf (vty ci k)) = true := by decide +kernel
theorem vcl_get {ci : Nat} (h : ci < 13) : vwCl[ci]? = some (vcl ci) := by
  rcases (by omega : ci = 0 ∨ ci = 1 ∨ ci = 2 ∨ ci = 3 ∨ ci = 4 ∨ ci = 5 ∨ ci = 6 ∨ ci = 7 ∨ ci = 8 ∨ ci = 9 ∨ ci = 10 ∨ ci = 11 ∨ ci = 12) with rfl | rfl | rfl | rfl | rfl | rfl | rfl | rfl | rfl | rfl | rfl | rfl | rfl <;> rfl
theorem vty_ok {ci : Nat} (h : ci < 13) : ∀ k, k < (vcl ci).2.2 → parseFieldDescriptor ((vcl ci).2.1 k).2.2.1 = some (vty ci k) := by
  rcases (by omega : ci = 0 ∨ ci = 1 ∨ ci = 2 ∨ ci = 3 ∨ ci = 4 ∨ ci = 5 ∨ ci = 6 ∨ ci = 7 ∨ ci = 8 ∨ ci = 9 ∨ ci = 10 ∨ ci = 11 ∨ ci = 12) with rfl | rfl | rfl | rfl | rfl | rfl | rfl | rfl | rfl | rfl | rfl | rfl | rfl
  · exact tyX0_ok
  · exact tyX1_ok
  · exact tyX2_ok
  · exact tyX3_ok
  · exact tyX4_ok
  · exact tyX5_ok
  · exact tyX6_ok
  · exact tyX7_ok
  · exact tyX8_ok
  · exact tyX9_ok
  · exact tyX10_ok
  · exact tyX11_ok
  · exact tyX12_ok
theorem vnm_ok {ci : Nat} (h : ci < 13) : ∀ a, a < (vcl ci).2.2 → ∀ b, b < (vcl ci).2.2 → a ≠ b → ((vcl ci).2.1 a).2.1 ≠ ((vcl ci).2.1 b).2.1 := by
  rcases (by omega : ci = 0 ∨ ci = 1 ∨ ci = 2 ∨ ci = 3 ∨ ci = 4 ∨ ci = 5 ∨ ci = 6 ∨ ci = 7 ∨ ci = 8 ∨ ci = 9 ∨ ci = 10 ∨ ci = 11 ∨ ci = 12) with rfl | rfl | rfl | rfl | rfl | rfl | rfl | rfl | rfl | rfl | rfl | rfl | rfl
  · exact nmX0
  · exact nmX1
  · exact nmX2
  · exact nmX3
  · exact nmX4
  · exact nmX5
  · exact nmX6
  · exact nmX7
  · exact nmX8
  · exact nmX9
  · exact nmX10
  · exact nmX11
  · exact nmX12
theorem TW_of {w : Cond} (h : w ∈ lw_tbl) (hg : goodWord w = true) : w ∈ TW := List.mem_filter.mpr ⟨h, hg⟩
theorem gw_fl (a : String) (i : Nat) (b n d : String) : goodWord (.fieldLink a i b n d) = true := rfl
theorem gw_ml (a : String) (i : Nat) (y : MethodName) : goodWord (.methodLink a i y) = true := rfl
theorem gw_im (y : MethodName) : goodWord (.instanceMethod y) = true := rfl
theorem gw_st (y : MethodName) : goodWord (.static y) = true := rfl
theorem gw_se (a : String) (x y : MethodName) : goodWord (.selects a x y) = true := rfl
theorem gw_in (a : String) : goodWord (.initialized a) = true := rfl
theorem gw_it (a : String) (n : Nat) : goodWord (.instantiable a n) = true := rfl
theorem gw_cl (a : String) (i : Nat) (b : String) : goodWord (.classLink a i b) = true := rfl
theorem gw_cd (y : MethodName) (c : ByteArray) (n : Nat) (r : Option FieldType) : goodWord (.code y c n r) = true := rfl
theorem gw_kl (a : String) (i : Nat) (v : Int64) : goodWord (.constantLong a i v) = true := rfl
theorem gw_la (C : String) (T : u_T) (k : Nat) : goodWord (u_lay C T k) = true := by
  unfold u_lay
  split <;> rfl
theorem uws_in {ci : Nat} (h : ci < 13) : ∀ w ∈ u_ws (vcl ci).1 (vcl ci).2.1 (vcl ci).2.2, w ∈ TW := by
  intro w hw
  obtain ⟨k, hk, rfl⟩ := List.mem_map.mp hw
  have h1 := List.all_eq_true.mp (List.all_eq_true.mp sU2 ci (List.mem_range.mpr h)) k hk
  obtain ⟨f, hf, h2⟩ := List.any_eq_true.mp h1
  simp only [Bool.and_eq_true] at h2
  have e1 := Nat.eq_of_beq_eq_true h2.1
  have e2 := Nat.eq_of_beq_eq_true h2.2
  have h3 := wpick_map sU1 hf
  rw [e1, e2] at h3
  exact TW_of h3 (gw_la _ _ _)
/-- what a field's entry gives -/
def FldOk (k idx r1 r2 r3 : Nat) : Prop := 10 ≤ r1 ∧ r1 - 10 < 13 ∧ r2 < (vcl (r1 - 10)).2.2 ∧ Cond.fieldLink (cN k) idx (vcl (r1 - 10)).1 ((vcl (r1 - 10)).2.1 r2).2.1 ((vcl (r1 - 10)).2.1 r2).2.2.1 ∈ TW ∧ ((vcl (r1 - 10)).2.1 r2).1 = (vcl (r1 - 10)).1 ∧ (isI (vty (r1 - 10) r2) = true ↔ r3 = 0) ∧ (((vcl (r1 - 10)).2.1 r2).2.2.2 = false ↔ r3 = 0)
theorem fld_ok {f : XF} (hf : f ∈ FT_l) : FldOk f.1 f.2.1 f.2.2.1 f.2.2.2.1 f.2.2.2.2 := by
  have h1 := List.all_eq_true.mp sF3 f hf
  unfold okF at h1
  simp only [Bool.and_eq_true, beq_iff_eq] at h1
  obtain ⟨⟨⟨a1, a2⟩, a3⟩, a4⟩ := h1
  have a1 := Nat.le_of_ble_eq_true a1
  have a2 : f.2.2.1 - 10 < 13 := Nat.le_of_ble_eq_true a2
  have a3 : f.2.2.2.1 < (vcl (f.2.2.1 - 10)).2.2 := Nat.le_of_ble_eq_true a3
  have h2 := List.map_inj_left.mp sF2 f hf
  have h3 := List.all_eq_true.mp (List.all_eq_true.mp sU3 _ (List.mem_range.mpr a2)) _ (List.mem_range.mpr a3)
  simp only [beq_iff_eq] at h3
  have e0 : isI (vty (f.2.2.1 - 10) f.2.2.2.1) = true ↔ f.2.2.2.2 = 0 := by
    rw [← a4]
    exact ⟨fun q => Nat.eq_of_beq_eq_true q, fun q => by rw [q]; rfl⟩
  refine ⟨a1, a2, a3, TW_of (wpick_map sF1 hf) (gw_fl _ _ _ _ _), h2, e0, ?_⟩
  rw [← e0, h3]
  cases ((vcl (f.2.2.1 - 10)).2.1 f.2.2.2.1).2.2.2 <;> simp
end
section
/-! soundness: fields and arrays -/
theorem n32_b1 {x : Int} : vp_nar .boolean (Int32.ofInt x) = Int32.ofInt (x % 2) := by
  show Int32.ofInt x &&& 1 = _
  apply Int32.toBitVec_inj.mp
  apply BitVec.eq_of_toNat_eq
  show (BitVec.ofInt 32 x &&& 1#32).toNat = (BitVec.ofInt 32 (x % 2)).toNat
  rw [BitVec.toNat_and, BitVec.toNat_ofInt, BitVec.toNat_ofInt]
  show (x % 4294967296).toNat &&& 1 = (x % 2 % 4294967296).toNat
  rw [Nat.and_one_is_mod]
  omega
theorem n64_cmp {x y : Int} (hx : c64 x) (hy : c64 y) : lg_cmp (Int64.ofInt x) (Int64.ofInt y) = Int32.ofInt (cmp3 x y) := by
  unfold lg_cmp cmp3
  simp only [gt_iff_lt, n64_lt hy hx, n64_inj hx hy]
  by_cases h1 : y < x
  · rw [if_pos h1, if_neg (by omega), if_neg (by omega)]
    rfl
  · rw [if_neg h1]
    by_cases h2 : x = y
    · rw [if_pos h2, if_neg (by omega), if_pos h2]
      rfl
    · rw [if_neg h2, if_pos (by omega)]
      rfl
theorem cK_obj {k : Nat} (h : 10 ≤ k) {x : Int} (hx : cK k x) : c32 x := by
  unfold cK at hx
  split at hx
  · omega
  · omega
  · omega
  · exact hx
theorem ce_obj {md : Bool} {row : Nat → Int} {ad : Nat → Nat → Nat} {dA : Nat → ClassId} {g i : Nat} (h : 10 ≤ WW.1 g) : ce md row ad dA g i = .inr (WW.1 g - 10, (List.range (vcl (WW.1 g - 10)).2.2).map (fv md row ad g i)) := by
  unfold ce
  split
  · omega
  · omega
  · omega
  · omega
  · omega
  · omega
  · rfl
theorem cV_xu {V : XM} {g i j : Nat} {x : Int} (h : cV V) (hx : cK (WW.1 g) x) : cV (xu V g i j x) := by
  intro a b c
  unfold xu
  split
  · rename_i q
    rw [q.1]
    exact hx
  · exact h a b c
theorem wk_0 : WW.1 0 = 9 := rfl
theorem wk_1 : WW.1 1 = 7 := rfl
/-- numbers written leave what references hold -/
theorem Io_xu {md : Bool} {n : Nat} {V : XM} {g i j : Nat} {x : Int} (h : Io md n V) (hg : g ≠ 0) (hs : (WW.1 g ≠ 5 ∧ WW.1 g ≠ 6) ∧ (10 ≤ WW.1 g → isI (vty (WW.1 g - 10) j) = true)) : Io md n (xu V g i j x) := by
  cases md with
  | false => exact h
  | true =>
    obtain ⟨⟨h1, h2⟩, h3⟩ := h
    refine ⟨⟨fun a b c ha hk hv => h1 a b c ha hk ?_, fun a b c ha hk hi hv => h2 a b c ha hk hi ?_⟩, ?_⟩
    · unfold xu at hv
      split at hv
      · rename_i q
        rw [q.1] at hk
        omega
      · exact hv
    · unfold xu at hv
      split at hv
      · rename_i q
        rw [q.1] at hk hi
        rw [q.2.2] at hi
        rw [hs.2 hk] at hi
        cases hi
      · exact hv
    · unfold xu
      rw [if_neg (fun q => hg q.1.symm)]
      exact h3
theorem xu_1 {V : XM} {g i j : Nat} {x : Int} (hg : g ≠ 1) : xu V g i j x 1 = V 1 := by
  funext b c
  unfold xu
  rw [if_neg (fun q => hg q.1.symm)]
section
variable {p : Program} {l : Launch} {e : Env} {R : Room} {s : State} {mi : MethodId} {args : Array Value} {below : List Frame} {meth : Method} {c : Code} {Q : State → Prop} {D : va_G} {dA : Nat → ClassId} {z : Nat} {sc md : Bool} {b m n0 : Nat} {ad0 : Nat → Nat → Nat} {r : XS} {Vf V0 : XM} {pc : Nat} {ls st : List XS} {V : XM}

theorem G_rd {pc' : Nat} {st' : List XS} (hg : Good p l e R s mi args below meth c Q D dA z sc md b m n0 ad0 r Vf V0 pc' ls st' V) (hc : ∀ n, cV V → Io md n V → n ≤ 155 → (∀ v ∈ st, cS sc n v) → V 1 = V0 1 → ∀ v ∈ st', cS sc n v) (hw : ∀ n ad H locs lsA k1 k2, cV V → Io md n V → n ≤ 155 → (∀ v ∈ st, cS sc n v) → world D dA z md n V ad H → va_S (fun q => z ≤ q) s.heap H locs → (sc = true → ad 1 0 = b) → V 1 = V0 1 → W p l e R s mi args below meth c H locs k1 k2 Q (F0 mi pc' lsA (st'.map (tv ad))) → W p l e R s mi args below meth c H locs k1 k2 Q (F0 mi pc lsA (st.map (tv ad)))) : Good p l e R s mi args below meth c Q D dA z sc md b m n0 ad0 r Vf V0 pc ls st V := by
  intro n h1 h2 h3 h4 h5 h6 h7 h8 h9
  obtain ⟨a, bb⟩ := hg n h1 h2 h3 h4 h5 h6 (hc n h1 h2 h3 h7 h9) h8 h9
  exact ⟨a, fun ad H locs lsA q1 q2 q3 q4 q5 => hw n ad H locs lsA _ _ h1 h2 h3 h7 q3 q4 q2 h9 (bb ad H locs lsA q1 q2 q3 q4 q5)⟩
theorem G_lcmp {x y : Int} (hx : p.tables.exec = Jvm.exec) (hb : c.code = mC m) (hd : decode (mC m) pc = .ok (.lcmp, 1)) (hg : Good p l e R s mi args below meth c Q D dA z sc md b m n0 ad0 r Vf V0 (pc + 1) ls (xi (cmp3 x y) :: st) V) : Good p l e R s mi args below meth c Q D dA z sc md b m n0 ad0 r Vf V0 pc ls (xl y :: xl x :: st) V := by
  refine G_pure hg (fun n hl hs => ?_) (fun n ad H locs lsA k1 k2 hl hs hh hlen k => ?_)
  · exact m2 (cmp3_c _ _) (m1 (m1 hs).2).2
  · refine W.lcmp hx hb hd ?_
    rw [n64_cmp (m1 (m1 hs).2).1 (m1 hs).1]
    exact k
/-- a cell on the stack that is of a kind of the world's is one of the world's -/
theorem cS_al {n g i : Nat} (h : cS sc n (xr g i)) (h0 : WW.1 g ≠ 9) (h1 : WW.1 g ≠ 7) : al n g i := by
  rcases h with h | h | h
  · rw [h] at h0
    exact absurd wk_0 h0
  · rw [h.2.1] at h1
    exact absurd wk_1 h1
  · exact h
theorem tv_ref {ad : Nat → Nat → Nat} {n g i : Nat} (hn : n ≤ 155) (h : al n g i) : tv ad (xr g i) = .ref (ad g i) := by
  have := (al_kind hn h).1
  obtain ⟨g0, rfl⟩ : ∃ g0, g = g0 + 1 := ⟨g - 1, by omega⟩
  rfl
theorem G_getI {g i idx r1 r2 : Nat} (hx : p.tables.exec = Jvm.exec) (hb : c.code = mC m) (hown : s.vm.findClass (cN (mK m)) = some mi.cls) (hts : ∀ w ∈ TW, w.before args s = true) (hK : va_K D vwCl (tysA dA) s) (hf : FldOk (mK m) idx r1 r2 0) (hk : WW.1 g = r1) (hd : decode (mC m) pc = .ok (.getfield idx, 3)) (hg : Good p l e R s mi args below meth c Q D dA z sc md b m n0 ad0 r Vf V0 (pc + 3) ls (xi (V g i r2) :: st) V) : Good p l e R s mi args below meth c Q D dA z sc md b m n0 ad0 r Vf V0 pc ls (xr g i :: st) V := by
  obtain ⟨f1, f2, f3, f4, f5, f6, f7⟩ := hf
  refine G_rd hg (fun n h1 h2 h3 hs _ => m2 (cK_obj (by rw [hk]; exact f1) (h1 g i r2)) (m1 hs).2) (fun n ad H locs lsA k1 k2 h1 h2 h3 hs hw hS _ _ k => ?_)
  have ha : al n g i := cS_al (m1 hs).1 (by omega) (by omega)
  obtain ⟨q, hq, e9⟩ := ha
  show W p l e R s mi args below meth c H locs k1 k2 Q (F0 mi pc lsA (tv ad (xr g i) :: st.map (tv ad)))
  rw [tv_ref h3 ⟨q, hq, e9⟩]
  have he := wof_get (md := md) (V := V) (ad := ad) (dA := dA) hq e9
  rw [ce_obj (by omega), hk] at he
  refine va_get (D := D) (ref := (vcl (r1 - 10)).1) hx hb hts (uws_in f2) hown hK hw.1 q he (vcl_get f2) r2 f3 (hts _ f4) (fun x h => by rw [f5] at h; exact h) (v := .int (Int32.ofInt (V g i r2))) ?_ hd k
  rw [List.getElem?_map, List.getElem?_range f3]
  simp only [Option.map_some, fv, hk, f6.mpr rfl, if_true]
theorem G_getR {g i idx r1 r2 r3 : Nat} (hx : p.tables.exec = Jvm.exec) (hb : c.code = mC m) (hown : s.vm.findClass (cN (mK m)) = some mi.cls) (hts : ∀ w ∈ TW, w.before args s = true) (hK : va_K D vwCl (tysA dA) s) (hf : FldOk (mK m) idx r1 r2 (r3 + 1)) (hk : WW.1 g = r1) (hv : md = false ∨ V g i r2 = 1) (hd : decode (mC m) pc = .ok (.getfield idx, 3)) (hg : Good p l e R s mi args below meth c Q D dA z sc md b m n0 ad0 r Vf V0 (pc + 3) ls (xr (WW.2.2.1 g r2) (WW.2.2.2.1 g i r2) :: st) V) : Good p l e R s mi args below meth c Q D dA z sc md b m n0 ad0 r Vf V0 pc ls (xr g i :: st) V := by
  obtain ⟨f1, f2, f3, f4, f5, f6, f7⟩ := hf
  have hI : isI (vty (r1 - 10) r2) = false := by
    cases h : isI (vty (r1 - 10) r2) with
    | false => rfl
    | true => exact absurd (f6.mp h) (by omega)
  refine G_rd hg (fun n h1 h2 h3 hs _ => m2 (Or.inr (Or.inr ?_)) (m1 hs).2) (fun n ad H locs lsA k1 k2 h1 h2 h3 hs hw hS _ _ k => ?_)
  · have ha : al n g i := cS_al (m1 hs).1 (by omega) (by omega)
    cases md with
    | false => exact h2.2 g i r2 ha (by omega) (by rw [hk]; exact f3) (by rw [hk]; exact hI)
    | true => exact h2.1.2 g i r2 ha (by omega) (by rw [hk]; exact hI) (hv.elim (fun q => by cases q) id)
  · have ha : al n g i := cS_al (m1 hs).1 (by omega) (by omega)
    obtain ⟨q, hq, e9⟩ := ha
    show W p l e R s mi args below meth c H locs k1 k2 Q (F0 mi pc lsA (tv ad (xr g i) :: st.map (tv ad)))
    rw [tv_ref h3 ⟨q, hq, e9⟩]
    have he := wof_get (md := md) (V := V) (ad := ad) (dA := dA) hq e9
    rw [ce_obj (by omega), hk] at he
    refine va_get (D := D) (ref := (vcl (r1 - 10)).1) hx hb hts (uws_in f2) hown hK hw.1 q he (vcl_get f2) r2 f3 (hts _ f4) (fun x h => by rw [f5] at h; exact h) (v := tv ad (xr (WW.2.2.1 g r2) (WW.2.2.2.1 g i r2))) ?_ hd k
    rw [List.getElem?_map, List.getElem?_range f3]
    simp only [Option.map_some, fv, hk, hI, Bool.false_eq_true, if_false, rfv, hv, if_true]
    rfl
theorem ce_1 {md : Bool} {row : Nat → Int} {ad : Nat → Nat → Nat} {dA : Nat → ClassId} {g i : Nat} (h : WW.1 g = 1) : ce md row ad dA g i = .inl (dA 1, (WW.2.1 g).toNat, .inl (fun j => Int32.ofInt (row j))) := by
  unfold ce
  rw [h]
  rfl
theorem G_iald {g i : Nat} {j : Int} (hx : p.tables.exec = Jvm.exec) (hb : c.code = mC m) (hK : va_K D vwCl (tysA dA) s) (hk : WW.1 g = 1) (hj : 0 ≤ j ∧ j < WW.2.1 g) (hd : decode (mC m) pc = .ok (.iaload, 1)) (hg : Good p l e R s mi args below meth c Q D dA z sc md b m n0 ad0 r Vf V0 (pc + 1) ls (xi (V g i j.toNat) :: st) V) : Good p l e R s mi args below meth c Q D dA z sc md b m n0 ad0 r Vf V0 pc ls (xi j :: xr g i :: st) V := by
  refine G_rd hg (fun n h1 h2 h3 hs _ => m2 (by have := h1 g i j.toNat; rw [hk] at this; exact this) (m1 (m1 hs).2).2) (fun n ad H locs lsA k1 k2 h1 h2 h3 hs hw hS _ _ k => ?_)
  have hcj : c32 j := (m1 hs).1
  have ha : al n g i := cS_al (m1 (m1 hs).2).1 (by omega) (by omega)
  obtain ⟨q, hq, e9⟩ := ha
  show W p l e R s mi args below meth c H locs k1 k2 Q (F0 mi pc lsA (.int (Int32.ofInt j) :: tv ad (xr g i) :: st.map (tv ad)))
  rw [tv_ref h3 ⟨q, hq, e9⟩]
  have he := wof_get (md := md) (V := V) (ad := ad) (dA := dA) hq e9
  rw [ce_1 hk] at he
  refine va_iald hx hb hK hw.1 q 0 he rfl (n32_in hcj (by omega)) hd ?_
  rw [n32_nat hcj]
  exact k
theorem ce_2 {md : Bool} {row : Nat → Int} {ad : Nat → Nat → Nat} {dA : Nat → ClassId} {g i : Nat} (h : WW.1 g = 2) : ce md row ad dA g i = .inl (dA 2, (WW.2.1 g).toNat, .inr (.inl (fun j => Int64.ofInt (row j)))) := by
  unfold ce
  rw [h]
  rfl
theorem G_lald {g i : Nat} {j : Int} (hx : p.tables.exec = Jvm.exec) (hb : c.code = mC m) (hK : va_K D vwCl (tysA dA) s) (hk : WW.1 g = 2) (hj : 0 ≤ j ∧ j < WW.2.1 g) (hd : decode (mC m) pc = .ok (.laload, 1)) (hg : Good p l e R s mi args below meth c Q D dA z sc md b m n0 ad0 r Vf V0 (pc + 1) ls (xl (V g i j.toNat) :: st) V) : Good p l e R s mi args below meth c Q D dA z sc md b m n0 ad0 r Vf V0 pc ls (xi j :: xr g i :: st) V := by
  refine G_rd hg (fun n h1 h2 h3 hs _ => m2 (by have := h1 g i j.toNat; rw [hk] at this; exact this) (m1 (m1 hs).2).2) (fun n ad H locs lsA k1 k2 h1 h2 h3 hs hw hS _ _ k => ?_)
  have hcj : c32 j := (m1 hs).1
  have ha : al n g i := cS_al (m1 (m1 hs).2).1 (by omega) (by omega)
  obtain ⟨q, hq, e9⟩ := ha
  show W p l e R s mi args below meth c H locs k1 k2 Q (F0 mi pc lsA (.int (Int32.ofInt j) :: tv ad (xr g i) :: st.map (tv ad)))
  rw [tv_ref h3 ⟨q, hq, e9⟩]
  have he := wof_get (md := md) (V := V) (ad := ad) (dA := dA) hq e9
  rw [ce_2 hk] at he
  refine va_lald hx hb hK hw.1 q 1 he rfl (n32_in hcj (by omega)) hd ?_
  rw [n32_nat hcj]
  exact k
theorem ce_3 {md : Bool} {row : Nat → Int} {ad : Nat → Nat → Nat} {dA : Nat → ClassId} {g i : Nat} (h : WW.1 g = 3) : ce md row ad dA g i = .inl (dA 3, (WW.2.1 g).toNat, .inl (fun j => Int32.ofInt (row j))) := by
  unfold ce
  rw [h]
  rfl
theorem G_bald {g i : Nat} {j : Int} (hx : p.tables.exec = Jvm.exec) (hb : c.code = mC m) (hK : va_K D vwCl (tysA dA) s) (hk : WW.1 g = 3) (hj : 0 ≤ j ∧ j < WW.2.1 g) (hd : decode (mC m) pc = .ok (.baload, 1)) (hg : Good p l e R s mi args below meth c Q D dA z sc md b m n0 ad0 r Vf V0 (pc + 1) ls (xi (V g i j.toNat) :: st) V) : Good p l e R s mi args below meth c Q D dA z sc md b m n0 ad0 r Vf V0 pc ls (xi j :: xr g i :: st) V := by
  refine G_rd hg (fun n h1 h2 h3 hs _ => m2 (by have := h1 g i j.toNat; rw [hk] at this; show c32 _; unfold c32; rcases this with q | q <;> omega) (m1 (m1 hs).2).2) (fun n ad H locs lsA k1 k2 h1 h2 h3 hs hw hS _ _ k => ?_)
  have hcj : c32 j := (m1 hs).1
  have ha : al n g i := cS_al (m1 (m1 hs).2).1 (by omega) (by omega)
  obtain ⟨q, hq, e9⟩ := ha
  show W p l e R s mi args below meth c H locs k1 k2 Q (F0 mi pc lsA (.int (Int32.ofInt j) :: tv ad (xr g i) :: st.map (tv ad)))
  rw [tv_ref h3 ⟨q, hq, e9⟩]
  have he := wof_get (md := md) (V := V) (ad := ad) (dA := dA) hq e9
  rw [ce_3 hk] at he
  refine va_zald hx hb hK hw.1 q 2 he rfl (n32_in hcj (by omega)) hd ?_
  rw [n32_nat hcj]
  exact k
theorem ce_4 {md : Bool} {row : Nat → Int} {ad : Nat → Nat → Nat} {dA : Nat → ClassId} {g i : Nat} (h : WW.1 g = 4) : ce md row ad dA g i = .inl (dA 4, (WW.2.1 g).toNat, .inr (.inr (.inr (.inl (fun j => UInt64.ofNat (row j).toNat))))) := by
  unfold ce
  rw [h]
  rfl
theorem G_dald {g i : Nat} {j : Int} (hx : p.tables.exec = Jvm.exec) (hb : c.code = mC m) (hK : va_K D vwCl (tysA dA) s) (hk : WW.1 g = 4) (hj : 0 ≤ j ∧ j < WW.2.1 g) (hd : decode (mC m) pc = .ok (.daload, 1)) (hg : Good p l e R s mi args below meth c Q D dA z sc md b m n0 ad0 r Vf V0 (pc + 1) ls (xd (V g i j.toNat) :: st) V) : Good p l e R s mi args below meth c Q D dA z sc md b m n0 ad0 r Vf V0 pc ls (xi j :: xr g i :: st) V := by
  refine G_rd hg (fun n h1 h2 h3 hs _ => m2 (by have := h1 g i j.toNat; rw [hk] at this; exact this) (m1 (m1 hs).2).2) (fun n ad H locs lsA k1 k2 h1 h2 h3 hs hw hS _ _ k => ?_)
  have hcj : c32 j := (m1 hs).1
  have ha : al n g i := cS_al (m1 (m1 hs).2).1 (by omega) (by omega)
  obtain ⟨q, hq, e9⟩ := ha
  show W p l e R s mi args below meth c H locs k1 k2 Q (F0 mi pc lsA (.int (Int32.ofInt j) :: tv ad (xr g i) :: st.map (tv ad)))
  rw [tv_ref h3 ⟨q, hq, e9⟩]
  have he := wof_get (md := md) (V := V) (ad := ad) (dA := dA) hq e9
  rw [ce_4 hk] at he
  refine va_dald hx hb hK hw.1 q 3 he rfl (n32_in hcj (by omega)) hd ?_
  rw [n32_nat hcj]
  exact k
theorem G_wr {pc' : Nat} {st' : List XS} {V' : XM} (hg : Good p l e R s mi args below meth c Q D dA z sc md b m n0 ad0 r Vf V0 pc' ls st' V') (hc : ∀ n, cV V → Io md n V → n ≤ 155 → (∀ v ∈ st, cS sc n v) → cV V' ∧ Io md n V' ∧ V' 1 = V 1 ∧ ∀ v ∈ st', cS sc n v) (hw : ∀ n ad H locs lsA k1 k2, cV V → Io md n V → n ≤ 155 → (∀ v ∈ st, cS sc n v) → world D dA z md n V ad H → va_S (fun q => z ≤ q) s.heap H locs → (∀ H1 locs1, world D dA z md n V' ad H1 → va_S (fun q => z ≤ q) s.heap H1 locs1 → W p l e R s mi args below meth c H1 locs1 k1 k2 Q (F0 mi pc' lsA (st'.map (tv ad)))) → W p l e R s mi args below meth c H locs k1 k2 Q (F0 mi pc lsA (st.map (tv ad)))) : Good p l e R s mi args below meth c Q D dA z sc md b m n0 ad0 r Vf V0 pc ls st V := by
  intro n h1 h2 h3 h4 h5 h6 h7 h8 h9
  obtain ⟨c1, c2, c3, c4⟩ := hc n h1 h2 h3 h7
  obtain ⟨a, bb⟩ := hg n c1 c2 h3 h4 h5 h6 c4 h8 (c3.trans h9)
  exact ⟨a, fun ad H locs lsA q1 q2 q3 q4 q5 => hw n ad H locs lsA _ _ h1 h2 h3 h7 q3 q4 (fun H1 locs1 w1 s1 => bb ad H1 locs1 lsA q1 q2 w1 s1 q5)⟩
theorem G_iast {g i : Nat} {j x : Int} (hx : p.tables.exec = Jvm.exec) (hb : c.code = mC m) (hK : va_K D vwCl (tysA dA) s) (hk : WW.1 g = 1) (hj : 0 ≤ j ∧ j < WW.2.1 g) (hd : decode (mC m) pc = .ok (.iastore, 1)) (hg : Good p l e R s mi args below meth c Q D dA z sc md b m n0 ad0 r Vf V0 (pc + 1) ls st (xu V g i j.toNat (x))) : Good p l e R s mi args below meth c Q D dA z sc md b m n0 ad0 r Vf V0 pc ls (xi x :: xi j :: xr g i :: st) V := by
  refine G_wr hg (fun n h1 h2 h3 hs => ⟨cV_xu h1 (by rw [hk]; exact (m1 hs).1), Io_xu h2 (fun q => by rw [q, wk_0] at hk; omega) ⟨by omega, fun q => by omega⟩, xu_1 (fun q => by rw [q, wk_1] at hk; omega), (m1 (m1 (m1 hs).2).2).2⟩) (fun n ad H locs lsA k1 k2 h1 h2 h3 hs hw hS k => ?_)
  have hcj : c32 j := (m1 (m1 hs).2).1
  have ha : al n g i := cS_al (m1 (m1 (m1 hs).2).2).1 (by omega) (by omega)
  obtain ⟨q, hq, e9⟩ := ha
  show W p l e R s mi args below meth c H locs k1 k2 Q (F0 mi pc lsA (.int (Int32.ofInt x) :: .int (Int32.ofInt j) :: tv ad (xr g i) :: st.map (tv ad)))
  rw [tv_ref h3 ⟨q, hq, e9⟩]
  have he := wof_get (md := md) (V := V) (ad := ad) (dA := dA) hq e9
  rw [ce_1 hk] at he
  have hset : (wof md n V ad dA).set q (ad g i, .inl (dA 1, (WW.2.1 g).toNat, .inl (fun c => if c = j.toNat then Int32.ofInt (x) else Int32.ofInt (V g i c)))) = wof md n (xu V g i j.toNat (x)) ad dA := by
    apply wof_set h3 hq e9
    rw [ce_1 hk, xu_row]
    refine congrArg (fun f => (.inl (dA 1, (WW.2.1 g).toNat, .inl (f)) : va_E)) ?_
    funext c
    by_cases hcj2 : c = j.toNat <;> simp [hcj2]
  refine va_iast hx hb hK hw.1 hw.2 hS q 0 he rfl (n32_in hcj (by omega)) hd (fun H1 locs1 hP hD hS => k H1 locs1 ⟨?_, ?_⟩ hS)
  · rw [← hset]
    rw [n32_nat hcj] at hP
    exact hP
  · rw [← hset]
    rw [n32_nat hcj] at hD
    exact hD
theorem G_last {g i : Nat} {j x : Int} (hx : p.tables.exec = Jvm.exec) (hb : c.code = mC m) (hK : va_K D vwCl (tysA dA) s) (hk : WW.1 g = 2) (hj : 0 ≤ j ∧ j < WW.2.1 g) (hd : decode (mC m) pc = .ok (.lastore, 1)) (hg : Good p l e R s mi args below meth c Q D dA z sc md b m n0 ad0 r Vf V0 (pc + 1) ls st (xu V g i j.toNat (x))) : Good p l e R s mi args below meth c Q D dA z sc md b m n0 ad0 r Vf V0 pc ls (xl x :: xi j :: xr g i :: st) V := by
  refine G_wr hg (fun n h1 h2 h3 hs => ⟨cV_xu h1 (by rw [hk]; exact (m1 hs).1), Io_xu h2 (fun q => by rw [q, wk_0] at hk; omega) ⟨by omega, fun q => by omega⟩, xu_1 (fun q => by rw [q, wk_1] at hk; omega), (m1 (m1 (m1 hs).2).2).2⟩) (fun n ad H locs lsA k1 k2 h1 h2 h3 hs hw hS k => ?_)
  have hcj : c32 j := (m1 (m1 hs).2).1
  have ha : al n g i := cS_al (m1 (m1 (m1 hs).2).2).1 (by omega) (by omega)
  obtain ⟨q, hq, e9⟩ := ha
  show W p l e R s mi args below meth c H locs k1 k2 Q (F0 mi pc lsA (.long (Int64.ofInt x) :: .int (Int32.ofInt j) :: tv ad (xr g i) :: st.map (tv ad)))
  rw [tv_ref h3 ⟨q, hq, e9⟩]
  have he := wof_get (md := md) (V := V) (ad := ad) (dA := dA) hq e9
  rw [ce_2 hk] at he
  have hset : (wof md n V ad dA).set q (ad g i, .inl (dA 2, (WW.2.1 g).toNat, .inr (.inl (fun c => if c = j.toNat then Int64.ofInt (x) else Int64.ofInt (V g i c))))) = wof md n (xu V g i j.toNat (x)) ad dA := by
    apply wof_set h3 hq e9
    rw [ce_2 hk, xu_row]
    refine congrArg (fun f => (.inl (dA 2, (WW.2.1 g).toNat, .inr (.inl (f))) : va_E)) ?_
    funext c
    by_cases hcj2 : c = j.toNat <;> simp [hcj2]
  refine va_last hx hb hK hw.1 hw.2 hS q 1 he rfl (n32_in hcj (by omega)) hd (fun H1 locs1 hP hD hS => k H1 locs1 ⟨?_, ?_⟩ hS)
  · rw [← hset]
    rw [n32_nat hcj] at hP
    exact hP
  · rw [← hset]
    rw [n32_nat hcj] at hD
    exact hD
theorem G_bast {g i : Nat} {j x : Int} (hx : p.tables.exec = Jvm.exec) (hb : c.code = mC m) (hK : va_K D vwCl (tysA dA) s) (hk : WW.1 g = 3) (hj : 0 ≤ j ∧ j < WW.2.1 g) (hd : decode (mC m) pc = .ok (.bastore, 1)) (hg : Good p l e R s mi args below meth c Q D dA z sc md b m n0 ad0 r Vf V0 (pc + 1) ls st (xu V g i j.toNat (x % 2))) : Good p l e R s mi args below meth c Q D dA z sc md b m n0 ad0 r Vf V0 pc ls (xi x :: xi j :: xr g i :: st) V := by
  refine G_wr hg (fun n h1 h2 h3 hs => ⟨cV_xu h1 (by rw [hk]; show _ = 0 ∨ _ = 1; omega), Io_xu h2 (fun q => by rw [q, wk_0] at hk; omega) ⟨by omega, fun q => by omega⟩, xu_1 (fun q => by rw [q, wk_1] at hk; omega), (m1 (m1 (m1 hs).2).2).2⟩) (fun n ad H locs lsA k1 k2 h1 h2 h3 hs hw hS k => ?_)
  have hcj : c32 j := (m1 (m1 hs).2).1
  have ha : al n g i := cS_al (m1 (m1 (m1 hs).2).2).1 (by omega) (by omega)
  obtain ⟨q, hq, e9⟩ := ha
  show W p l e R s mi args below meth c H locs k1 k2 Q (F0 mi pc lsA (.int (Int32.ofInt x) :: .int (Int32.ofInt j) :: tv ad (xr g i) :: st.map (tv ad)))
  rw [tv_ref h3 ⟨q, hq, e9⟩]
  have he := wof_get (md := md) (V := V) (ad := ad) (dA := dA) hq e9
  rw [ce_3 hk] at he
  have hset : (wof md n V ad dA).set q (ad g i, .inl (dA 3, (WW.2.1 g).toNat, .inl (fun c => if c = j.toNat then Int32.ofInt (x % 2) else Int32.ofInt (V g i c)))) = wof md n (xu V g i j.toNat (x % 2)) ad dA := by
    apply wof_set h3 hq e9
    rw [ce_3 hk, xu_row]
    refine congrArg (fun f => (.inl (dA 3, (WW.2.1 g).toNat, .inl (f)) : va_E)) ?_
    funext c
    by_cases hcj2 : c = j.toNat <;> simp [hcj2]
  refine va_zast hx hb hK hw.1 hw.2 hS q 2 he rfl (n32_in hcj (by omega)) hd (fun H1 locs1 hP hD hS => k H1 locs1 ⟨?_, ?_⟩ hS)
  · rw [← hset]
    rw [n32_nat hcj, n32_b1] at hP
    exact hP
  · rw [← hset]
    rw [n32_nat hcj, n32_b1] at hD
    exact hD
theorem G_dast {g i : Nat} {j x : Int} (hx : p.tables.exec = Jvm.exec) (hb : c.code = mC m) (hK : va_K D vwCl (tysA dA) s) (hk : WW.1 g = 4) (hj : 0 ≤ j ∧ j < WW.2.1 g) (hd : decode (mC m) pc = .ok (.dastore, 1)) (hg : Good p l e R s mi args below meth c Q D dA z sc md b m n0 ad0 r Vf V0 (pc + 1) ls st (xu V g i j.toNat (x))) : Good p l e R s mi args below meth c Q D dA z sc md b m n0 ad0 r Vf V0 pc ls (xd x :: xi j :: xr g i :: st) V := by
  refine G_wr hg (fun n h1 h2 h3 hs => ⟨cV_xu h1 (by rw [hk]; exact (m1 hs).1), Io_xu h2 (fun q => by rw [q, wk_0] at hk; omega) ⟨by omega, fun q => by omega⟩, xu_1 (fun q => by rw [q, wk_1] at hk; omega), (m1 (m1 (m1 hs).2).2).2⟩) (fun n ad H locs lsA k1 k2 h1 h2 h3 hs hw hS k => ?_)
  have hcj : c32 j := (m1 (m1 hs).2).1
  have ha : al n g i := cS_al (m1 (m1 (m1 hs).2).2).1 (by omega) (by omega)
  obtain ⟨q, hq, e9⟩ := ha
  show W p l e R s mi args below meth c H locs k1 k2 Q (F0 mi pc lsA (.double (UInt64.ofNat x.toNat) :: .int (Int32.ofInt j) :: tv ad (xr g i) :: st.map (tv ad)))
  rw [tv_ref h3 ⟨q, hq, e9⟩]
  have he := wof_get (md := md) (V := V) (ad := ad) (dA := dA) hq e9
  rw [ce_4 hk] at he
  have hset : (wof md n V ad dA).set q (ad g i, .inl (dA 4, (WW.2.1 g).toNat, .inr (.inr (.inr (.inl (fun c => if c = j.toNat then UInt64.ofNat (x).toNat else UInt64.ofNat (V g i c).toNat)))))) = wof md n (xu V g i j.toNat (x)) ad dA := by
    apply wof_set h3 hq e9
    rw [ce_4 hk, xu_row]
    refine congrArg (fun f => (.inl (dA 4, (WW.2.1 g).toNat, .inr (.inr (.inr (.inl (f))))) : va_E)) ?_
    funext c
    by_cases hcj2 : c = j.toNat <;> simp [hcj2]
  refine va_dast hx hb hK hw.1 hw.2 hS q 3 he rfl (n32_in hcj (by omega)) hd (fun H1 locs1 hP hD hS => k H1 locs1 ⟨?_, ?_⟩ hS)
  · rw [← hset]
    rw [n32_nat hcj] at hP
    exact hP
  · rw [← hset]
    rw [n32_nat hcj] at hD
    exact hD
end
end
section
/-! soundness: writes of fields, references, new cells, switches, the script -/
theorem wt_ig : ((List.range 114).all fun g => (List.range 60).all fun k => !(Nat.beq (WW.2.2.1 g k) 1)) = true := by decide +kernel
theorem wt_fn : ((List.range 13).all fun ci => decide ((vcl ci).2.2 ≤ 60)) = true := by decide +kernel
theorem xgl_out {α : Type} (d : α) : ∀ (l : List α) (k : Nat), l.length ≤ k → xgl d l k = d := by
  intro l
  induction l with
  | nil => intro k h; rfl
  | cons a l ih => intro k h; cases k with
    | zero => simp at h
    | succ k => exact ih k (by simpa using h)
theorem wk_len : (WK_l.length = 8) ∧ WK_l.getLast? = some (xgl [] WK_l 7) ∧ (xgl [] WK_l 7).length = 2 := by decide +kernel
theorem wk_out {g : Nat} (h : 114 ≤ g) : WW.1 g = 9 := by
  show xgl 9 (xgl [] WK_l (g / 16)) (g % 16) = 9
  rcases Nat.lt_or_ge (g / 16) 8 with q | q
  · have : g / 16 = 7 := by omega
    rw [this]
    exact xgl_out _ _ _ (by rw [wk_len.2.2]; omega)
  · rw [xgl_out [] WK_l (g / 16) (by rw [wk_len.1]; exact q)]
    rfl
theorem xsw_cases {x : Int} {d : Nat} {F : Nat → XR} {rr : XS × XM} : ∀ (tg : List Nat) (lo : Int), xsw x lo d F tg = some rr → (∃ (k t : Nat), tg[k]? = some t ∧ x = lo + (k : Int) ∧ F t = some rr) ∨ ((x < lo ∨ lo + (tg.length : Int) ≤ x) ∧ F d = some rr) := by
  intro tg
  induction tg with
  | nil =>
    intro lo h
    right
    refine ⟨?_, h⟩
    show x < lo ∨ lo + ((0 : Nat) : Int) ≤ x
    omega
  | cons t l ih =>
    intro lo h
    simp only [xsw] at h
    split at h
    · rename_i hx
      left
      exact ⟨0, t, rfl, by omega, h⟩
    · rename_i hx
      rcases ih (lo + 1) h with ⟨k, t', h1, h2, h3⟩ | ⟨h1, h2⟩
      · left
        exact ⟨k + 1, t', h1, by omega, h3⟩
      · right
        refine ⟨?_, h2⟩
        rw [List.length_cons]
        omega
theorem cK_0 (k : Nat) : cK k 0 := by
  unfold cK
  split
  · unfold c64; omega
  · exact Or.inl rfl
  · omega
  · unfold c32; omega
theorem new_ne {n k g i : Nat} (h3 : n < 155) (e : tau n = (g, i)) (hk : k < n) : ¬ ((tau k).1 = g ∧ (tau k).2 = i) := fun h => absurd (tau_inj (a := k) (b := n) (by omega) h3 (by rw [e]; exact Prod.ext h.1 h.2)) (by omega)
theorem new_al {n a b g i : Nat} (h3 : n < 155) (e : tau n = (g, i)) (h : al n a b) : ¬ (a = g ∧ b = i) := by
  obtain ⟨k, hk, e2⟩ := h
  have := new_ne h3 e hk
  rw [e2] at this
  exact this
theorem new_pure {n : Nat} {V : XM} {g i : Nat} (h1 : cV V) (h2 : Io true n V) (h3 : n < 155) (e : tau n = (g, i)) : cV (xz V g i n) ∧ Io true (n + 1) (xz V g i n) ∧ xz V g i n 1 = V 1 := by
  have hg : 1 < g := (al_kind (n := 155) (g := g) (i := i) (by omega) ⟨n, h3, e⟩).1
  obtain ⟨⟨i1, i2⟩, i3⟩ := h2
  have hal : ∀ a b, al (n + 1) a b → al n a b ∨ (a = g ∧ b = i) := by
    intro a b h
    obtain ⟨k, hk, e2⟩ := h
    by_cases q : k < n
    · exact Or.inl ⟨k, q, e2⟩
    · have : k = n := by omega
      subst this
      rw [e] at e2
      cases e2
      exact Or.inr ⟨rfl, rfl⟩
  have ha0 : ∀ m a b, m ≤ 155 → al m a b → a ≠ 0 := fun m a b hm h q => by have := (al_kind hm h).1; omega
  refine ⟨?_, ⟨⟨?_, ?_⟩, ?_⟩, ?_⟩
  · intro a b c
    unfold xz
    split
    · rename_i q
      rw [q.1, wk_0]
      show c32 _
      unfold c32
      omega
    · split
      · exact cK_0 _
      · exact h1 a b c
  · intro a b c ha hk hv
    have hz : a ≠ 0 := ha0 (n + 1) a b (by omega) ha
    unfold xz at hv
    rw [if_neg (fun q => hz q.1)] at hv
    rcases hal a b ha with q | q
    · rw [if_neg (new_al h3 e q)] at hv
      exact al_mono (i1 a b c q hk hv) (by omega)
    · rw [if_pos q] at hv
      cases hv
  · intro a b c ha hk hi hv
    have hz : a ≠ 0 := ha0 (n + 1) a b (by omega) ha
    unfold xz at hv
    rw [if_neg (fun q => hz q.1)] at hv
    rcases hal a b ha with q | q
    · rw [if_neg (new_al h3 e q)] at hv
      exact al_mono (i2 a b c q hk hi hv) (by omega)
    · rw [if_pos q] at hv
      cases hv
  · unfold xz
    rw [if_pos ⟨rfl, rfl, rfl⟩]
    rfl
  · funext b c
    unfold xz
    rw [if_neg (fun q => by omega), if_neg (fun q => by omega)]
def adu (ad : Nat → Nat → Nat) (g i q : Nat) : Nat → Nat → Nat := fun a b => if a = g ∧ b = i then q else ad a b
theorem ar_adu {ad : Nat → Nat → Nat} {g i q n a b : Nat} (h3 : n < 155) (e : tau n = (g, i)) (h : al n a b) : ar (adu ad g i q) a b = ar ad a b := by
  cases a with
  | zero => rfl
  | succ a =>
    show some (adu ad g i q (a + 1) b) = some (ad (a + 1) b)
    unfold adu
    rw [if_neg (new_al h3 e h)]
theorem rfv_adu {ad : Nat → Nat → Nat} {g i q n a b : Nat} {x : Int} (h3 : n < 155) (e : tau n = (g, i)) (h : x = 1 → al n a b) : rfv true (adu ad g i q) a b x = rfv true ad a b x := by
  unfold rfv
  by_cases hx : x = 1
  · simp only [hx, or_true, if_true]
    exact ar_adu h3 e (h hx)
  · simp only [hx, or_false, Bool.true_eq_false, if_false]
theorem ce_5 {md : Bool} {row : Nat → Int} {ad : Nat → Nat → Nat} {dA : Nat → ClassId} {g i : Nat} (h : WW.1 g = 5) : ce md row ad dA g i = .inl (dA 5, (WW.2.1 g).toNat, .inr (.inr (.inr (.inr (fun j => rfv md ad (WW.2.2.1 g 0) (WW.2.2.2.1 g i j) (row j)))))) := by
  unfold ce
  rw [h]
  rfl
theorem ce_6 {md : Bool} {row : Nat → Int} {ad : Nat → Nat → Nat} {dA : Nat → ClassId} {g i : Nat} (h : WW.1 g = 6) : ce md row ad dA g i = .inl (dA 6, (WW.2.1 g).toNat, .inr (.inr (.inr (.inr (fun j => rfv md ad (WW.2.2.1 g 0) (WW.2.2.2.1 g i j) (row j)))))) := by
  unfold ce
  rw [h]
  rfl
theorem ce_adu {V : XM} {ad : Nat → Nat → Nat} {dA : Nat → ClassId} {g i q n a b : Nat} (h2 : Io true n V) (h3 : n < 155) (e : tau n = (g, i)) (h : al n a b) : ce true (V a b) (adu ad g i q) dA a b = ce true (V a b) ad dA a b := by
  obtain ⟨⟨i1, i2⟩, -⟩ := h2
  rcases (al_kind (by omega) h).2.2 with k | k | k | k | k | k | k
  · rw [ce_1 k, ce_1 k]
  · rw [ce_2 k, ce_2 k]
  · rw [ce_3 k, ce_3 k]
  · rw [ce_4 k, ce_4 k]
  · rw [ce_5 k, ce_5 k]
    congr 7
    funext j
    rw [rfv_adu h3 e (fun hx => i1 a b j h (Or.inl k) hx)]
  · rw [ce_6 k, ce_6 k]
    congr 7
    funext j
    rw [rfv_adu h3 e (fun hx => i1 a b j h (Or.inr k) hx)]
  · rw [ce_obj k.1, ce_obj k.1]
    congr 2
    apply List.map_congr_left
    intro c hc
    unfold fv
    split
    · rfl
    · rename_i hi
      rw [rfv_adu h3 e (fun hx => i2 a b c h k.1 (by simpa using hi) hx)]
theorem wof_new {n : Nat} {V : XM} {ad : Nat → Nat → Nat} {dA : Nat → ClassId} {g i q : Nat} (h2 : Io true n V) (h3 : n < 155) (e : tau n = (g, i)) : wof true (n + 1) (xz V g i n) (adu ad g i q) dA = wof true n V ad dA ++ [(q, ce true (fun _ => 0) (adu ad g i q) dA g i)] := by
  have hg : 1 < g := (al_kind (n := 155) (g := g) (i := i) (by omega) ⟨n, h3, e⟩).1
  unfold wof
  rw [List.range_succ, List.map_append]
  congr 1
  · apply List.map_congr_left
    intro k hk
    have hk := List.mem_range.mp hk
    have hne := new_ne h3 e hk
    have hk1 : 1 < (tau k).1 := (al_kind (n := 155) (by omega) ⟨k, by omega, rfl⟩).1
    have r1 : xz V g i n (tau k).1 (tau k).2 = V (tau k).1 (tau k).2 := by
      funext c
      unfold xz
      rw [if_neg (fun q => by omega), if_neg hne]
    rw [r1, ce_adu (a := (tau k).1) (b := (tau k).2) h2 h3 e ⟨k, hk, rfl⟩]
    show (adu ad g i q (tau k).1 (tau k).2, _) = _
    unfold adu
    rw [if_neg hne]
  · simp only [List.map_cons, List.map_nil, List.cons.injEq, and_true]
    rw [e]
    have r1 : xz V g i n g i = fun _ => 0 := by
      funext c
      unfold xz
      rw [if_neg (fun q => by omega), if_pos ⟨rfl, rfl⟩]
    rw [r1]
    show (adu ad g i q g i, _) = _
    unfold adu
    rw [if_pos ⟨rfl, rfl⟩]
theorem axt_adu {n0 n : Nat} {ad0 ad : Nat → Nat → Nat} {g i q : Nat} (h : axt n0 ad0 ad) (hn : n0 ≤ n) (h3 : n < 155) (e : tau n = (g, i)) : axt n0 ad0 (adu ad g i q) := by
  have hg : 1 < g := (al_kind (n := 155) (g := g) (i := i) (by omega) ⟨n, h3, e⟩).1
  intro a b hab
  unfold adu
  rw [if_neg]
  · exact h a b hab
  · intro q
    rcases hab with hab | hab
    · omega
    · exact new_al h3 e (al_mono hab hn) q
theorem axt_adu1 {n : Nat} {ad : Nat → Nat → Nat} {g i q : Nat} (h3 : n < 155) (e : tau n = (g, i)) : axt n ad (adu ad g i q) := axt_adu (fun _ _ _ => rfl) (Nat.le_refl n) h3 e
section
variable {p : Program} {l : Launch} {e : Env} {R : Room} {s : State} {mi : MethodId} {args : Array Value} {below : List Frame} {meth : Method} {c : Code} {Q : State → Prop} {D : va_G} {dA : Nat → ClassId} {z : Nat} {sc md : Bool} {b m n0 : Nat} {ad0 : Nat → Nat → Nat} {r : XS} {Vf V0 : XM} {pc : Nat} {ls st : List XS} {V : XM}

theorem G_swIn {x dflt lo hi off : Int} {offs : Array Int} {len k0 t : Nat} (hx : p.tables.exec = Jvm.exec) (hb : c.code = mC m) (hd : decode (mC m) pc = .ok (.tableswitch dflt lo hi offs, len)) (hx0 : x = lo + (k0 : Int)) (hhi : x ≤ hi) (ho : offs[k0]? = some off) (ht : (pc : Int) + off = (t : Int)) (hg : Good p l e R s mi args below meth c Q D dA z sc md b m n0 ad0 r Vf V0 t ls st V) : Good p l e R s mi args below meth c Q D dA z sc md b m n0 ad0 r Vf V0 pc ls (xi x :: st) V := by
  refine G_pure hg (fun n hl hs => (m1 hs).2) (fun n ad H locs lsA k1 k2 hl hs hh hlen k => ?_)
  have e1 : (Int32.ofInt x).toInt = x := n32_id (m1 hs).1
  exact lv_tableIn hx hb hd (by rw [e1]; omega) (by rw [e1]; omega) (by rw [e1, show (x - lo).toNat = k0 by omega]; exact ho) ht k
theorem G_swOut {x dflt lo hi : Int} {offs : Array Int} {len t : Nat} (hx : p.tables.exec = Jvm.exec) (hb : c.code = mC m) (hd : decode (mC m) pc = .ok (.tableswitch dflt lo hi offs, len)) (hx0 : x < lo ∨ hi < x) (ht : (pc : Int) + dflt = (t : Int)) (hg : Good p l e R s mi args below meth c Q D dA z sc md b m n0 ad0 r Vf V0 t ls st V) : Good p l e R s mi args below meth c Q D dA z sc md b m n0 ad0 r Vf V0 pc ls (xi x :: st) V := by
  refine G_pure hg (fun n hl hs => (m1 hs).2) (fun n ad H locs lsA k1 k2 hl hs hh hlen k => ?_)
  have e1 : (Int32.ofInt x).toInt = x := n32_id (m1 hs).1
  exact lv_tableOut hx hb hd (by rw [e1]; exact hx0) ht k
theorem G_putI {g i idx r1 r2 : Nat} {x : Int} (hx : p.tables.exec = Jvm.exec) (hb : c.code = mC m) (hown : s.vm.findClass (cN (mK m)) = some mi.cls) (hts : ∀ w ∈ TW, w.before args s = true) (hK : va_K D vwCl (tysA dA) s) (hf : FldOk (mK m) idx r1 r2 0) (hk : WW.1 g = r1) (hd : decode (mC m) pc = .ok (.putfield idx, 3)) (hg : Good p l e R s mi args below meth c Q D dA z sc md b m n0 ad0 r Vf V0 (pc + 3) ls st (xu V g i r2 x)) : Good p l e R s mi args below meth c Q D dA z sc md b m n0 ad0 r Vf V0 pc ls (xi x :: xr g i :: st) V := by
  obtain ⟨f1, f2, f3, f4, f5, f6, f7⟩ := hf
  refine G_wr hg (fun n h1 h2 h3 hs => ⟨cV_xu h1 ?_, Io_xu h2 (fun q => by rw [q, wk_0] at hk; omega) ⟨by omega, fun _ => by rw [hk]; exact f6.mpr rfl⟩, xu_1 (fun q => by rw [q, wk_1] at hk; omega), (m1 (m1 hs).2).2⟩) (fun n ad H locs lsA k1 k2 h1 h2 h3 hs hw hS k => ?_)
  · have hc : c32 x := (m1 hs).1
    unfold cK
    split
    · omega
    · omega
    · omega
    · exact hc
  have ha : al n g i := cS_al (m1 (m1 hs).2).1 (by omega) (by omega)
  obtain ⟨q, hq, e9⟩ := ha
  show W p l e R s mi args below meth c H locs k1 k2 Q (F0 mi pc lsA (.int (Int32.ofInt x) :: tv ad (xr g i) :: st.map (tv ad)))
  rw [tv_ref h3 ⟨q, hq, e9⟩]
  have he := wof_get (md := md) (V := V) (ad := ad) (dA := dA) hq e9
  rw [ce_obj (by omega), hk] at he
  have hset : (wof md n V ad dA).set q (ad g i, .inr (r1 - 10, ((List.range (vcl (r1 - 10)).2.2).map (fv md (V g i) ad g i)).set r2 (.int (Int32.ofInt x)))) = wof md n (xu V g i r2 x) ad dA := by
    apply wof_set h3 hq e9
    rw [ce_obj (by omega), hk]
    congr 2
    apply List.ext_getElem?
    intro j
    by_cases hj : j < (vcl (r1 - 10)).2.2
    · by_cases hj2 : j = r2
      · subst hj2
        rw [List.getElem?_set_self (by simpa using f3), List.getElem?_map, List.getElem?_range f3]
        simp only [Option.map_some, fv, hk, f6.mpr rfl, if_true, xu_row]
      · rw [List.getElem?_set_ne (fun h => hj2 h.symm), List.getElem?_map, List.getElem?_map, List.getElem?_range hj]
        simp only [Option.map_some, fv, hk, xu_row, hj2, if_false]
    · rw [List.getElem?_eq_none (by simpa using hj), List.getElem?_eq_none (by simpa using hj)]
  have hf2 : ((vcl (r1 - 10)).2.1 r2).2.2.2 = false := f7.mpr rfl
  have hty : vty (r1 - 10) r2 = .int := by
    have := f6.mpr rfl
    cases h : vty (r1 - 10) r2 with
    | int => rfl
    | _ => rw [h] at this; cases this
  refine va_put (D := D) (ref := (vcl (r1 - 10)).1) hx hb hts (uws_in f2) (vty (r1 - 10)) (vty_ok f2) (vnm_ok f2) hown hK hw.1 hw.2 hS q he (vcl_get f2) r2 f3 (hts _ f4) (fun x h => by rw [f5] at h; exact h) hf2 (ty := .int) (by rw [vty_ok f2 r2 f3, hty]) rfl rfl (by simpa using f3) hd (fun H1 locs1 hP hD hS => k H1 locs1 ⟨?_, ?_⟩ hS)
  · rw [← hset]
    exact hP
  · rw [← hset]
    exact hD
theorem G_putR {g i idx r1 r2 r3 a a2 : Nat} (hx : p.tables.exec = Jvm.exec) (hb : c.code = mC m) (hmd : md = true) (hin : meth.name = "<init>") (hown : s.vm.findClass (cN (mK m)) = some mi.cls) (hts : ∀ w ∈ TW, w.before args s = true) (hK : va_K D vwCl (tysA dA) s) (hf : FldOk (mK m) idx r1 r2 (r3 + 1)) (hcl : (vcl (r1 - 10)).1 = cN (mK m)) (hk : WW.1 g = r1) (hv : WW.2.2.1 g r2 = a ∧ WW.2.2.2.1 g i r2 = a2 ∧ a ≠ 0) (hd : decode (mC m) pc = .ok (.putfield idx, 3)) (hg : Good p l e R s mi args below meth c Q D dA z sc md b m n0 ad0 r Vf V0 (pc + 3) ls st (xu V g i r2 1)) : Good p l e R s mi args below meth c Q D dA z sc md b m n0 ad0 r Vf V0 pc ls (xr a a2 :: xr g i :: st) V := by
  subst hmd
  obtain ⟨f1, f2, f3, f4, f5, f6, f7⟩ := hf
  have hI : isI (vty (r1 - 10) r2) = false := by
    cases h : isI (vty (r1 - 10) r2) with
    | false => rfl
    | true => exact absurd (f6.mp h) (by omega)
  have g0 : g ≠ 0 := fun q => by rw [q, wk_0] at hk; omega
  have g1 : g ≠ 1 := fun q => by rw [q, wk_1] at hk; omega
  have hala : ∀ n, cS sc n (xr a a2) → (sc = true → a ≠ 1) → al n a a2 := fun n h h1 => by
    rcases h with h | h | h
    · exact absurd h hv.2.2
    · exact absurd h.2.1 (h1 h.1)
    · exact h
  have ha1 : a ≠ 1 := by
    intro q
    have := List.all_eq_true.mp (List.all_eq_true.mp wt_ig g (List.mem_range.mpr ?_)) r2 (List.mem_range.mpr ?_)
    · rw [hv.1, q] at this
      simp at this
    · rcases Nat.lt_or_ge g 114 with q2 | q2
      · exact q2
      · rw [wk_out q2] at hk
        omega
    · have := List.all_eq_true.mp wt_fn (r1 - 10) (List.mem_range.mpr f2)
      simp only [decide_eq_true_eq] at this
      omega
  refine G_wr hg (fun n h1 h2 h3 hs => ⟨cV_xu h1 ?_, ?_, xu_1 g1, (m1 (m1 hs).2).2⟩) (fun n ad H locs lsA k1 k2 h1 h2 h3 hs hw hS k => ?_)
  · unfold cK
    split
    · omega
    · omega
    · omega
    · unfold c32; omega
  · have haa : al n a a2 := hala n (m1 hs).1 (fun _ => ha1)
    obtain ⟨⟨i1, i2⟩, i3⟩ := h2
    refine ⟨⟨fun u v w hu hkk hvv => ?_, fun u v w hu hkk hii hvv => ?_⟩, ?_⟩
    · unfold xu at hvv
      split at hvv
      · rename_i q
        rw [q.1] at hkk
        omega
      · exact i1 u v w hu hkk hvv
    · unfold xu at hvv
      split at hvv
      · rename_i q
        rw [q.1, q.2.1, q.2.2, hv.1, hv.2.1]
        exact haa
      · exact i2 u v w hu hkk hii hvv
    · unfold xu
      rw [if_neg (fun q => g0 q.1.symm)]
      exact i3
  have ha : al n g i := cS_al (m1 (m1 hs).2).1 (by omega) (by omega)
  have haa : al n a a2 := hala n (m1 hs).1 (fun _ => ha1)
  obtain ⟨q, hq, e9⟩ := ha
  show W p l e R s mi args below meth c H locs k1 k2 Q (F0 mi pc lsA (tv ad (xr a a2) :: tv ad (xr g i) :: st.map (tv ad)))
  rw [tv_ref h3 ⟨q, hq, e9⟩, tv_ref h3 haa]
  have he := wof_get (md := true) (V := V) (ad := ad) (dA := dA) hq e9
  rw [ce_obj (by omega), hk] at he
  have hset : (wof true n V ad dA).set q (ad g i, .inr (r1 - 10, ((List.range (vcl (r1 - 10)).2.2).map (fv true (V g i) ad g i)).set r2 (.ref (ad a a2)))) = wof true n (xu V g i r2 1) ad dA := by
    apply wof_set h3 hq e9
    rw [ce_obj (by omega), hk]
    congr 2
    apply List.ext_getElem?
    intro j
    by_cases hj : j < (vcl (r1 - 10)).2.2
    · by_cases hj2 : j = r2
      · subst hj2
        rw [List.getElem?_set_self (by simpa using f3), List.getElem?_map, List.getElem?_range f3]
        simp only [Option.map_some, fv, hk, hI, Bool.false_eq_true, if_false, xu_row, if_true, rfv, or_true, hv.1, hv.2.1]
        rw [← tv_ref h3 haa]
        rfl
      · rw [List.getElem?_set_ne (fun h => hj2 h.symm), List.getElem?_map, List.getElem?_map, List.getElem?_range hj]
        simp only [Option.map_some, fv, hk, xu_row, hj2, if_false]
    · rw [List.getElem?_eq_none (by simpa using hj), List.getElem?_eq_none (by simpa using hj)]
  have hf2 : ((vcl (r1 - 10)).2.1 r2).2.2.2 = true := by
    cases h : ((vcl (r1 - 10)).2.1 r2).2.2.2 with
    | true => rfl
    | false => exact absurd (f7.mp h) (by omega)
  have hrf : isRf (vty (r1 - 10) r2) = true := by
    have := List.all_eq_true.mp (List.all_eq_true.mp sU4 _ (List.mem_range.mpr f2)) _ (List.mem_range.mpr f3)
    rw [hI] at this
    exact this
  refine va_putF (D := D) (ref := (vcl (r1 - 10)).1) hx hb hts (uws_in f2) (vty (r1 - 10)) (vty_ok f2) (vnm_ok f2) hown hK hw.1 hw.2 hS q he (vcl_get f2) r2 f3 (hts _ f4) (fun x h => by rw [f5] at h; exact h) hf2 hin (by rw [f5, hcl]) (ty := vty (r1 - 10) r2) (vty_ok f2 r2 f3) ?_ ?_ (by simpa using f3) hd (fun H1 locs1 hP hD hS => k H1 locs1 ⟨?_, ?_⟩ hS)
  · cases h : vty (r1 - 10) r2 with
    | object _ => rfl
    | array _ => rfl
    | _ => rw [h] at hrf; cases hrf
  · cases h : vty (r1 - 10) r2 with
    | object _ => rfl
    | array _ => rfl
    | _ => rw [h] at hrf; cases hrf
  · rw [← hset]
    exact hP
  · rw [← hset]
    exact hD
end
end
section
/-! soundness: rows of references, the script, new cells, returns -/
theorem wt_len : ((List.range 155).all fun k => decide (WW.2.1 (tau k).1 ≤ 10000)) = true := by decide +kernel
set_option maxRecDepth 20000 in
theorem ac_int : Cond.arrayClass .int ∈ TW := TW_of (wpick_mem [122] lw_tbl (by rw [show wpick [122] lw_tbl = [Cond.arrayClass .int] from rfl]; exact List.mem_cons_self)) rfl
set_option maxRecDepth 20000 in
theorem ac_long : Cond.arrayClass .long ∈ TW := TW_of (wpick_mem [210] lw_tbl (by rw [show wpick [210] lw_tbl = [Cond.arrayClass .long] from rfl]; exact List.mem_cons_self)) rfl
set_option maxRecDepth 20000 in
theorem ac_bool : Cond.arrayClass .boolean ∈ TW := TW_of (wpick_mem [169] lw_tbl (by rw [show wpick [169] lw_tbl = [Cond.arrayClass .boolean] from rfl]; exact List.mem_cons_self)) rfl
set_option maxRecDepth 20000 in
theorem ac_dbl : Cond.arrayClass .double ∈ TW := TW_of (wpick_mem [1444] lw_tbl (by rw [show wpick [1444] lw_tbl = [Cond.arrayClass .double] from rfl]; exact List.mem_cons_self)) rfl
section
variable {p : Program} {l : Launch} {e : Env} {R : Room} {s : State} {mi : MethodId} {args : Array Value} {below : List Frame} {meth : Method} {c : Code} {Q : State → Prop} {D : va_G} {dA : Nat → ClassId} {z : Nat} {sc md : Bool} {b m n0 : Nat} {ad0 : Nat → Nat → Nat} {r : XS} {Vf V0 : XM} {pc : Nat} {ls st : List XS} {V : XM}

theorem G_aald5 {g i : Nat} {j : Int} (hx : p.tables.exec = Jvm.exec) (hb : c.code = mC m) (hK : va_K D vwCl (tysA dA) s) (hk : WW.1 g = 5) (hj : 0 ≤ j ∧ j < WW.2.1 g) (hv : md = false ∨ V g i j.toNat = 1) (hd : decode (mC m) pc = .ok (.aaload, 1)) (hg : Good p l e R s mi args below meth c Q D dA z sc md b m n0 ad0 r Vf V0 (pc + 1) ls (xr (WW.2.2.1 g 0) (WW.2.2.2.1 g i j.toNat) :: st) V) : Good p l e R s mi args below meth c Q D dA z sc md b m n0 ad0 r Vf V0 pc ls (xi j :: xr g i :: st) V := by
  refine G_rd hg (fun n h1 h2 h3 hs _ => m2 (Or.inr (Or.inr ?_)) (m1 (m1 hs).2).2) (fun n ad H locs lsA k1 k2 h1 h2 h3 hs hw hS _ _ k => ?_)
  · have ha : al n g i := cS_al (m1 (m1 hs).2).1 (by omega) (by omega)
    cases md with
    | false => exact h2.1 g i j.toNat ha (by omega) (by omega)
    | true => exact h2.1.1 g i j.toNat ha (by omega) (hv.elim (fun q => by cases q) id)
  · have hcj : c32 j := (m1 hs).1
    have ha : al n g i := cS_al (m1 (m1 hs).2).1 (by omega) (by omega)
    obtain ⟨q, hq, e9⟩ := ha
    show W p l e R s mi args below meth c H locs k1 k2 Q (F0 mi pc lsA (.int (Int32.ofInt j) :: tv ad (xr g i) :: st.map (tv ad)))
    rw [tv_ref h3 ⟨q, hq, e9⟩]
    have he := wof_get (md := md) (V := V) (ad := ad) (dA := dA) hq e9
    rw [ce_5 hk] at he
    refine va_aldq hx hb hK hw.1 q 4 he rfl (n32_in hcj (by omega)) hd ?_
    rw [n32_nat hcj]
    try dsimp only
    unfold rfv
    rw [if_pos hv]
    exact k
theorem G_aast5 {g i a a2 : Nat} {j : Int} (hx : p.tables.exec = Jvm.exec) (hb : c.code = mC m) (hmd : md = true) (hK : va_K D vwCl (tysA dA) s) (hk : WW.1 g = 5) (hj : 0 ≤ j ∧ j < WW.2.1 g) (hv : WW.2.2.1 g 0 = a ∧ WW.2.2.2.1 g i j.toNat = a2 ∧ WW.1 a = 16 ∧ a ≠ 0) (hd : decode (mC m) pc = .ok (.aastore, 1)) (hg : Good p l e R s mi args below meth c Q D dA z sc md b m n0 ad0 r Vf V0 (pc + 1) ls st (xu V g i j.toNat 1)) : Good p l e R s mi args below meth c Q D dA z sc md b m n0 ad0 r Vf V0 pc ls (xr a a2 :: xi j :: xr g i :: st) V := by
  subst hmd
  have g0 : g ≠ 0 := fun q => by rw [q, wk_0] at hk; omega
  have g1 : g ≠ 1 := fun q => by rw [q, wk_1] at hk; omega
  have hala : ∀ n, cS sc n (xr a a2) → al n a a2 := fun n h => cS_al h (by omega) (by omega)
  refine G_wr hg (fun n h1 h2 h3 hs => ⟨cV_xu h1 (by rw [hk]; show c32 1; unfold c32; omega), ?_, xu_1 g1, (m1 (m1 (m1 hs).2).2).2⟩) (fun n ad H locs lsA k1 k2 h1 h2 h3 hs hw hS k => ?_)
  · have haa : al n a a2 := hala n (m1 hs).1
    obtain ⟨⟨i1, i2⟩, i3⟩ := h2
    refine ⟨⟨fun u v w hu hkk hvv => ?_, fun u v w hu hkk hii hvv => ?_⟩, ?_⟩
    · unfold xu at hvv
      split at hvv
      · rename_i q
        rw [q.1, q.2.1, q.2.2, hv.1, hv.2.1]
        exact haa
      · exact i1 u v w hu hkk hvv
    · unfold xu at hvv
      split at hvv
      · rename_i q
        rw [q.1] at hkk
        omega
      · exact i2 u v w hu hkk hii hvv
    · unfold xu
      rw [if_neg (fun q => g0 q.1.symm)]
      exact i3
  have hcj : c32 j := (m1 (m1 hs).2).1
  have ha : al n g i := cS_al (m1 (m1 (m1 hs).2).2).1 (by omega) (by omega)
  have haa : al n a a2 := hala n (m1 hs).1
  obtain ⟨q, hq, e9⟩ := ha
  show W p l e R s mi args below meth c H locs k1 k2 Q (F0 mi pc lsA (tv ad (xr a a2) :: .int (Int32.ofInt j) :: tv ad (xr g i) :: st.map (tv ad)))
  rw [tv_ref h3 ⟨q, hq, e9⟩, tv_ref h3 haa]
  have he := wof_get (md := true) (V := V) (ad := ad) (dA := dA) hq e9
  rw [ce_5 hk] at he
  obtain ⟨q2, hq2, e92⟩ := haa
  have he2 := wof_get (md := true) (V := V) (ad := ad) (dA := dA) hq2 e92
  rw [ce_obj (by omega), hv.2.2.1] at he2
  have hset : (wof true n V ad dA).set q (ad g i, .inl (dA 5, (WW.2.1 g).toNat, .inr (.inr (.inr (.inr (va_up (fun j => rfv true ad (WW.2.2.1 g 0) (WW.2.2.2.1 g i j) (V g i j)) j.toNat (some (ad a a2)))))))) = wof true n (xu V g i j.toNat 1) ad dA := by
    apply wof_set h3 hq e9
    rw [ce_5 hk, xu_row]
    congr 7
    funext c
    unfold va_up
    by_cases hc : c = j.toNat
    · rw [if_pos hc]
      show some (ad a a2) = rfv true ad (WW.2.2.1 g 0) (WW.2.2.2.1 g i c) (if c = j.toNat then 1 else V g i c)
      rw [if_pos hc, hc, hv.1, hv.2.1]
      unfold rfv
      rw [if_pos (Or.inr rfl)]
      obtain ⟨a0, rfl⟩ : ∃ a0, a = a0 + 1 := ⟨a - 1, by omega⟩
      rfl
    · rw [if_neg hc]
      show _ = rfv true ad (WW.2.2.1 g 0) (WW.2.2.2.1 g i c) (if c = j.toNat then 1 else V g i c)
      rw [if_neg hc]
  refine va_astq hx hb hK hw.1 hw.2 hS q 4 q2 6 (r := vcl 6) he rfl he2 rfl (n32_in hcj (by omega)) hd (fun H1 locs1 hP hD hS => k H1 locs1 ⟨?_, ?_⟩ hS)
  · rw [← hset]
    rw [n32_nat hcj] at hP
    exact hP
  · rw [← hset]
    rw [n32_nat hcj] at hD
    exact hD
theorem G_aald6 {g i : Nat} {j : Int} (hx : p.tables.exec = Jvm.exec) (hb : c.code = mC m) (hK : va_K D vwCl (tysA dA) s) (hk : WW.1 g = 6) (hj : 0 ≤ j ∧ j < WW.2.1 g) (hv : md = false ∨ V g i j.toNat = 1) (hd : decode (mC m) pc = .ok (.aaload, 1)) (hg : Good p l e R s mi args below meth c Q D dA z sc md b m n0 ad0 r Vf V0 (pc + 1) ls (xr (WW.2.2.1 g 0) (WW.2.2.2.1 g i j.toNat) :: st) V) : Good p l e R s mi args below meth c Q D dA z sc md b m n0 ad0 r Vf V0 pc ls (xi j :: xr g i :: st) V := by
  refine G_rd hg (fun n h1 h2 h3 hs _ => m2 (Or.inr (Or.inr ?_)) (m1 (m1 hs).2).2) (fun n ad H locs lsA k1 k2 h1 h2 h3 hs hw hS _ _ k => ?_)
  · have ha : al n g i := cS_al (m1 (m1 hs).2).1 (by omega) (by omega)
    cases md with
    | false => exact h2.1 g i j.toNat ha (by omega) (by omega)
    | true => exact h2.1.1 g i j.toNat ha (by omega) (hv.elim (fun q => by cases q) id)
  · have hcj : c32 j := (m1 hs).1
    have ha : al n g i := cS_al (m1 (m1 hs).2).1 (by omega) (by omega)
    obtain ⟨q, hq, e9⟩ := ha
    show W p l e R s mi args below meth c H locs k1 k2 Q (F0 mi pc lsA (.int (Int32.ofInt j) :: tv ad (xr g i) :: st.map (tv ad)))
    rw [tv_ref h3 ⟨q, hq, e9⟩]
    have he := wof_get (md := md) (V := V) (ad := ad) (dA := dA) hq e9
    rw [ce_6 hk] at he
    refine va_aldq hx hb hK hw.1 q 5 he rfl (n32_in hcj (by omega)) hd ?_
    rw [n32_nat hcj]
    try dsimp only
    unfold rfv
    rw [if_pos hv]
    exact k
theorem G_aast6 {g i a a2 : Nat} {j : Int} (hx : p.tables.exec = Jvm.exec) (hb : c.code = mC m) (hmd : md = true) (hK : va_K D vwCl (tysA dA) s) (hk : WW.1 g = 6) (hj : 0 ≤ j ∧ j < WW.2.1 g) (hv : WW.2.2.1 g 0 = a ∧ WW.2.2.2.1 g i j.toNat = a2 ∧ WW.1 a = 17 ∧ a ≠ 0) (hd : decode (mC m) pc = .ok (.aastore, 1)) (hg : Good p l e R s mi args below meth c Q D dA z sc md b m n0 ad0 r Vf V0 (pc + 1) ls st (xu V g i j.toNat 1)) : Good p l e R s mi args below meth c Q D dA z sc md b m n0 ad0 r Vf V0 pc ls (xr a a2 :: xi j :: xr g i :: st) V := by
  subst hmd
  have g0 : g ≠ 0 := fun q => by rw [q, wk_0] at hk; omega
  have g1 : g ≠ 1 := fun q => by rw [q, wk_1] at hk; omega
  have hala : ∀ n, cS sc n (xr a a2) → al n a a2 := fun n h => cS_al h (by omega) (by omega)
  refine G_wr hg (fun n h1 h2 h3 hs => ⟨cV_xu h1 (by rw [hk]; show c32 1; unfold c32; omega), ?_, xu_1 g1, (m1 (m1 (m1 hs).2).2).2⟩) (fun n ad H locs lsA k1 k2 h1 h2 h3 hs hw hS k => ?_)
  · have haa : al n a a2 := hala n (m1 hs).1
    obtain ⟨⟨i1, i2⟩, i3⟩ := h2
    refine ⟨⟨fun u v w hu hkk hvv => ?_, fun u v w hu hkk hii hvv => ?_⟩, ?_⟩
    · unfold xu at hvv
      split at hvv
      · rename_i q
        rw [q.1, q.2.1, q.2.2, hv.1, hv.2.1]
        exact haa
      · exact i1 u v w hu hkk hvv
    · unfold xu at hvv
      split at hvv
      · rename_i q
        rw [q.1] at hkk
        omega
      · exact i2 u v w hu hkk hii hvv
    · unfold xu
      rw [if_neg (fun q => g0 q.1.symm)]
      exact i3
  have hcj : c32 j := (m1 (m1 hs).2).1
  have ha : al n g i := cS_al (m1 (m1 (m1 hs).2).2).1 (by omega) (by omega)
  have haa : al n a a2 := hala n (m1 hs).1
  obtain ⟨q, hq, e9⟩ := ha
  show W p l e R s mi args below meth c H locs k1 k2 Q (F0 mi pc lsA (tv ad (xr a a2) :: .int (Int32.ofInt j) :: tv ad (xr g i) :: st.map (tv ad)))
  rw [tv_ref h3 ⟨q, hq, e9⟩, tv_ref h3 haa]
  have he := wof_get (md := true) (V := V) (ad := ad) (dA := dA) hq e9
  rw [ce_6 hk] at he
  obtain ⟨q2, hq2, e92⟩ := haa
  have he2 := wof_get (md := true) (V := V) (ad := ad) (dA := dA) hq2 e92
  rw [ce_obj (by omega), hv.2.2.1] at he2
  have hset : (wof true n V ad dA).set q (ad g i, .inl (dA 6, (WW.2.1 g).toNat, .inr (.inr (.inr (.inr (va_up (fun j => rfv true ad (WW.2.2.1 g 0) (WW.2.2.2.1 g i j) (V g i j)) j.toNat (some (ad a a2)))))))) = wof true n (xu V g i j.toNat 1) ad dA := by
    apply wof_set h3 hq e9
    rw [ce_6 hk, xu_row]
    congr 7
    funext c
    unfold va_up
    by_cases hc : c = j.toNat
    · rw [if_pos hc]
      show some (ad a a2) = rfv true ad (WW.2.2.1 g 0) (WW.2.2.2.1 g i c) (if c = j.toNat then 1 else V g i c)
      rw [if_pos hc, hc, hv.1, hv.2.1]
      unfold rfv
      rw [if_pos (Or.inr rfl)]
      obtain ⟨a0, rfl⟩ : ∃ a0, a = a0 + 1 := ⟨a - 1, by omega⟩
      rfl
    · rw [if_neg hc]
      show _ = rfv true ad (WW.2.2.1 g 0) (WW.2.2.2.1 g i c) (if c = j.toNat then 1 else V g i c)
      rw [if_neg hc]
  refine va_astq hx hb hK hw.1 hw.2 hS q 5 q2 7 (r := vcl 7) he rfl he2 rfl (n32_in hcj (by omega)) hd (fun H1 locs1 hP hD hS => k H1 locs1 ⟨?_, ?_⟩ hS)
  · rw [← hset]
    rw [n32_nat hcj] at hP
    exact hP
  · rw [← hset]
    rw [n32_nat hcj] at hD
    exact hD
theorem cS_scr {n i : Nat} (hn : n ≤ 155) (h : cS sc n (xr 1 i)) : sc = true ∧ i = 0 := by
  rcases h with h | h | h
  · omega
  · exact ⟨h.1, h.2.2⟩
  · have := (al_kind hn h).1
    omega
theorem G_sld {i : Nat} {j : Int} (hx : p.tables.exec = Jvm.exec) (hb : c.code = mC m) (hsz : z ≤ s.heap.size) (hsc : sc = true → b < z ∧ ∃ (L : Nat) (xs : Nat → Int32), va_X b L xs s s.heap ∧ V0 1 1 0 = (L : Int) ∧ ∀ j, j < L → V0 1 0 j = (xs j).toInt) (hj : 0 ≤ j ∧ j < V 1 1 0) (hd : decode (mC m) pc = .ok (.iaload, 1)) (hg : Good p l e R s mi args below meth c Q D dA z sc md b m n0 ad0 r Vf V0 (pc + 1) ls (xi (V 1 0 j.toNat) :: st) V) : Good p l e R s mi args below meth c Q D dA z sc md b m n0 ad0 r Vf V0 pc ls (xi j :: xr 1 i :: st) V := by
  refine G_rd hg (fun n h1 h2 h3 hs _ => m2 (h1 1 0 j.toNat) (m1 (m1 hs).2).2) (fun n ad H locs lsA k1 k2 h1 h2 h3 hs hw hS hb0 hV k => ?_)
  have hcj : c32 j := (m1 hs).1
  obtain ⟨c1, rfl⟩ := cS_scr h3 (m1 (m1 hs).2).1
  obtain ⟨hbz, L, xs, hX, hL, hxs⟩ := hsc c1
  show W p l e R s mi args below meth c H locs k1 k2 Q (F0 mi pc lsA (.int (Int32.ofInt j) :: .ref (ad 1 0) :: st.map (tv ad)))
  rw [hb0 c1]
  rw [hV, hL] at hj
  refine va_sld (A := fun q => z ≤ q) hx hb hX (by omega) (by omega) hS (n32_in hcj (by omega)) hd ?_
  rw [n32_nat hcj]
  have e1 : V 1 0 j.toNat = (xs j.toNat).toInt := by rw [hV]; exact hxs _ (by omega)
  have e2 : Int32.ofInt (V 1 0 j.toNat) = xs j.toNat := by rw [e1, Int32.ofInt_toInt]
  rw [← e2]
  exact k
theorem G_slen {i : Nat} (hx : p.tables.exec = Jvm.exec) (hb : c.code = mC m) (hsz : z ≤ s.heap.size) (hsc : sc = true → b < z ∧ ∃ (L : Nat) (xs : Nat → Int32), va_X b L xs s s.heap ∧ V0 1 1 0 = (L : Int) ∧ ∀ j, j < L → V0 1 0 j = (xs j).toInt) (hd : decode (mC m) pc = .ok (.arraylength, 1)) (hg : Good p l e R s mi args below meth c Q D dA z sc md b m n0 ad0 r Vf V0 (pc + 1) ls (xi (V 1 1 0) :: st) V) : Good p l e R s mi args below meth c Q D dA z sc md b m n0 ad0 r Vf V0 pc ls (xr 1 i :: st) V := by
  refine G_rd hg (fun n h1 h2 h3 hs _ => m2 (h1 1 1 0) (m1 hs).2) (fun n ad H locs lsA k1 k2 h1 h2 h3 hs hw hS hb0 hV k => ?_)
  obtain ⟨c1, rfl⟩ := cS_scr h3 (m1 hs).1
  obtain ⟨hbz, L, xs, hX, hL, hxs⟩ := hsc c1
  show W p l e R s mi args below meth c H locs k1 k2 Q (F0 mi pc lsA (.ref (ad 1 0) :: st.map (tv ad)))
  rw [hb0 c1]
  refine va_slen (A := fun q => z ≤ q) hx hb hX (by omega) (by omega) hS hd ?_
  have e2 : Int32.ofInt (V 1 1 0) = Int32.ofNat L := by rw [hV, hL, Int32.ofInt_eq_ofNat]
  rw [← e2]
  exact k
theorem G_alloc {pc' g i : Nat} {st1 : List XS} (hmd : md = true) (hR : nF md n0 Vf - n0 ≤ R.cells ∧ Sl (nF md n0 Vf) - Sl n0 ≤ R.slots) (hn : (V 0 0 0).toNat < 155) (e9 : tau (V 0 0 0).toNat = (g, i)) (hg : Good p l e R s mi args below meth c Q D dA z sc md b m n0 ad0 r Vf V0 pc' ls (xr g i :: st1) (xz V g i (V 0 0 0).toNat)) (hc : ∀ n, (∀ v ∈ st, cS sc n v) → ∀ v ∈ st1, cS sc n v)
    (hw : ∀ n ad H locs lsA k1 k2, n < 155 → tau n = (g, i) → (∀ v ∈ st, cS sc n v) → world D dA z true n V ad H → va_S (fun q => z ≤ q) s.heap H locs → k1 + 1 ≤ R.cells → k2 + slz n ≤ R.slots →
      (∀ q H1, va_P D vwCl (wof true n V ad dA ++ [(q, ce true (fun _ => 0) (adu ad g i q) dA g i)]) H1 → va_D (fun q => z ≤ q) (wof true n V ad dA ++ [(q, ce true (fun _ => 0) (adu ad g i q) dA g i)]) → va_S (fun q => z ≤ q) s.heap H1 locs → W p l e R s mi args below meth c H1 locs (k1 + 1) (k2 + slz n) Q (F0 mi pc' lsA (.ref q :: st1.map (tv ad)))) →
      W p l e R s mi args below meth c H locs k1 k2 Q (F0 mi pc lsA (st.map (tv ad)))) : Good p l e R s mi args below meth c Q D dA z sc md b m n0 ad0 r Vf V0 pc ls st V := by
  subst hmd
  intro n h1 h2 h3 h4 h5 h6 h7 h8 h9
  have en : (V 0 0 0).toNat = n := by rw [h2.2]; exact Int.toNat_natCast n
  rw [en] at hn e9 hg
  obtain ⟨p1, p2, p3⟩ := new_pure h1 h2 hn e9
  have hg1 : 1 < g := (al_kind (n := 155) (g := g) (i := i) (by omega) ⟨n, hn, e9⟩).1
  obtain ⟨a, bb⟩ := hg (n + 1) p1 p2 (by omega) (by omega) h5 (fun v hv => cS_mono (by omega) (h6 v hv)) (m2 (Or.inr (Or.inr ⟨n, by omega, e9⟩)) (fun v hv => cS_mono (by omega) (hc n h7 v hv))) (fun q => by cases q) (p3.trans h9)
  obtain ⟨a0, a1, a2, a3, a4, a5⟩ := a
  refine ⟨⟨a0, a1, a2, by have := a3; show n ≤ nF true n Vf; exact Nat.le_trans (Nat.le_succ n) a3, a4, a5⟩, fun ad H locs lsA q1 q2 q3 q4 q5 => ?_⟩
  have hnf : nF true n0 Vf = nF true (n + 1) Vf := rfl
  rw [hnf] at hR
  have hsl : Sl n - Sl n0 + slz n = Sl (n + 1) - Sl n0 := by
    have := Sl_mono h4
    show Sl n - Sl n0 + slz n = Sl n + slz n - Sl n0
    omega
  refine hw n ad H locs lsA _ _ hn e9 h7 q3 q4 (by omega) (by rw [hsl]; have := Sl_mono a3; omega) (fun q H1 w1 w2 w3 => ?_)
  have hx1 := axt_adu1 (ad := ad) (q := q) hn e9
  have hr := bb (adu ad g i q) H1 locs lsA (axt_adu q1 h4 hn e9) (fun hs => by rw [← q2 hs]; unfold adu; rw [if_neg (fun z => by omega)]) (by unfold world; rw [wof_new h2 hn e9]; exact ⟨w1, w2⟩) w3 (lvl_axt hx1 h6 q5)
  rw [List.map_cons, map_axt hx1 (hc n h7), tv_ref (n := n + 1) (by omega) ⟨n, by omega, e9⟩, show adu ad g i q g i = q from if_pos ⟨rfl, rfl⟩] at hr
  rw [hsl, show n - n0 + 1 = n + 1 - n0 by omega]
  exact hr
theorem G_new {idx r1 g i : Nat} (hx : p.tables.exec = Jvm.exec) (hb : c.code = mC m) (hmd : md = true) (hR : nF md n0 Vf - n0 ≤ R.cells ∧ Sl (nF md n0 Vf) - Sl n0 ≤ R.slots) (hown : s.vm.findClass (cN (mK m)) = some mi.cls) (hts : ∀ w ∈ TW, w.before args s = true) (hK : va_K D vwCl (tysA dA) s) (hsz : z ≤ s.heap.size) (hr1 : 10 ≤ r1 ∧ r1 - 10 < 13) (hcl : Cond.classLink (cN (mK m)) idx (vcl (r1 - 10)).1 ∈ TW) (hit : Cond.instantiable (vcl (r1 - 10)).1 (vcl (r1 - 10)).2.2 ∈ TW) (hini : Cond.initialized (vcl (r1 - 10)).1 ∈ TW) (hn : (V 0 0 0).toNat < 155) (e9 : tau (V 0 0 0).toNat = (g, i)) (hk : WW.1 g = r1) (hd : decode (mC m) pc = .ok (.new idx, 3)) (hg : Good p l e R s mi args below meth c Q D dA z sc md b m n0 ad0 r Vf V0 (pc + 3) ls (xr g i :: st) (xz V g i (V 0 0 0).toNat)) : Good p l e R s mi args below meth c Q D dA z sc md b m n0 ad0 r Vf V0 pc ls st V := by
  refine G_alloc hmd hR hn e9 hg (fun n h => h) (fun n ad H locs lsA k1 k2 hn e9 hs hw hS c1 c2 k => ?_)
  have hN : slz n = (vcl (r1 - 10)).2.2 := by
    unfold slz
    rw [e9, hk, if_pos hr1.1]
  have hce : ∀ q, ce true (fun _ => 0) (adu ad g i q) dA g i = .inr (r1 - 10, (List.range (vcl (r1 - 10)).2.2).map (fun k => if isI (vty (r1 - 10) k) = true then .int 0 else .null)) := by
    intro q
    rw [ce_obj (by omega), hk]
    congr 2
    apply List.map_congr_left
    intro c hc
    unfold fv
    rw [hk]
    split
    · rfl
    · unfold rfv
      rw [if_neg (by simp)]
      rfl
  rw [hN] at c2 k
  refine va_new (D := D) (fs := (List.range (vcl (r1 - 10)).2.2).map (fun k => if isI (vty (r1 - 10) k) = true then .int 0 else .null)) hx hb hts (uws_in hr1.2) (vty (r1 - 10)) (vty_ok hr1.2) hown (hts _ hcl) (hts _ hit) (hts _ hini) hK hw.1 hw.2 hS (fun q hq => by omega) (vcl_get hr1.2) ?_ c1 c2 hd (fun q H1 w1 w2 w3 => k q H1 (by rw [hce]; exact w1) (by rw [hce]; exact w2) w3)
  intro j hj
  unfold vp_V
  rw [List.getD_eq_getElem?_getD, List.getElem?_map, List.getElem?_range hj]
  simp only [Option.map_some, Option.getD_some]
  have h4 := List.all_eq_true.mp (List.all_eq_true.mp sU4 _ (List.mem_range.mpr hr1.2)) _ (List.mem_range.mpr hj)
  cases h : vty (r1 - 10) j with
  | int => rfl
  | object _ => rfl
  | array _ => rfl
  | _ => rw [h] at h4; cases h4
theorem G_newa_int {g i : Nat} {x : Int} (hx : p.tables.exec = Jvm.exec) (hb : c.code = mC m) (hmd : md = true) (hR : nF md n0 Vf - n0 ≤ R.cells ∧ Sl (nF md n0 Vf) - Sl n0 ≤ R.slots) (hts : ∀ w ∈ TW, w.before args s = true) (hK : va_K D vwCl (tysA dA) s) (hsz : z ≤ s.heap.size) (hn : (V 0 0 0).toNat < 155) (e9 : tau (V 0 0 0).toNat = (g, i)) (hk : WW.1 g = 1) (hl0 : WW.2.1 g = x) (hd : decode (mC m) pc = .ok (.newarray .int, 2)) (hg : Good p l e R s mi args below meth c Q D dA z sc md b m n0 ad0 r Vf V0 (pc + 2) ls (xr g i :: st) (xz V g i (V 0 0 0).toNat)) : Good p l e R s mi args below meth c Q D dA z sc md b m n0 ad0 r Vf V0 pc ls (xi x :: st) V := by
  refine G_alloc hmd hR hn e9 hg (fun n h => (m1 h).2) (fun n ad H locs lsA k1 k2 hn e9 hs hw hS c1 c2 k => ?_)
  have hx0 : c32 x := (m1 hs).1
  have hx1 : 0 ≤ x := by rw [← hl0]; exact (al_kind (n := 155) (g := g) (i := i) (by omega) ⟨n, hn, e9⟩).2.1
  have hxb : x ≤ 10000 := by
    have := List.all_eq_true.mp wt_len n (List.mem_range.mpr hn)
    rw [e9, hl0] at this
    exact of_decide_eq_true this
  have hN : slz n = x.toNat := by
    unfold slz
    rw [e9, hk, if_neg (by omega)]
    show (WW.2.1 g).toNat = _
    rw [hl0]
  rw [hN] at c2 k
  have hce : ∀ q, ce true (fun _ => 0) (adu ad g i q) dA g i = .inl (dA 1, x.toNat, .inl (fun _ => 0)) := by
    intro q
    rw [ce_1 hk, hl0]
    rfl
  have harr : Cond.arrayClass .int ∈ TW := ac_int
  have hn0 : ¬ Int32.ofInt x < 0 := fun q => by
    rw [show (0 : Int32) = Int32.ofInt 0 from rfl, n32_lt hx0 (by unfold c32; omega)] at q
    omega
  refine va_newa (D := D) (atype := .int) (ty := .int) (a0 := (x.toNat, .inl (fun _ => 0))) hx hb (hts _ harr) rfl hK hw.1 hw.2 hS (fun q hq => by omega) (fun cA => rfl) hn0 (n32_nat hx0) (by simp only [componentBytes]; omega) c1 c2 hd (fun q cA H1 hK2 w1 w2 w3 => ?_)
  have hcA : cA = dA 1 := by
    have r1 := (hK2.2 6 (cA, .int) rfl).2
    have r2 := (hK.2 0 (dA 1, .int) rfl).2
    exact Option.some.inj (Eq.trans (Eq.symm r1) r2)
  subst hcA
  exact k q H1 (by rw [hce]; exact w1) (by rw [hce]; exact w2) w3
theorem G_newa_long {g i : Nat} {x : Int} (hx : p.tables.exec = Jvm.exec) (hb : c.code = mC m) (hmd : md = true) (hR : nF md n0 Vf - n0 ≤ R.cells ∧ Sl (nF md n0 Vf) - Sl n0 ≤ R.slots) (hts : ∀ w ∈ TW, w.before args s = true) (hK : va_K D vwCl (tysA dA) s) (hsz : z ≤ s.heap.size) (hn : (V 0 0 0).toNat < 155) (e9 : tau (V 0 0 0).toNat = (g, i)) (hk : WW.1 g = 2) (hl0 : WW.2.1 g = x) (hd : decode (mC m) pc = .ok (.newarray .long, 2)) (hg : Good p l e R s mi args below meth c Q D dA z sc md b m n0 ad0 r Vf V0 (pc + 2) ls (xr g i :: st) (xz V g i (V 0 0 0).toNat)) : Good p l e R s mi args below meth c Q D dA z sc md b m n0 ad0 r Vf V0 pc ls (xi x :: st) V := by
  refine G_alloc hmd hR hn e9 hg (fun n h => (m1 h).2) (fun n ad H locs lsA k1 k2 hn e9 hs hw hS c1 c2 k => ?_)
  have hx0 : c32 x := (m1 hs).1
  have hx1 : 0 ≤ x := by rw [← hl0]; exact (al_kind (n := 155) (g := g) (i := i) (by omega) ⟨n, hn, e9⟩).2.1
  have hxb : x ≤ 10000 := by
    have := List.all_eq_true.mp wt_len n (List.mem_range.mpr hn)
    rw [e9, hl0] at this
    exact of_decide_eq_true this
  have hN : slz n = x.toNat := by
    unfold slz
    rw [e9, hk, if_neg (by omega)]
    show (WW.2.1 g).toNat = _
    rw [hl0]
  rw [hN] at c2 k
  have hce : ∀ q, ce true (fun _ => 0) (adu ad g i q) dA g i = .inl (dA 2, x.toNat, .inr (.inl (fun _ => 0))) := by
    intro q
    rw [ce_2 hk, hl0]
    rfl
  have harr : Cond.arrayClass .long ∈ TW := ac_long
  have hn0 : ¬ Int32.ofInt x < 0 := fun q => by
    rw [show (0 : Int32) = Int32.ofInt 0 from rfl, n32_lt hx0 (by unfold c32; omega)] at q
    omega
  refine va_newa (D := D) (atype := .long) (ty := .long) (a0 := (x.toNat, .inr (.inl (fun _ => 0)))) hx hb (hts _ harr) rfl hK hw.1 hw.2 hS (fun q hq => by omega) (fun cA => rfl) hn0 (n32_nat hx0) (by simp only [componentBytes]; omega) c1 c2 hd (fun q cA H1 hK2 w1 w2 w3 => ?_)
  have hcA : cA = dA 2 := by
    have r1 := (hK2.2 6 (cA, .long) rfl).2
    have r2 := (hK.2 1 (dA 2, .long) rfl).2
    exact Option.some.inj (Eq.trans (Eq.symm r1) r2)
  subst hcA
  exact k q H1 (by rw [hce]; exact w1) (by rw [hce]; exact w2) w3
theorem G_newa_bool {g i : Nat} {x : Int} (hx : p.tables.exec = Jvm.exec) (hb : c.code = mC m) (hmd : md = true) (hR : nF md n0 Vf - n0 ≤ R.cells ∧ Sl (nF md n0 Vf) - Sl n0 ≤ R.slots) (hts : ∀ w ∈ TW, w.before args s = true) (hK : va_K D vwCl (tysA dA) s) (hsz : z ≤ s.heap.size) (hn : (V 0 0 0).toNat < 155) (e9 : tau (V 0 0 0).toNat = (g, i)) (hk : WW.1 g = 3) (hl0 : WW.2.1 g = x) (hd : decode (mC m) pc = .ok (.newarray .boolean, 2)) (hg : Good p l e R s mi args below meth c Q D dA z sc md b m n0 ad0 r Vf V0 (pc + 2) ls (xr g i :: st) (xz V g i (V 0 0 0).toNat)) : Good p l e R s mi args below meth c Q D dA z sc md b m n0 ad0 r Vf V0 pc ls (xi x :: st) V := by
  refine G_alloc hmd hR hn e9 hg (fun n h => (m1 h).2) (fun n ad H locs lsA k1 k2 hn e9 hs hw hS c1 c2 k => ?_)
  have hx0 : c32 x := (m1 hs).1
  have hx1 : 0 ≤ x := by rw [← hl0]; exact (al_kind (n := 155) (g := g) (i := i) (by omega) ⟨n, hn, e9⟩).2.1
  have hxb : x ≤ 10000 := by
    have := List.all_eq_true.mp wt_len n (List.mem_range.mpr hn)
    rw [e9, hl0] at this
    exact of_decide_eq_true this
  have hN : slz n = x.toNat := by
    unfold slz
    rw [e9, hk, if_neg (by omega)]
    show (WW.2.1 g).toNat = _
    rw [hl0]
  rw [hN] at c2 k
  have hce : ∀ q, ce true (fun _ => 0) (adu ad g i q) dA g i = .inl (dA 3, x.toNat, .inl (fun _ => 0)) := by
    intro q
    rw [ce_3 hk, hl0]
    rfl
  have harr : Cond.arrayClass .boolean ∈ TW := ac_bool
  have hn0 : ¬ Int32.ofInt x < 0 := fun q => by
    rw [show (0 : Int32) = Int32.ofInt 0 from rfl, n32_lt hx0 (by unfold c32; omega)] at q
    omega
  refine va_newa (D := D) (atype := .boolean) (ty := .boolean) (a0 := (x.toNat, .inl (fun _ => 0))) hx hb (hts _ harr) rfl hK hw.1 hw.2 hS (fun q hq => by omega) (fun cA => rfl) hn0 (n32_nat hx0) (by simp only [componentBytes]; omega) c1 c2 hd (fun q cA H1 hK2 w1 w2 w3 => ?_)
  have hcA : cA = dA 3 := by
    have r1 := (hK2.2 6 (cA, .boolean) rfl).2
    have r2 := (hK.2 2 (dA 3, .boolean) rfl).2
    exact Option.some.inj (Eq.trans (Eq.symm r1) r2)
  subst hcA
  exact k q H1 (by rw [hce]; exact w1) (by rw [hce]; exact w2) w3
theorem G_newa_dbl {g i : Nat} {x : Int} (hx : p.tables.exec = Jvm.exec) (hb : c.code = mC m) (hmd : md = true) (hR : nF md n0 Vf - n0 ≤ R.cells ∧ Sl (nF md n0 Vf) - Sl n0 ≤ R.slots) (hts : ∀ w ∈ TW, w.before args s = true) (hK : va_K D vwCl (tysA dA) s) (hsz : z ≤ s.heap.size) (hn : (V 0 0 0).toNat < 155) (e9 : tau (V 0 0 0).toNat = (g, i)) (hk : WW.1 g = 4) (hl0 : WW.2.1 g = x) (hd : decode (mC m) pc = .ok (.newarray .double, 2)) (hg : Good p l e R s mi args below meth c Q D dA z sc md b m n0 ad0 r Vf V0 (pc + 2) ls (xr g i :: st) (xz V g i (V 0 0 0).toNat)) : Good p l e R s mi args below meth c Q D dA z sc md b m n0 ad0 r Vf V0 pc ls (xi x :: st) V := by
  refine G_alloc hmd hR hn e9 hg (fun n h => (m1 h).2) (fun n ad H locs lsA k1 k2 hn e9 hs hw hS c1 c2 k => ?_)
  have hx0 : c32 x := (m1 hs).1
  have hx1 : 0 ≤ x := by rw [← hl0]; exact (al_kind (n := 155) (g := g) (i := i) (by omega) ⟨n, hn, e9⟩).2.1
  have hxb : x ≤ 10000 := by
    have := List.all_eq_true.mp wt_len n (List.mem_range.mpr hn)
    rw [e9, hl0] at this
    exact of_decide_eq_true this
  have hN : slz n = x.toNat := by
    unfold slz
    rw [e9, hk, if_neg (by omega)]
    show (WW.2.1 g).toNat = _
    rw [hl0]
  rw [hN] at c2 k
  have hce : ∀ q, ce true (fun _ => 0) (adu ad g i q) dA g i = .inl (dA 4, x.toNat, .inr (.inr (.inr (.inl (fun _ => 0))))) := by
    intro q
    rw [ce_4 hk, hl0]
    rfl
  have harr : Cond.arrayClass .double ∈ TW := ac_dbl
  have hn0 : ¬ Int32.ofInt x < 0 := fun q => by
    rw [show (0 : Int32) = Int32.ofInt 0 from rfl, n32_lt hx0 (by unfold c32; omega)] at q
    omega
  refine va_newa (D := D) (atype := .double) (ty := .double) (a0 := (x.toNat, .inr (.inr (.inr (.inl (fun _ => 0)))))) hx hb (hts _ harr) rfl hK hw.1 hw.2 hS (fun q hq => by omega) (fun cA => rfl) hn0 (n32_nat hx0) (by simp only [componentBytes]; omega) c1 c2 hd (fun q cA H1 hK2 w1 w2 w3 => ?_)
  have hcA : cA = dA 4 := by
    have r1 := (hK2.2 6 (cA, .double) rfl).2
    have r2 := (hK.2 3 (dA 4, .double) rfl).2
    exact Option.some.inj (Eq.trans (Eq.symm r1) r2)
  subst hcA
  exact k q H1 (by rw [hce]; exact w1) (by rw [hce]; exact w2) w3
theorem G_newq5 {g i idx : Nat} {x : Int} (hx : p.tables.exec = Jvm.exec) (hb : c.code = mC m) (hmd : md = true) (hR : nF md n0 Vf - n0 ≤ R.cells ∧ Sl (nF md n0 Vf) - Sl n0 ≤ R.slots) (hown : s.vm.findClass (cN (mK m)) = some mi.cls) (hts : ∀ w ∈ TW, w.before args s = true) (hao : va_AO "WorldMake$Shelf" s) (hK : va_K D vwCl (tysA dA) s) (hsz : z ≤ s.heap.size) (hcl : Cond.classLink (cN (mK m)) idx "WorldMake$Shelf" ∈ TW) (hn : (V 0 0 0).toNat < 155) (e9 : tau (V 0 0 0).toNat = (g, i)) (hk : WW.1 g = 5) (hl0 : WW.2.1 g = x) (hd : decode (mC m) pc = .ok (.anewarray idx, 3)) (hg : Good p l e R s mi args below meth c Q D dA z sc md b m n0 ad0 r Vf V0 (pc + 3) ls (xr g i :: st) (xz V g i (V 0 0 0).toNat)) : Good p l e R s mi args below meth c Q D dA z sc md b m n0 ad0 r Vf V0 pc ls (xi x :: st) V := by
  refine G_alloc hmd hR hn e9 hg (fun n h => (m1 h).2) (fun n ad H locs lsA k1 k2 hn e9 hs hw hS c1 c2 k => ?_)
  have hx0 : c32 x := (m1 hs).1
  have hx1 : 0 ≤ x := by rw [← hl0]; exact (al_kind (n := 155) (g := g) (i := i) (by omega) ⟨n, hn, e9⟩).2.1
  have hxb : x ≤ 10000 := by
    have := List.all_eq_true.mp wt_len n (List.mem_range.mpr hn)
    rw [e9, hl0] at this
    exact of_decide_eq_true this
  have hN : slz n = x.toNat := by
    unfold slz
    rw [e9, hk, if_neg (by omega)]
    show (WW.2.1 g).toNat = _
    rw [hl0]
  rw [hN] at c2 k
  have hce : ∀ q, ce true (fun _ => 0) (adu ad g i q) dA g i = .inl (dA 5, x.toNat, .inr (.inr (.inr (.inr (fun _ => none))))) := by
    intro q
    rw [ce_5 hk, hl0]
    congr 7
  have hn0 : ¬ Int32.ofInt x < 0 := fun q => by
    rw [show (0 : Int32) = Int32.ofInt 0 from rfl, n32_lt hx0 (by unfold c32; omega)] at q
    omega
  refine va_newq (D := D) hx hb hown (hts _ hcl) hao hK hw.1 hw.2 hS (fun q hq => by omega) hn0 (n32_nat hx0) (by omega) c1 c2 hd (fun q cA H1 hK2 w1 w2 w3 => ?_)
  have hcA : cA = dA 5 := by
    obtain ⟨_, _, _, _, _, r1⟩ := (hK2.2 6 (cA, .object "WorldMake$Shelf") rfl).2
    obtain ⟨_, _, _, _, _, r2⟩ := (hK.2 4 (dA 5, .object "WorldMake$Shelf") rfl).2
    exact Option.some.inj (r1.symm.trans r2)
  subst hcA
  exact k q H1 (by rw [hce]; exact w1) (by rw [hce]; exact w2) w3
theorem G_newq6 {g i idx : Nat} {x : Int} (hx : p.tables.exec = Jvm.exec) (hb : c.code = mC m) (hmd : md = true) (hR : nF md n0 Vf - n0 ≤ R.cells ∧ Sl (nF md n0 Vf) - Sl n0 ≤ R.slots) (hown : s.vm.findClass (cN (mK m)) = some mi.cls) (hts : ∀ w ∈ TW, w.before args s = true) (hao : va_AO "WorldMake$Table" s) (hK : va_K D vwCl (tysA dA) s) (hsz : z ≤ s.heap.size) (hcl : Cond.classLink (cN (mK m)) idx "WorldMake$Table" ∈ TW) (hn : (V 0 0 0).toNat < 155) (e9 : tau (V 0 0 0).toNat = (g, i)) (hk : WW.1 g = 6) (hl0 : WW.2.1 g = x) (hd : decode (mC m) pc = .ok (.anewarray idx, 3)) (hg : Good p l e R s mi args below meth c Q D dA z sc md b m n0 ad0 r Vf V0 (pc + 3) ls (xr g i :: st) (xz V g i (V 0 0 0).toNat)) : Good p l e R s mi args below meth c Q D dA z sc md b m n0 ad0 r Vf V0 pc ls (xi x :: st) V := by
  refine G_alloc hmd hR hn e9 hg (fun n h => (m1 h).2) (fun n ad H locs lsA k1 k2 hn e9 hs hw hS c1 c2 k => ?_)
  have hx0 : c32 x := (m1 hs).1
  have hx1 : 0 ≤ x := by rw [← hl0]; exact (al_kind (n := 155) (g := g) (i := i) (by omega) ⟨n, hn, e9⟩).2.1
  have hxb : x ≤ 10000 := by
    have := List.all_eq_true.mp wt_len n (List.mem_range.mpr hn)
    rw [e9, hl0] at this
    exact of_decide_eq_true this
  have hN : slz n = x.toNat := by
    unfold slz
    rw [e9, hk, if_neg (by omega)]
    show (WW.2.1 g).toNat = _
    rw [hl0]
  rw [hN] at c2 k
  have hce : ∀ q, ce true (fun _ => 0) (adu ad g i q) dA g i = .inl (dA 6, x.toNat, .inr (.inr (.inr (.inr (fun _ => none))))) := by
    intro q
    rw [ce_6 hk, hl0]
    congr 7
  have hn0 : ¬ Int32.ofInt x < 0 := fun q => by
    rw [show (0 : Int32) = Int32.ofInt 0 from rfl, n32_lt hx0 (by unfold c32; omega)] at q
    omega
  refine va_newq (D := D) hx hb hown (hts _ hcl) hao hK hw.1 hw.2 hS (fun q hq => by omega) hn0 (n32_nat hx0) (by omega) c1 c2 hd (fun q cA H1 hK2 w1 w2 w3 => ?_)
  have hcA : cA = dA 6 := by
    obtain ⟨_, _, _, _, _, r1⟩ := (hK2.2 6 (cA, .object "WorldMake$Table") rfl).2
    obtain ⟨_, _, _, _, _, r2⟩ := (hK.2 5 (dA 6, .object "WorldMake$Table") rfl).2
    exact Option.some.inj (r1.symm.trans r2)
  subst hcA
  exact k q H1 (by rw [hce]; exact w1) (by rw [hce]; exact w2) w3
/-- what is due at a return -/
def Hend (p : Program) (l : Launch) (e : Env) (R : Room) (s : State) (mi : MethodId) (args : Array Value) (below : List Frame) (meth : Method) (c : Code) (Q : State → Prop) (D : va_G) (dA : Nat → ClassId) (z : Nat) (sc md : Bool) (m n0 : Nat) (ad0 : Nat → Nat → Nat) (r : XS) (Vf : XM) : Prop :=
  ∀ (pc n : Nat) (ad : Nat → Nat → Nat) (H : Heap) (locs : List Loc) (lsA : Array Slot), n = nF md n0 Vf → n ≤ 155 → axt n0 ad0 ad → world D dA z md n Vf ad H → va_S (fun q => z ≤ q) s.heap H locs → cS sc n r →
    (∀ x, r = xi x → (mR m = some .int ∨ (mR m = some .boolean ∧ (x = 0 ∨ x = 1))) → decode (mC m) pc = .ok (.ireturn, 1) → W p l e R s mi args below meth c H locs (n - n0) (Sl n - Sl n0) Q (F0 mi pc lsA [tv ad r])) ∧
    (∀ x, r = xl x → mR m = some .long → decode (mC m) pc = .ok (.lreturn, 1) → W p l e R s mi args below meth c H locs (n - n0) (Sl n - Sl n0) Q (F0 mi pc lsA [tv ad r])) ∧
    (∀ g i, r = xr (g + 1) i → rtag (mR m) = 2 → decode (mC m) pc = .ok (.areturn, 1) → W p l e R s mi args below meth c H locs (n - n0) (Sl n - Sl n0) Q (F0 mi pc lsA [tv ad r])) ∧
    (mR m = none → decode (mC m) pc = .ok (.return_, 1) → W p l e R s mi args below meth c H locs (n - n0) (Sl n - Sl n0) Q (F0 mi pc lsA []))
theorem G_ret (hend : Hend p l e R s mi args below meth c Q D dA z sc md m n0 ad0 r Vf) (hV : Vf = V) (hr : ∀ n, (∀ v ∈ st, cS sc n v) → cS sc n r)
    (hw : ∀ n ad H locs lsA, (∀ x, r = xi x → (mR m = some .int ∨ (mR m = some .boolean ∧ (x = 0 ∨ x = 1))) → decode (mC m) pc = .ok (.ireturn, 1) → W p l e R s mi args below meth c H locs (n - n0) (Sl n - Sl n0) Q (F0 mi pc lsA [tv ad r])) ∧
    (∀ x, r = xl x → mR m = some .long → decode (mC m) pc = .ok (.lreturn, 1) → W p l e R s mi args below meth c H locs (n - n0) (Sl n - Sl n0) Q (F0 mi pc lsA [tv ad r])) ∧
    (∀ g i, r = xr (g + 1) i → rtag (mR m) = 2 → decode (mC m) pc = .ok (.areturn, 1) → W p l e R s mi args below meth c H locs (n - n0) (Sl n - Sl n0) Q (F0 mi pc lsA [tv ad r])) ∧
    (mR m = none → decode (mC m) pc = .ok (.return_, 1) → W p l e R s mi args below meth c H locs (n - n0) (Sl n - Sl n0) Q (F0 mi pc lsA [])) → W p l e R s mi args below meth c H locs (n - n0) (Sl n - Sl n0) Q (F0 mi pc lsA (st.map (tv ad)))) : Good p l e R s mi args below meth c Q D dA z sc md b m n0 ad0 r Vf V0 pc ls st V := by
  subst hV
  intro n h1 h2 h3 h4 h5 h6 h7 h8 h9
  have en : nF md n Vf = n := by
    cases md with
    | false => rfl
    | true => show (Vf 0 0 0).toNat = n; rw [h2.2]; exact Int.toNat_natCast n
  have en0 : n = nF md n0 Vf := by
    cases md with
    | false => exact h8 rfl
    | true => exact en.symm
  refine ⟨⟨h9, h1, by rw [en]; exact h2, by rw [en]; exact Nat.le_refl n, by rw [en]; exact h3, by rw [en]; exact hr n h7⟩, fun ad H locs lsA q1 q2 q3 q4 q5 => ?_⟩
  exact hw n ad H locs lsA (hend pc n ad H locs lsA en0 h3 q1 q3 q4 (hr n h7))
end
end
section
/-! soundness: calls -/
def OXG : List Nat := [97, 7, 0, 750, 0]
theorem ox_mem {w : Cond} (h : w ∈ wpick OXG lw_tbl) (hg : goodWord w = true) : w ∈ TW := TW_of (wpick_mem _ _ h) hg
theorem oi_1 : Cond.instanceMethod Lib.objectInit ∈ TW := ox_mem (by rw [show wpick OXG lw_tbl = _ from sX2]; exact List.mem_of_getElem? (i := 1) rfl) rfl
theorem oi_2 : Cond.code Lib.objectInit ⟨#[0xb1]⟩ 1 none ∈ TW := ox_mem (by rw [show wpick OXG lw_tbl = _ from sX2]; exact List.mem_of_getElem? (i := 2) rfl) rfl
theorem mx_1 : Cond.static Lib.Math.max.name ∈ TW := ox_mem (by rw [show wpick OXG lw_tbl = _ from sX2]; exact List.mem_of_getElem? (i := 3) rfl) rfl
theorem mx_2 : Cond.initialized "java/lang/Math" ∈ TW := ox_mem (by rw [show wpick OXG lw_tbl = _ from sX2]; exact List.mem_of_getElem? (i := 0) rfl) rfl
theorem mx_3 : Cond.code Lib.Math.max.name Lib.Math.max.code 2 (some .int) ∈ TW := ox_mem (by rw [show wpick OXG lw_tbl = _ from sX2]; exact List.mem_of_getElem? (i := 4) rfl) rfl
theorem xtk_eq : ∀ (n : Nat) (l : List XS), xtk n l = l.take n := by
  intro n
  induction n with
  | zero => intro l; cases l <;> rfl
  | succ n ih => intro l; cases l with
    | nil => rfl
    | cons a l => simp [xtk, ih l]
theorem xdp_eq : ∀ (n : Nat) (l : List XS), xdp n l = l.drop n := by
  intro n
  induction n with
  | zero => intro l; cases l <;> rfl
  | succ n ih => intro l; cases l with
    | nil => rfl
    | cons a l => simp [xdp, ih l]
theorem xrv_eq : ∀ (l a : List XS), xrv l a = l.reverse ++ a := by
  intro l
  induction l with
  | nil => intro a; rfl
  | cons v l ih => intro a; simp [xrv, ih]
theorem xsum_eq (ad : Nat → Nat → Nat) : ∀ (l : List XS), ((l.map (tv ad)).map fun v => v.category).sum = xsum l := by
  intro l
  induction l with
  | nil => rfl
  | cons v l ih => simp only [List.map_cons, List.sum_cons, ih, tv_cat]; rfl
theorem xhas_le : ∀ (l : List XS) (n : Nat), xhas l n = true → n ≤ l.length := by
  intro l
  induction l with
  | nil => intro n h; cases n with
    | zero => exact Nat.le_refl _
    | succ n => cases h
  | cons a l ih => intro n h; cases n with
    | zero => exact Nat.zero_le _
    | succ n => exact Nat.succ_le_succ (ih n h)
theorem xnos_ok {sc : Bool} {n : Nat} : ∀ (l : List XS), xnos l = true → (∀ v ∈ l, cS sc n v) → ∀ v ∈ l, cS false n v := by
  intro l
  induction l with
  | nil => intro h hv v hm; cases hm
  | cons a l ih =>
    intro h hv
    have h0 := m1 hv
    have key : cS false n a ∧ xnos l = true := by
      match a, h, h0.1 with
      | .inl x, h, q => exact ⟨q, h⟩
      | .inr (.inl x), h, q => exact ⟨q, h⟩
      | .inr (.inr (.inl x)), h, q => exact ⟨q, h⟩
      | .inr (.inr (.inr (.inl x))), h, q => exact ⟨q, h⟩
      | .inr (.inr (.inr (.inr (0, i)))), h, q => exact ⟨Or.inl rfl, h⟩
      | .inr (.inr (.inr (.inr (1, i)))), h, q => cases h
      | .inr (.inr (.inr (.inr (g + 2, i)))), h, q =>
        refine ⟨?_, h⟩
        rcases q with q | q | q
        · omega
        · omega
        · exact Or.inr (Or.inr q)
    exact m2 key.1 (ih key.2 h0.2)
theorem take_rev {l : List XS} {k : Nat} {v : XS} (hk : k < l.length) (hv : xget l k = v) : l = l.take k ++ v :: l.drop (k + 1) := by
  have e : ∀ (l : List XS) (k : Nat), k < l.length → l = l.take k ++ xget l k :: l.drop (k + 1) := by
    intro l
    induction l with
    | nil => intro k h; simp at h
    | cons a l ih => intro k h; cases k with
      | zero => rfl
      | succ k =>
        show a :: l = a :: (l.take k ++ xget l k :: l.drop (k + 1))
        rw [← ih k (by simpa using h)]
  rw [← hv]
  exact e l k hk
theorem NWs_moved {u U : State} (hvm : u.WarmedH U.vm) (h : NWs u) : NWs U := by
  refine ⟨fun w hw hn => ?_, va_AO.moved hvm.alike h.2.1, va_AO.moved hvm.alike h.2.2⟩
  have h1 := h.1 w hw hn
  cases w with
  | methodLinkNest a i x b => exact va_Nw.warmM hvm h1
  | _ => cases hn
theorem NWs_same {u U : State} (hvm : u.vm = U.vm) (h : NWs u) : NWs U := by
  have ha : u.vm.Alike U.vm := by rw [hvm]; exact Vm.Alike.refl _
  refine ⟨fun w hw hn => ?_, va_AO.moved ha h.2.1, va_AO.moved ha h.2.2⟩
  have h1 := h.1 w hw hn
  cases w with
  | methodLinkNest a i x b => exact va_Nw.same rfl hvm h1
  | _ => cases hn
theorem XPre_blind (D : va_G) (dA : Nat → ClassId) (z : Nat) (md : Bool) (n : Nat) (V : XM) (ad : Nat → Nat → Nat) (as : List XS) : FrameBlind (XPre D dA z md n V ad as) := by
  intro a U g mk h
  obtain ⟨h1, h2, h3, h4, h5⟩ := h
  exact ⟨h1, h2, h3, va_K.moved (u := U) (U := U.calling g mk a) (Vm.Alike.refl U.vm) h4, NWs_same (u := U) (U := U.calling g mk a) rfl h5⟩
theorem mem_all {l : List Nat} {k : Nat} (h : l.elem k = true) : k ∈ l := by simpa using h
theorem code_TW {k : Nat} (h : k < 310) : Cond.code (mY k) (mC k) (XML k) (mR k) ∈ TW := by
  have h1 := List.all_eq_true.mp sI3 k (List.mem_range.mpr h)
  simp only [Bool.and_eq_true] at h1
  exact TW_of (wpick_map sI1 (mem_all h1.2)) (gw_cd _ _ _ _)
theorem cls_eq {k : Nat} (h : k < 310) : (mY k).cls = cN (mK k) := List.map_inj_left.mp sI2 k (List.mem_range.mpr h)
/-- what is asked of a callee -/
def ClOk (k : Nat) : Prop := (k < 310 ∧ mK k < 14) ∧ XML k ≤ 40 ∧ Cond.initialized (mY k).cls ∈ TW ∧ ((mY k).cls ≠ "java/lang/invoke/MethodHandle" ∧ (mY k).cls ≠ "java/lang/invoke/VarHandle") ∧ plainName (mY k).cls = true ∧ ∀ sig, parseMethodDescriptor (mY k).desc = some sig → npar (mY k) = sig.parameters.length
theorem cl_ok {k : Nat} (h : k < 310) (h2 : mK k < 14) : ClOk k := by
  have h1 := List.all_eq_true.mp sI3 k (List.mem_range.mpr h)
  simp only [Bool.and_eq_true] at h1
  have h3 := List.all_eq_true.mp sC1 (mK k) (List.mem_range.mpr h2)
  simp only [Bool.and_eq_true, decide_eq_true_eq] at h3
  have e := cls_eq h
  refine ⟨⟨h, h2⟩, Nat.le_of_ble_eq_true h1.1.1.1, ?_, ⟨by rw [e]; exact h3.1.1.1, by rw [e]; exact h3.1.1.2⟩, by rw [e]; exact h3.1.2, fun sig hs => by unfold npar; rw [hs]⟩
  rw [e]
  exact TW_of (wpick_map sN3 (mem_all h3.2)) (gw_in _)
section
variable {p : Program} {l : Launch} {e : Env} {R : Room} {s : State} {mi : MethodId} {args : Array Value} {below : List Frame} {meth : Method} {c : Code} {Q : State → Prop} {D : va_G} {dA : Nat → ClassId} {z : Nat} {sc md : Bool} {b m n0 : Nat} {ad0 : Nat → Nat → Nat} {r : XS} {Vf V0 : XM} {pc : Nat} {ls st : List XS} {V : XM}

theorem W_call {lsA : Array Slot} {st0 rest : List Value} {H : Heap} {locs : List Loc} {k1 k2 mc ms : Nat} {Qa : State → Outcome → State → Prop} {free : Addr → Prop} (hr : va_Run p l e R s mi args below meth c H locs k1 k2 mc ms (F0 mi pc lsA st0) rest Qa free) (kk : ∀ v t L st₀, st₀.heap = H → Qa st₀ (.returned v) t → (∀ q ∈ L, free q.base) → W p l e R s mi args below meth c t.heap (locs ++ L) (k1 + mc) (k2 + ms) Q (F0 mi (pc + 3) lsA (v.toList ++ rest))) : W p l e R s mi args below meth c H locs k1 k2 Q (F0 mi pc lsA st0) := by
  intro T hT X
  obtain ⟨v, st₀, t, T', L, h0, X', hL, e1, e2, hq, hst⟩ := hr T hT X
  obtain ⟨t2, a1, b1⟩ := kk v t L st₀ h0 hq hL T' e1 X'
  exact ⟨t2, hst t2 a1, b1⟩
theorem G_callC {d m' : Nat} {as rest : List XS} {r1 : XS} {V1 : XM} {st' : List XS} (hsz : z ≤ s.heap.size) (hR : nF md n0 Vf - n0 ≤ R.cells ∧ Sl (nF md n0 Vf) - Sl n0 ≤ R.slots) (hC : Ctr l D dA z md d m' as V r1 V1) (has : ∀ n, (∀ v ∈ st, cS sc n v) → (∀ v ∈ as, cS false n v) ∧ ∀ v ∈ rest, cS sc n v) (hg : Good p l e R s mi args below meth c Q D dA z sc md b m n0 ad0 r Vf V0 (pc + 3) ls st' V1) (hst' : st' = match mR m' with | none => rest | some _ => r1 :: rest)
    (hrun : ∀ n ad H locs lsA k1 k2 mc ms Qc, n ≤ 155 → (∀ v ∈ st, cS sc n v) → world D dA z md n V ad H → va_S (fun q => z ≤ q) s.heap H locs → lsA.size = XML m → Met l (mY m') (wsM m') (rmD d mc ms) (XPre D dA z md n V ad as) Qc mc ms (fun q => z ≤ q) → k1 + mc ≤ R.cells → k2 + ms ≤ R.slots → va_Run p l e R s mi args below meth c H locs k1 k2 mc ms (F0 mi pc lsA (st.map (tv ad))) (rest.map (tv ad)) (Qc (as.map (tv ad)).toArray) (fun q => z ≤ q)) : Good p l e R s mi args below meth c Q D dA z sc md b m n0 ad0 r Vf V0 pc ls st V := by
  intro n h1 h2 h3 h4 h5 h6 h7 h8 h9
  obtain ⟨ha1, ha2⟩ := has n h7
  obtain ⟨⟨p0, p1, p2, p3, p4, p5⟩, -⟩ := hC n ad0 h1 h2 h3 ha1
  have hst1 : ∀ v ∈ st', cS sc (nF md n V1) v := by
    rw [hst']
    cases mR m' with
    | none => exact fun v hv => cS_mono p3 (ha2 v hv)
    | some _ => exact m2 (cS_sc p5) (fun v hv => cS_mono p3 (ha2 v hv))
  obtain ⟨⟨e0, e1, e2, e3, e4, e5⟩, bb⟩ := hg (nF md n V1) p1 p2 p4 (by omega) h5 (fun v hv => cS_mono p3 (h6 v hv)) hst1 (fun q => by subst q; exact h8 rfl) (p0.trans h9)
  have hnn : nF md (nF md n V1) Vf = nF md n Vf := by cases md <;> rfl
  have hn0 : nF md n0 Vf = nF md (nF md n V1) Vf := by
    cases md with
    | false => exact (h8 rfl).symm
    | true => rfl
  rw [hnn] at e2 e3 e4 e5
  refine ⟨⟨e0, e1, e2, by omega, e4, e5⟩, fun ad H locs lsA q1 q2 q3 q4 q5 => ?_⟩
  obtain ⟨-, hM⟩ := hC n ad h1 h2 h3 ha1
  have s1 := Sl_mono h4
  have s2 := Sl_mono p3
  have s3 := Sl_mono e3
  rw [hn0, hnn] at hR
  have hrr := hrun n ad H locs lsA (n - n0) (Sl n - Sl n0) _ _ _ h3 h7 q3 q4 q5.1 hM (by omega) (by omega)
  refine W_call hrr (fun v t L st₀ hh hq hL => ?_)
  obtain ⟨ad', x1, x2, x3, x4⟩ := hq
  have hv : v = rval (mR m') ad' r1 := by
    injection x3
  have hx0 : axt n0 ad0 ad' := fun g i hgi => by
    rw [x1 g i (hgi.imp id (fun q => al_mono q h4))]
    exact q1 g i hgi
  have hS' : va_S (fun q => z ≤ q) s.heap t.heap (locs ++ L) := by
    obtain ⟨f1, f2⟩ := x4
    rw [hh] at f1 f2
    refine ⟨Nat.le_trans q4.1 f1, fun q u1 u2 => ?_, fun q hq => ?_⟩
    · rw [f2 q (Nat.lt_of_lt_of_le u1 q4.1) u2]
      exact q4.2.1 q u1 u2
    · rcases List.mem_append.mp hq with u | u
      · exact q4.2.2 q u
      · exact hL q u
  have hr := bb ad' t.heap (locs ++ L) lsA hx0 (fun hs => by rw [x1 1 0 (Or.inl rfl)]; exact q2 hs) x2 hS' (lvl_axt x1 h6 q5)
  have hsp : st'.map (tv ad') = v.toList ++ rest.map (tv ad) := by
    rw [hst', hv]
    cases hm : mR m' with
    | none =>
      show rest.map (tv ad') = [] ++ _
      rw [map_axt x1 ha2]
      rfl
    | some ty =>
      show tv ad' r1 :: rest.map (tv ad') = [tv ad' r1] ++ _
      rw [map_axt x1 ha2]
      rfl
  rw [hsp] at hr
  rw [show n - n0 + (nF md n V1 - n) = nF md n V1 - n0 by omega, show Sl n - Sl n0 + (Sl (nF md n V1) - Sl n) = Sl (nF md n V1) - Sl n0 by omega]
  exact hr
theorem ws_pay {k : Nat} (hk : k < 310) (hts : ∀ w ∈ TW, w.before args s = true) : ∀ w ∈ wsM k, ∀ (a' : Array Value) (U : State), s.WarmedH U.vm → w.before a' U = true := by
  intro w hw a' U hW
  have hw2 : w ∈ TW := by
    rcases List.mem_cons.mp hw with q | q
    · rw [q]; exact code_TW hk
    · exact q
  exact word_at hW (good_of_word (List.mem_filter.mp hw2).2) (hts w hw2)
theorem pre_of {n : Nat} {ad : Nat → Nat → Nat} {H : Heap} {locs : List Loc} {as : List XS} (hsz : z ≤ s.heap.size) (hK : va_K D vwCl (tysA dA) s) (hN : NWs s) (hw : world D dA z md n V ad H) (hS : va_S (fun q => z ≤ q) s.heap H locs) : ∀ U : State, U.heap = H → s.WarmedH U.vm → XPre D dA z md n V ad as (as.map (tv ad)).toArray U := by
  intro U hU hW
  refine ⟨rfl, by rw [hU]; exact Nat.le_trans hsz hS.1, by rw [hU]; exact hw, va_K.moved hW.alike hK, NWs_moved hW hN⟩
theorem G_virt {d m' idx k0 g i : Nat} {r1 : XS} {V1 : XM} {st' : List XS} (hx : p.tables.exec = Jvm.exec) (hb : c.code = mC m) (hml : c.maxLocals = XML m) (hown : s.vm.findClass (cN (mK m)) = some mi.cls) (hts : ∀ w ∈ TW, w.before args s = true) (hN : NWs s) (hK : va_K D vwCl (tysA dA) s) (hsz : z ≤ s.heap.size) (hR : nF md n0 Vf - n0 ≤ R.cells ∧ Sl (nF md n0 Vf) - Sl n0 ≤ R.slots) (hRf : d + 1 ≤ R.frames ∧ 60 * d + 60 ≤ R.locals) (hcl : ClOk m') (hk0 : k0 < st.length) (hrc : xget st k0 = xr g i) (hnp : npar (mY m') = k0) (hno : xnos (st.take (k0 + 1)) = true) (hrest : xsum (st.drop (k0 + 1)) ≤ 8) (hg : Good p l e R s mi args below meth c Q D dA z sc md b m n0 ad0 r Vf V0 (pc + 3) ls st' V1) (hst' : st' = match mR m' with | none => st.drop (k0 + 1) | some _ => r1 :: st.drop (k0 + 1)) (hC : Ctr l D dA z md d m' ((st.take (k0 + 1)).reverse) V r1 V1) (hci : mK m' < 13 ∧ WW.1 g = mK m' + 10) (hl : Cond.methodLink (cN (mK m)) idx (mY m') ∈ TW) (hi : Cond.instanceMethod (mY m') ∈ TW) (hse : Cond.selects (mY m').cls (mY m') (mY m') ∈ TW) (hd : decode (mC m) pc = .ok (.invokevirtual idx, 3)) : Good p l e R s mi args below meth c Q D dA z sc md b m n0 ad0 r Vf V0 pc ls st V := by
  have hsplit := take_rev hk0 hrc
  have has0 : (st.take (k0 + 1)).reverse = xr g i :: (st.take k0).reverse := by
    have : st.take (k0 + 1) = st.take k0 ++ [xr g i] := by
      conv => lhs; rw [hsplit]
      rw [List.take_append]
      simp [Nat.min_eq_left (Nat.le_of_lt hk0)]
      rw [List.take_take, Nat.min_eq_right (Nat.le_succ k0)]
    rw [this]
    simp
  have hgk : 10 ≤ WW.1 g := by omega
  refine G_callC hsz hR hC (fun n hs => ⟨fun v hv => xnos_ok _ hno (fun v hv => hs v (List.mem_of_mem_take hv)) v (by simpa using hv), fun v hv => hs v (List.mem_of_mem_drop hv)⟩) hg hst' (fun n ad H locs lsA k1 k2 mc ms Qc h3 hs hw hS hsA hM hc1 hc2 => ?_)
  have hgi : cS sc n (xr g i) := by rw [← hrc]; exact hs _ (xget_mem st k0 hk0)
  have ha : al n g i := cS_al hgi (by omega) (by omega)
  have hmap : (((st.take (k0 + 1)).reverse).map (tv ad)).toArray = (Value.ref (ad g i) :: ((st.take k0).reverse).map (tv ad)).toArray := by
    rw [has0, List.map_cons, tv_ref h3 ha]
  have hPre := pre_of (as := (st.take (k0 + 1)).reverse) hsz hK hN hw hS
  rw [hmap] at hPre ⊢
  obtain ⟨⟨c1, c14⟩, c2, c3, c4, c5, c6⟩ := hcl
  have hstk : st.map (tv ad) = (((st.take k0).reverse).map (tv ad)).reverse ++ Value.ref (ad g i) :: (st.drop (k0 + 1)).map (tv ad) := by
    conv => lhs; rw [hsplit]
    rw [List.map_append, List.map_cons, tv_ref h3 ha, List.map_reverse, List.reverse_reverse]
  have hlen : (((st.take k0).reverse).map (tv ad)).length = npar (mY m') := by
    rw [hnp]
    simp only [List.length_map, List.length_reverse, List.length_take]
    omega
  obtain ⟨q, hq, e9⟩ := ha
  have he := wof_get (md := md) (V := V) (ad := ad) (dA := dA) hq e9
  rw [ce_obj hgk, show WW.1 g - 10 = mK m' by omega] at he
  have hrv := va_recv hK hw.1 (vcl_get hci.1) he
  rw [show (vcl (mK m')).1 = (mY m').cls by rw [cls_eq c1]; exact (List.map_inj_left.mp sC2 (mK m') (List.mem_range.mpr hci.1)).symm] at hrv
  exact va_runV (C := (mY m').cls) (bytes := mC m') (maxL := XML m') (ret := mR m') (n := npar (mY m')) ⟨hx, hb, hml, hown, hts⟩ hM ⟨⟨rfl, rfl, by show d + 1 ≤ R.frames; omega, by show 8 + (XML m' + 11) + 60 * d ≤ R.locals; omega, ws_pay c1 hts, List.mem_cons_self, hts _ (code_TW c1), hts _ c3, c4, c6, hts _ hl⟩, hts _ hi, hts _ hse⟩ ⟨XPre_blind _ _ _ _ _ _ _ _, hrv, hPre⟩ rfl hlen hsA hstk (lv_room (by rw [xsum_eq]; exact hrest)) hd ⟨hc1, hc2⟩
theorem G_init {d m' idx k0 g i : Nat} {r1 : XS} {V1 : XM} {st' : List XS} (hx : p.tables.exec = Jvm.exec) (hb : c.code = mC m) (hml : c.maxLocals = XML m) (hown : s.vm.findClass (cN (mK m)) = some mi.cls) (hts : ∀ w ∈ TW, w.before args s = true) (hN : NWs s) (hK : va_K D vwCl (tysA dA) s) (hsz : z ≤ s.heap.size) (hR : nF md n0 Vf - n0 ≤ R.cells ∧ Sl (nF md n0 Vf) - Sl n0 ≤ R.slots) (hRf : d + 1 ≤ R.frames ∧ 60 * d + 60 ≤ R.locals) (hcl : ClOk m') (hk0 : k0 < st.length) (hrc : xget st k0 = xr g i) (hnp : npar (mY m') = k0) (hno : xnos (st.take (k0 + 1)) = true) (hrest : xsum (st.drop (k0 + 1)) ≤ 8) (hg : Good p l e R s mi args below meth c Q D dA z sc md b m n0 ad0 r Vf V0 (pc + 3) ls st' V1) (hst' : st' = match mR m' with | none => st.drop (k0 + 1) | some _ => r1 :: st.drop (k0 + 1)) (hC : Ctr l D dA z md d m' ((st.take (k0 + 1)).reverse) V r1 V1) (hkg : 10 ≤ WW.1 g) (hl : Cond.methodLink (cN (mK m)) idx (mY m') ∈ TW) (hi : Cond.instanceMethod (mY m') ∈ TW) (hnm : (mY m').name = "<init>") (hrt : mR m' = none) (hd : decode (mC m) pc = .ok (.invokespecial idx, 3)) : Good p l e R s mi args below meth c Q D dA z sc md b m n0 ad0 r Vf V0 pc ls st V := by
  have hsplit := take_rev hk0 hrc
  have has0 : (st.take (k0 + 1)).reverse = xr g i :: (st.take k0).reverse := by
    have : st.take (k0 + 1) = st.take k0 ++ [xr g i] := by
      conv => lhs; rw [hsplit]
      rw [List.take_append]
      simp [Nat.min_eq_left (Nat.le_of_lt hk0)]
      rw [List.take_take, Nat.min_eq_right (Nat.le_succ k0)]
    rw [this]
    simp
  have hgk : 10 ≤ WW.1 g := by omega
  refine G_callC hsz hR hC (fun n hs => ⟨fun v hv => xnos_ok _ hno (fun v hv => hs v (List.mem_of_mem_take hv)) v (by simpa using hv), fun v hv => hs v (List.mem_of_mem_drop hv)⟩) hg hst' (fun n ad H locs lsA k1 k2 mc ms Qc h3 hs hw hS hsA hM hc1 hc2 => ?_)
  have hgi : cS sc n (xr g i) := by rw [← hrc]; exact hs _ (xget_mem st k0 hk0)
  have ha : al n g i := cS_al hgi (by omega) (by omega)
  have hmap : (((st.take (k0 + 1)).reverse).map (tv ad)).toArray = (Value.ref (ad g i) :: ((st.take k0).reverse).map (tv ad)).toArray := by
    rw [has0, List.map_cons, tv_ref h3 ha]
  have hPre := pre_of (as := (st.take (k0 + 1)).reverse) hsz hK hN hw hS
  rw [hmap] at hPre ⊢
  obtain ⟨⟨c1, c14⟩, c2, c3, c4, c5, c6⟩ := hcl
  have hstk : st.map (tv ad) = (((st.take k0).reverse).map (tv ad)).reverse ++ Value.ref (ad g i) :: (st.drop (k0 + 1)).map (tv ad) := by
    conv => lhs; rw [hsplit]
    rw [List.map_append, List.map_cons, tv_ref h3 ha, List.map_reverse, List.reverse_reverse]
  have hlen : (((st.take k0).reverse).map (tv ad)).length = npar (mY m') := by
    rw [hnp]
    simp only [List.length_map, List.length_reverse, List.length_take]
    omega
  obtain ⟨q, hq, e9⟩ := ha
  have hcd := code_TW c1
  rw [hrt] at hcd
  have hw1 : Cond.code (mY m') (mC m') (XML m') none ∈ wsM m' := by unfold wsM; rw [hrt]; exact List.mem_cons_self
  exact va_runI (bytes := mC m') (maxL := XML m') (n := npar (mY m')) ⟨hx, hb, hml, hown, hts⟩ hM ⟨⟨rfl, rfl, by show d + 1 ≤ R.frames; omega, by show 8 + (XML m' + 11) + 60 * d ≤ R.locals; omega, ws_pay c1 hts, hw1, hts _ hcd, hts _ c3, c4, c6, hts _ hl⟩, hnm, hts _ hi⟩ ⟨XPre_blind _ _ _ _ _ _ _ _, hPre⟩ rfl hlen hsA hstk (lv_room (by rw [xsum_eq]; exact hrest)) hd ⟨hc1, hc2⟩
theorem G_initN {d m' idx k0 g i : Nat} {r1 : XS} {V1 : XM} {st' : List XS} (hx : p.tables.exec = Jvm.exec) (hb : c.code = mC m) (hml : c.maxLocals = XML m) (hown : s.vm.findClass (cN (mK m)) = some mi.cls) (hts : ∀ w ∈ TW, w.before args s = true) (hN : NWs s) (hK : va_K D vwCl (tysA dA) s) (hsz : z ≤ s.heap.size) (hR : nF md n0 Vf - n0 ≤ R.cells ∧ Sl (nF md n0 Vf) - Sl n0 ≤ R.slots) (hRf : d + 1 ≤ R.frames ∧ 60 * d + 60 ≤ R.locals) (hcl : ClOk m') (hk0 : k0 < st.length) (hrc : xget st k0 = xr g i) (hnp : npar (mY m') = k0) (hno : xnos (st.take (k0 + 1)) = true) (hrest : xsum (st.drop (k0 + 1)) ≤ 8) (hg : Good p l e R s mi args below meth c Q D dA z sc md b m n0 ad0 r Vf V0 (pc + 3) ls st' V1) (hst' : st' = match mR m' with | none => st.drop (k0 + 1) | some _ => r1 :: st.drop (k0 + 1)) (hC : Ctr l D dA z md d m' ((st.take (k0 + 1)).reverse) V r1 V1) (hkg : 10 ≤ WW.1 g) (hl : Cond.methodLinkNest (cN (mK m)) idx (mY m') "WorldMake" ∈ lw_tbl) (hi : Cond.instanceMethod (mY m') ∈ TW) (hnm : (mY m').name = "<init>") (hrt : mR m' = none) (hd : decode (mC m) pc = .ok (.invokespecial idx, 3)) : Good p l e R s mi args below meth c Q D dA z sc md b m n0 ad0 r Vf V0 pc ls st V := by
  have hsplit := take_rev hk0 hrc
  have has0 : (st.take (k0 + 1)).reverse = xr g i :: (st.take k0).reverse := by
    have : st.take (k0 + 1) = st.take k0 ++ [xr g i] := by
      conv => lhs; rw [hsplit]
      rw [List.take_append]
      simp [Nat.min_eq_left (Nat.le_of_lt hk0)]
      rw [List.take_take, Nat.min_eq_right (Nat.le_succ k0)]
    rw [this]
    simp
  have hgk : 10 ≤ WW.1 g := by omega
  refine G_callC hsz hR hC (fun n hs => ⟨fun v hv => xnos_ok _ hno (fun v hv => hs v (List.mem_of_mem_take hv)) v (by simpa using hv), fun v hv => hs v (List.mem_of_mem_drop hv)⟩) hg hst' (fun n ad H locs lsA k1 k2 mc ms Qc h3 hs hw hS hsA hM hc1 hc2 => ?_)
  have hgi : cS sc n (xr g i) := by rw [← hrc]; exact hs _ (xget_mem st k0 hk0)
  have ha : al n g i := cS_al hgi (by omega) (by omega)
  have hmap : (((st.take (k0 + 1)).reverse).map (tv ad)).toArray = (Value.ref (ad g i) :: ((st.take k0).reverse).map (tv ad)).toArray := by
    rw [has0, List.map_cons, tv_ref h3 ha]
  have hPre := pre_of (as := (st.take (k0 + 1)).reverse) hsz hK hN hw hS
  rw [hmap] at hPre ⊢
  obtain ⟨⟨c1, c14⟩, c2, c3, c4, c5, c6⟩ := hcl
  have hstk : st.map (tv ad) = (((st.take k0).reverse).map (tv ad)).reverse ++ Value.ref (ad g i) :: (st.drop (k0 + 1)).map (tv ad) := by
    conv => lhs; rw [hsplit]
    rw [List.map_append, List.map_cons, tv_ref h3 ha, List.map_reverse, List.reverse_reverse]
  have hlen : (((st.take k0).reverse).map (tv ad)).length = npar (mY m') := by
    rw [hnp]
    simp only [List.length_map, List.length_reverse, List.length_take]
    omega
  obtain ⟨q, hq, e9⟩ := ha
  have hcd := code_TW c1
  rw [hrt] at hcd
  have hw1 : Cond.code (mY m') (mC m') (XML m') none ∈ wsM m' := by unfold wsM; rw [hrt]; exact List.mem_cons_self
  exact va_runIN (bytes := mC m') (maxL := XML m') (n := npar (mY m')) (host := "WorldMake") ⟨hx, hb, hml, hown, hts⟩ hM ⟨⟨⟨rfl, rfl, by show d + 1 ≤ R.frames; omega, by show 8 + (XML m' + 11) + 60 * d ≤ R.locals; omega, ws_pay c1 hts, hw1⟩, hts _ hcd, hts _ c3, c4, c6, va_Nw.use rfl (hN.1 _ hl rfl)⟩, hnm, hts _ hi⟩ ⟨XPre_blind _ _ _ _ _ _ _ _, hPre⟩ rfl hlen hsA hstk (lv_room (by rw [xsum_eq]; exact hrest)) hd ⟨hc1, hc2⟩
theorem G_stat {d m' idx k0 : Nat} {r1 : XS} {V1 : XM} {st' : List XS} (hx : p.tables.exec = Jvm.exec) (hb : c.code = mC m) (hml : c.maxLocals = XML m) (hown : s.vm.findClass (cN (mK m)) = some mi.cls) (hts : ∀ w ∈ TW, w.before args s = true) (hN : NWs s) (hK : va_K D vwCl (tysA dA) s) (hsz : z ≤ s.heap.size) (hR : nF md n0 Vf - n0 ≤ R.cells ∧ Sl (nF md n0 Vf) - Sl n0 ≤ R.slots) (hRf : d + 1 ≤ R.frames ∧ 60 * d + 60 ≤ R.locals) (hcl : ClOk m') (hk0 : k0 ≤ st.length) (hnp : npar (mY m') = k0) (hno : xnos (st.take k0) = true) (hrest : xsum (st.drop k0) ≤ 8) (hg : Good p l e R s mi args below meth c Q D dA z sc md b m n0 ad0 r Vf V0 (pc + 3) ls st' V1) (hst' : st' = match mR m' with | none => st.drop k0 | some _ => r1 :: st.drop k0) (hC : Ctr l D dA z md d m' ((st.take k0).reverse) V r1 V1) (hl : Cond.methodLink (cN (mK m)) idx (mY m') ∈ TW) (hi : Cond.static (mY m') ∈ TW) (hd : decode (mC m) pc = .ok (.invokestatic idx, 3)) : Good p l e R s mi args below meth c Q D dA z sc md b m n0 ad0 r Vf V0 pc ls st V := by
  refine G_callC hsz hR hC (fun n hs => ⟨fun v hv => xnos_ok _ hno (fun v hv => hs v (List.mem_of_mem_take hv)) v (by simpa using hv), fun v hv => hs v (List.mem_of_mem_drop hv)⟩) hg hst' (fun n ad H locs lsA k1 k2 mc ms Qc h3 hs hw hS hsA hM hc1 hc2 => ?_)
  have hPre := pre_of (as := (st.take k0).reverse) hsz hK hN hw hS
  obtain ⟨⟨c1, c14⟩, c2, c3, c4, c5, c6⟩ := hcl
  have hstk : st.map (tv ad) = (((st.take k0).reverse).map (tv ad)).reverse ++ (st.drop k0).map (tv ad) := by
    rw [List.map_reverse, List.reverse_reverse, ← List.map_append, List.take_append_drop]
  have hlen : (((st.take k0).reverse).map (tv ad)).length = npar (mY m') := by
    rw [hnp]
    simp only [List.length_map, List.length_reverse, List.length_take]
    omega
  exact va_runS (bytes := mC m') (maxL := XML m') (ret := mR m') (n := npar (mY m')) ⟨hx, hb, hml, hown, hts⟩ hM ⟨⟨rfl, rfl, by show d + 1 ≤ R.frames; omega, by show 8 + (XML m' + 11) + 60 * d ≤ R.locals; omega, ws_pay c1 hts, List.mem_cons_self, hts _ (code_TW c1), hts _ c3, c4, c6, hts _ hl⟩, hts _ hi⟩ ⟨XPre_blind _ _ _ _ _ _ _ _, hPre⟩ rfl hlen hsA hstk (lv_room (by rw [xsum_eq]; exact hrest)) hd ⟨hc1, hc2⟩
theorem G_statN {d m' idx k0 : Nat} {r1 : XS} {V1 : XM} {st' : List XS} (hx : p.tables.exec = Jvm.exec) (hb : c.code = mC m) (hml : c.maxLocals = XML m) (hown : s.vm.findClass (cN (mK m)) = some mi.cls) (hts : ∀ w ∈ TW, w.before args s = true) (hN : NWs s) (hK : va_K D vwCl (tysA dA) s) (hsz : z ≤ s.heap.size) (hR : nF md n0 Vf - n0 ≤ R.cells ∧ Sl (nF md n0 Vf) - Sl n0 ≤ R.slots) (hRf : d + 1 ≤ R.frames ∧ 60 * d + 60 ≤ R.locals) (hcl : ClOk m') (hk0 : k0 ≤ st.length) (hnp : npar (mY m') = k0) (hno : xnos (st.take k0) = true) (hrest : xsum (st.drop k0) ≤ 8) (hg : Good p l e R s mi args below meth c Q D dA z sc md b m n0 ad0 r Vf V0 (pc + 3) ls st' V1) (hst' : st' = match mR m' with | none => st.drop k0 | some _ => r1 :: st.drop k0) (hC : Ctr l D dA z md d m' ((st.take k0).reverse) V r1 V1) (hl : Cond.methodLinkNest (cN (mK m)) idx (mY m') "WorldMake" ∈ lw_tbl) (hi : Cond.static (mY m') ∈ TW) (hd : decode (mC m) pc = .ok (.invokestatic idx, 3)) : Good p l e R s mi args below meth c Q D dA z sc md b m n0 ad0 r Vf V0 pc ls st V := by
  refine G_callC hsz hR hC (fun n hs => ⟨fun v hv => xnos_ok _ hno (fun v hv => hs v (List.mem_of_mem_take hv)) v (by simpa using hv), fun v hv => hs v (List.mem_of_mem_drop hv)⟩) hg hst' (fun n ad H locs lsA k1 k2 mc ms Qc h3 hs hw hS hsA hM hc1 hc2 => ?_)
  have hPre := pre_of (as := (st.take k0).reverse) hsz hK hN hw hS
  obtain ⟨⟨c1, c14⟩, c2, c3, c4, c5, c6⟩ := hcl
  have hstk : st.map (tv ad) = (((st.take k0).reverse).map (tv ad)).reverse ++ (st.drop k0).map (tv ad) := by
    rw [List.map_reverse, List.reverse_reverse, ← List.map_append, List.take_append_drop]
  have hlen : (((st.take k0).reverse).map (tv ad)).length = npar (mY m') := by
    rw [hnp]
    simp only [List.length_map, List.length_reverse, List.length_take]
    omega
  exact va_runSN (bytes := mC m') (maxL := XML m') (ret := mR m') (n := npar (mY m')) (host := "WorldMake") ⟨hx, hb, hml, hown, hts⟩ hM ⟨⟨⟨rfl, rfl, by show d + 1 ≤ R.frames; omega, by show 8 + (XML m' + 11) + 60 * d ≤ R.locals; omega, ws_pay c1 hts, List.mem_cons_self⟩, hts _ (code_TW c1), hts _ c3, c4, c6, va_Nw.use rfl (hN.1 _ hl rfl)⟩, hts _ hi, trivial⟩ ⟨XPre_blind _ _ _ _ _ _ _ _, hPre⟩ rfl hlen hsA hstk (lv_room (by rw [xsum_eq]; exact hrest)) hd ⟨hc1, hc2⟩
theorem G_obj {g i idx : Nat} (hx : p.tables.exec = Jvm.exec) (hb : c.code = mC m) (hml : c.maxLocals = XML m) (hown : s.vm.findClass (cN (mK m)) = some mi.cls) (hts : ∀ w ∈ TW, w.before args s = true) (hRf : 1 ≤ R.frames ∧ 60 ≤ R.locals) (hl : Cond.methodLink (cN (mK m)) idx Lib.objectInit ∈ TW) (hrest : xsum st ≤ 8) (hd : decode (mC m) pc = .ok (.invokespecial idx, 3)) (hg : Good p l e R s mi args below meth c Q D dA z sc md b m n0 ad0 r Vf V0 (pc + 3) ls st V) : Good p l e R s mi args below meth c Q D dA z sc md b m n0 ad0 r Vf V0 pc ls (xr (g + 1) i :: st) V := by
  refine G_pure hg (fun n hl hs => (m1 hs).2) (fun n ad H locs lsA k1 k2 hl2 hs hh hlen k => ?_)
  show W p l e R s mi args below meth c H locs k1 k2 Q (F0 mi pc lsA (.ref (ad (g + 1) i) :: st.map (tv ad)))
  refine W.objInit (g := F0 mi pc lsA (.ref (ad (g + 1) i) :: st.map (tv ad))) hx hb hown (hts _ hl) (hts _ oi_1) (hts _ oi_2) rfl (by rw [hml]; exact hh.1) rfl hd hRf.1 ?_ k
  show 2 * 0 + _ + 12 ≤ _
  rw [xsum_eq]
  omega
theorem G_max {idx : Nat} {x y : Int} (hx : p.tables.exec = Jvm.exec) (hb : c.code = mC m) (hml : c.maxLocals = XML m) (hown : s.vm.findClass (cN (mK m)) = some mi.cls) (hts : ∀ w ∈ TW, w.before args s = true) (hRf : 1 ≤ R.frames ∧ 60 ≤ R.locals) (hrest : xsum st ≤ 8) (hl : Cond.methodLink (cN (mK m)) idx Lib.Math.max.name ∈ TW) (hd : decode (mC m) pc = .ok (.invokestatic idx, 3)) (hR : nF md n0 Vf - n0 ≤ R.cells ∧ Sl (nF md n0 Vf) - Sl n0 ≤ R.slots) (hg : Good p l e R s mi args below meth c Q D dA z sc md b m n0 ad0 r Vf V0 (pc + 3) ls (xi (if x < y then y else x) :: st) V) : Good p l e R s mi args below meth c Q D dA z sc md b m n0 ad0 r Vf V0 pc ls (xi y :: xi x :: st) V := by
  intro n h1 h2 h3 h4 h5 h6 h7 h8 h9
  have hy : c32 y := (m1 h7).1
  have hx1 : c32 x := (m1 (m1 h7).2).1
  have hmx : cS sc n (xi (if x < y then y else x)) := by
    show c32 _
    split
    · exact hy
    · exact hx1
  obtain ⟨a, bb⟩ := hg n h1 h2 h3 h4 h5 h6 (m2 hmx (m1 (m1 h7).2).2) h8 h9
  obtain ⟨a0, a1, a2, a3, a4, a5⟩ := id a
  have hnn : nF md n0 Vf = nF md n Vf := by
    cases md with
    | false => exact (h8 rfl).symm
    | true => rfl
  rw [hnn] at hR
  have s1 := Sl_mono a3
  refine ⟨a, fun ad H locs lsA q1 q2 q3 q4 q5 => ?_⟩
  have hr := bb ad H locs lsA q1 q2 q3 q4 q5
  refine va_mmax hx hb (by rw [hml]; exact q5.1.symm) hown (hts _ hl) (hts _ mx_1) (hts _ mx_2) (hts _ mx_3) hRf.1 (by rw [xsum_eq]; omega) (by omega) (by omega) hd ?_
  have e1 : (if Int32.ofInt x < Int32.ofInt y then Int32.ofInt y else Int32.ofInt x) = Int32.ofInt (if x < y then y else x) := by
    by_cases q : x < y
    · rw [if_pos q, if_pos ((n32_lt hx1 hy).mpr q)]
    · rw [if_neg q, if_neg (fun t => q ((n32_lt hx1 hy).mp t))]
  rw [e1]
  exact hr
end
end
section
/-! each entry of the tables: decoded so, and its numbers as the class files have them -/
def hasF (k idx r1 r2 r3 : Nat) : Bool := FT_l.any fun f => match f with
  | (k', a, b, c, d) => Nat.beq a idx && Nat.beq k' k && Nat.beq b r1 && Nat.beq c r2 && Nat.beq d r3
def hasM (L : List XC) (k idx : Nat) (c : Int) (r1 r2 r3 : Nat) : Bool := L.any fun f => match f with
  | (k', a, c', b1, b2, b3, _) => Nat.beq a idx && Nat.beq k' k && decide ((c' : Int) = c) && Nat.beq b1 r1 && Nat.beq b2 r2 && Nat.beq b3 r3
def hasO (L : List (Nat × Nat)) (k idx : Nat) : Bool := L.any fun f => Nat.beq f.2 idx && Nat.beq f.1 k
def hasK (k idx : Nat) (c : Int) : Bool := KT_l.any fun f => Nat.beq f.2.1 idx && Nat.beq f.1 k && decide (f.2.2 = c)
def hasN (k idx r1 : Nat) : Bool := NT_l.any fun f => Nat.beq f.2.1 idx && Nat.beq f.1 k && Nat.beq f.2.2 r1
def isX (r1 : Nat) (tg : List Nat) : Bool := match tg with
  | [mx] => Nat.beq mx (XML r1)
  | _ => false
def ckE (m : Nat) (e : XE) : Bool :=
  match e with
  | (pc, ins, len, c, r1, r2, r3, tg) =>
    match ins with
    | .iload k => Nat.beq k r1 && Nat.beq len 2
    | .lload k => Nat.beq k r1 && Nat.beq len 2
    | .aload k => Nat.beq k r1 && Nat.beq len 2
    | .istore k => Nat.beq k r1 && Nat.beq len 2 && Nat.blt r1 (XML m)
    | .lstore k => Nat.beq k r1 && Nat.beq len 2 && Nat.blt (r1 + 1) (XML m)
    | .astore k => Nat.beq k r1 && Nat.beq len 2 && Nat.blt r1 (XML m)
    | .iload_n k => Nat.beq k.val r1 && Nat.beq len 1
    | .lload_n k => Nat.beq k.val r1 && Nat.beq len 1
    | .aload_n k => Nat.beq k.val r1 && Nat.beq len 1
    | .istore_n k => Nat.beq k.val r1 && Nat.beq len 1 && Nat.blt r1 (XML m)
    | .lstore_n k => Nat.beq k.val r1 && Nat.beq len 1 && Nat.blt (r1 + 1) (XML m)
    | .astore_n k => Nat.beq k.val r1 && Nat.beq len 1 && Nat.blt r1 (XML m)
    | .iinc k n => Nat.beq k r1 && decide (n = c) && Nat.beq len 3 && Nat.blt r1 (XML m)
    | .iconst n => decide (n = c) && ck32 c && Nat.beq len 1
    | .bipush n => decide (n = c) && decide (-128 ≤ c) && decide (c < 128) && Nat.beq len 2
    | .sipush n => decide (n = c) && decide (-32768 ≤ c) && decide (c < 32768) && Nat.beq len 3
    | .lconst n => decide ((n.val : Int) = c) && Nat.beq len 1
    | .ldc2_w idx => hasK (mK m) idx c && Nat.beq len 3
    | .dconst n => Nat.beq n.val 0 && decide (c = 0) && Nat.beq len 1
    | .dup | .dup2 | .dup_x1 | .pop | .iadd | .isub | .imul | .idiv | .irem | .ineg | .iand | .ior | .ixor | .ladd | .lsub | .lmul | .ldiv | .land | .lor | .lxor | .lshl | .lushr | .lcmp | .i2l | .l2i | .i2b | .i2s | .i2c | .l2f | .l2d | .f2l | .d2l | .f2d | .dcmp _ | .iaload | .baload | .laload | .daload | .iastore | .bastore | .lastore | .dastore | .arraylength => Nat.beq len 1
    | .getfield idx => hasF (mK m) idx r1 r2 r3 && Nat.beq len 3
    | .putfield idx => hasF (mK m) idx r1 r2 r3 && Nat.beq len 3 && (!((vcl (r1 - 10)).2.1 r2).2.2.2 || (mN m && Nat.beq (r1 - 10) (mK m)))
    | .aaload => (Nat.beq r1 5 || Nat.beq r1 6) && Nat.beq len 1
    | .aastore => ((Nat.beq r1 5 && Nat.beq r2 16) || (Nat.beq r1 6 && Nat.beq r2 17)) && Nat.beq len 1
    | .new idx => hasN (mK m) idx r1 && Nat.beq len 3
    | .newarray .int => Nat.beq r1 1 && Nat.beq len 2
    | .newarray .long => Nat.beq r1 2 && Nat.beq len 2
    | .newarray .boolean => Nat.beq r1 3 && Nat.beq len 2
    | .newarray .double => Nat.beq r1 4 && Nat.beq len 2
    | .anewarray idx => ((Nat.beq r1 5 && hasN (mK m) idx 16) || (Nat.beq r1 6 && hasN (mK m) idx 17)) && Nat.beq len 3
    | .invokevirtual idx => hasM MT0_l (mK m) idx c r1 r2 r3 && Nat.beq len 3 && isX r1 tg
    | .invokespecial idx => ((hasO MT3_l (mK m) idx && Nat.beq r3 9 && Nat.beq r2 1 && decide (c = 0)) || (hasM MT1_l (mK m) idx c r1 r2 r3 && isX r1 tg)) && Nat.beq len 3
    | .invokestatic idx => ((hasM MT2_l (mK m) idx c r1 r2 r3 && isX r1 tg) || (hasO MT4_l (mK m) idx && Nat.beq r3 8 && Nat.beq r2 2 && decide (c = 0))) && Nat.beq len 3
    | .ireturn => ((Nat.beq r1 0 && decide (mR m = some .int)) || (Nat.beq r1 1 && decide (mR m = some .boolean))) && Nat.beq len 1
    | .lreturn => decide (mR m = some .long) && Nat.beq len 1
    | .areturn => Nat.beq (rtag (mR m)) 2 && Nat.beq len 1
    | .return_ => decide (mR m = none) && Nat.beq len 1
    | .goto off => decide ((pc : Int) + off = (r1 : Int)) && Nat.beq len 3
    | .ifCond _ off => decide ((pc : Int) + off = (r1 : Int)) && Nat.beq len 3
    | .if_icmp _ off => decide ((pc : Int) + off = (r1 : Int)) && Nat.beq len 3
    | .tableswitch d lo hi offs => decide (lo = c) && ck32 lo && decide ((pc : Int) + d = (r1 : Int)) && decide ((tg.length : Int) = hi - lo + 1) && decide (offs.toList.map (fun o => (pc : Int) + o) = tg.map (fun (t : Nat) => (t : Int)))
    | _ => false
def ckD (m : Nat) (e : XE) : Bool := match decode (mC m) e.1 with
  | .ok (i, l) => decide (i = e.2.1) && Nat.beq l e.2.2.1
  | _ => false
def ckC (m : Nat) : Nat → List XE → Nat → Bool
  | pc, [], nx => Nat.beq pc nx
  | pc, e :: es, nx => Nat.beq e.1 pc && ckD m e && ckE m e && ckC m (pc + e.2.2.1) es nx
def ckB (m : Nat) (b : XB) : Bool := ckC m b.1 b.2.2.1 b.2.2.2 && Nat.beq b.2.1.length (XML m)
def ckM (m : Nat) : Bool := (XP m).all (ckB m)
end
section
/-! soundness: one instruction -/
theorem ckD_ok {m : Nat} {en : XE} (h : ckD m en = true) : decode (mC m) en.1 = .ok (en.2.1, en.2.2.1) := by
  unfold ckD at h
  split at h
  · rename_i i l hd
    simp only [Bool.and_eq_true, decide_eq_true_eq] at h
    rw [hd, h.1, Nat.eq_of_beq_eq_true h.2]
  · cases h
theorem bq {a b : Nat} (h : Nat.beq a b = true) : a = b := Nat.eq_of_beq_eq_true h
theorem hasF_ok {k idx r1 r2 r3 : Nat} (h : hasF k idx r1 r2 r3 = true) : FldOk k idx r1 r2 r3 := by
  unfold hasF at h
  obtain ⟨f, hf, h2⟩ := List.any_eq_true.mp h
  obtain ⟨a, b, c, d, e⟩ := f
  simp only [Bool.and_eq_true] at h2
  obtain ⟨⟨⟨⟨q1, q2⟩, q3⟩, q4⟩, q5⟩ := h2
  have := fld_ok hf
  rw [bq q1, bq q2, bq q3, bq q4, bq q5] at this
  exact this
/-- an entry of a call's table -/
theorem hasM_ok {L : List XC} {k idx r1 r2 r3 : Nat} {c : Int} (h : hasM L k idx c r1 r2 r3 = true) : ∃ f ∈ L, f.1 = k ∧ f.2.1 = idx ∧ ((f.2.2.1 : Nat) : Int) = c ∧ f.2.2.2.1 = r1 ∧ f.2.2.2.2.1 = r2 ∧ f.2.2.2.2.2.1 = r3 := by
  unfold hasM at h
  obtain ⟨f, hf, h2⟩ := List.any_eq_true.mp h
  refine ⟨f, hf, ?_⟩
  obtain ⟨a, b, c, d, e, g, i⟩ := f
  simp only [Bool.and_eq_true, decide_eq_true_eq] at h2
  obtain ⟨⟨⟨⟨⟨q1, q2⟩, q3⟩, q4⟩, q5⟩, q6⟩ := h2
  exact ⟨bq q2, bq q1, q3, bq q4, bq q5, bq q6⟩
theorem vOk {f : XC} (hf : f ∈ MT0_l) : ClOk f.2.2.2.1 ∧ npar (mY f.2.2.2.1) + 1 = f.2.2.2.2.1 ∧ rtag (mR f.2.2.2.1) = f.2.2.2.2.2.1 ∧ mK f.2.2.2.1 < 13 ∧ f.2.2.1 = mK f.2.2.2.1 + 10 ∧ Cond.methodLink (cN f.1) f.2.1 (mY f.2.2.2.1) ∈ TW ∧ Cond.instanceMethod (mY f.2.2.2.1) ∈ TW ∧ Cond.selects (mY f.2.2.2.1).cls (mY f.2.2.2.1) (mY f.2.2.2.1) ∈ TW := by
  have h1 := List.all_eq_true.mp sM05 f hf
  unfold okV at h1
  simp only [Bool.and_eq_true] at h1
  obtain ⟨⟨⟨⟨⟨⟨⟨a1, a2⟩, a3⟩, a4⟩, a5⟩, a6⟩, a7⟩, a8⟩ := h1
  have a1 : f.2.2.2.1 < 310 := Nat.le_of_ble_eq_true a1
  have a2 : mK f.2.2.2.1 < 14 := Nat.le_of_ble_eq_true a2
  have a6 := Nat.le_of_ble_eq_true a6
  have a7 : f.2.2.1 - 10 < 13 := Nat.le_of_ble_eq_true a7
  have a8 := bq a8
  have h2 := sI7
  simp only [Bool.and_eq_true] at h2
  have h3 := List.all_eq_true.mp h2.1.1 f hf
  simp only [Bool.and_eq_true] at h3
  have h4 := wpick_map sM01 hf
  unfold wL at h4
  rw [bq a5] at h4
  exact ⟨cl_ok a1 a2, bq a3, bq a4, by omega, by omega, TW_of h4 (gw_ml _ _ _), TW_of (wpick_map sI4 (mem_all h3.1)) (gw_im _), TW_of (wpick_map sI6 (mem_all h3.2)) (gw_se _ _ _)⟩
theorem sOk {f : XC} (hf : f ∈ MT1_l) : ClOk f.2.2.2.1 ∧ npar (mY f.2.2.2.1) + 1 = f.2.2.2.2.1 ∧ mR f.2.2.2.1 = none ∧ f.2.2.2.2.2.1 = 3 ∧ 10 ≤ f.2.2.1 ∧ Cond.instanceMethod (mY f.2.2.2.1) ∈ TW ∧ (mY f.2.2.2.1).name = "<init>" ∧ (Cond.methodLink (cN f.1) f.2.1 (mY f.2.2.2.1) ∈ TW ∨ Cond.methodLinkNest (cN f.1) f.2.1 (mY f.2.2.2.1) "WorldMake" ∈ lw_tbl) := by
  have h1 := List.all_eq_true.mp sM15 f hf
  unfold okS at h1
  simp only [Bool.and_eq_true] at h1
  obtain ⟨⟨⟨⟨⟨⟨a1, a2⟩, a3⟩, a4⟩, a5⟩, a6⟩, a7⟩ := h1
  have a1 : f.2.2.2.1 < 310 := Nat.le_of_ble_eq_true a1
  have a2 : mK f.2.2.2.1 < 14 := Nat.le_of_ble_eq_true a2
  have h2 := sI7
  simp only [Bool.and_eq_true] at h2
  have h3 := List.all_eq_true.mp h2.1.2 f hf
  have h4 := wpick_map sM11 hf
  have h5 := List.map_inj_left.mp sM16 f hf
  refine ⟨cl_ok a1 a2, bq a3, by simpa using a4, bq a5, Nat.le_of_ble_eq_true a6, TW_of (wpick_map sI4 (mem_all h3)) (gw_im _), h5, ?_⟩
  unfold wL at h4
  split at h4
  · exact Or.inl (TW_of h4 (gw_ml _ _ _))
  · exact Or.inr h4
theorem tOk {f : XC} (hf : f ∈ MT2_l) : ClOk f.2.2.2.1 ∧ npar (mY f.2.2.2.1) = f.2.2.2.2.1 ∧ rtag (mR f.2.2.2.1) = f.2.2.2.2.2.1 ∧ Cond.static (mY f.2.2.2.1) ∈ TW ∧ (Cond.methodLink (cN f.1) f.2.1 (mY f.2.2.2.1) ∈ TW ∨ Cond.methodLinkNest (cN f.1) f.2.1 (mY f.2.2.2.1) "WorldMake" ∈ lw_tbl) := by
  have h1 := List.all_eq_true.mp sM25 f hf
  unfold okT at h1
  simp only [Bool.and_eq_true] at h1
  obtain ⟨⟨⟨⟨a1, a2⟩, a3⟩, a4⟩, a5⟩ := h1
  have a1 : f.2.2.2.1 < 310 := Nat.le_of_ble_eq_true a1
  have a2 : mK f.2.2.2.1 < 14 := Nat.le_of_ble_eq_true a2
  have h2 := sI7
  simp only [Bool.and_eq_true] at h2
  have h3 := List.all_eq_true.mp (of_decide_eq_true h2.2) f hf
  have h4 := wpick_map sM21 hf
  refine ⟨cl_ok a1 a2, bq a3, bq a4, TW_of (wpick_map sI5 (mem_all h3)) (gw_st _), ?_⟩
  unfold wL at h4
  split at h4
  · exact Or.inl (TW_of h4 (gw_ml _ _ _))
  · exact Or.inr h4
theorem cK_hasK {k idx : Nat} {c : Int} (h : hasK k idx c = true) : Cond.constantLong (cN k) idx (Int64.ofInt c) ∈ TW ∧ c64 c := by
  unfold hasK at h
  obtain ⟨f, hf, h2⟩ := List.any_eq_true.mp h
  simp only [Bool.and_eq_true, decide_eq_true_eq] at h2
  obtain ⟨⟨q1, q2⟩, q3⟩ := h2
  have h3 := wpick_map sK1 hf
  have h4 := List.all_eq_true.mp sK2 f hf
  unfold ck64 at h4
  simp only [Bool.and_eq_true, decide_eq_true_eq] at h4
  rw [bq q1, bq q2, q3] at h3
  rw [q3] at h4
  exact ⟨TW_of h3 (gw_kl _ _ _), h4⟩
theorem hasN_ok {k idx r1 : Nat} (h : hasN k idx r1 = true) : (10 ≤ r1 ∧ r1 - 10 < 13) ∧ Cond.classLink (cN k) idx (vcl (r1 - 10)).1 ∈ TW ∧ Cond.instantiable (vcl (r1 - 10)).1 (vcl (r1 - 10)).2.2 ∈ TW ∧ Cond.initialized (vcl (r1 - 10)).1 ∈ TW := by
  unfold hasN at h
  obtain ⟨f, hf, h2⟩ := List.any_eq_true.mp h
  simp only [Bool.and_eq_true] at h2
  obtain ⟨⟨q1, q2⟩, q3⟩ := h2
  have h3 := wpick_map sN1 hf
  have h4 := List.all_eq_true.mp sN4 f hf
  simp only [Bool.and_eq_true] at h4
  rw [bq q1, bq q2, bq q3] at h3
  rw [bq q3] at h4
  have a1 := Nat.le_of_ble_eq_true h4.1
  have a2 : r1 - 10 < 13 := Nat.le_of_ble_eq_true h4.2
  have hc := List.all_eq_true.mp sC1 (r1 - 10) (List.mem_range.mpr (by omega))
  simp only [Bool.and_eq_true] at hc
  have h5 := wpick_map sN3 (mem_all hc.2)
  have e := List.map_inj_left.mp sC2 (r1 - 10) (List.mem_range.mpr a2)
  try dsimp only at h5 e
  rw [e] at h5
  have h6 : Cond.instantiable (vcl (r1 - 10)).1 (vcl (r1 - 10)).2.2 ∈ lw_tbl := wpick_map sN2 (a := r1 - 10) ((by decide : ∀ i, i < 13 → i ∈ ([11, 0, 8, 9, 4, 1, 5, 10, 2, 3, 6, 7, 12] : List Nat)) _ a2)
  exact ⟨⟨a1, a2⟩, TW_of h3 (gw_cl _ _ _), TW_of h6 (gw_it _ _), TW_of h5 (gw_in _)⟩
theorem xmx_ok {tg : List Nat} {k r1 : Nat} (h : xmx tg k = true) (h2 : isX r1 tg = true) : k ≤ XML r1 := by
  unfold isX at h2
  split at h2
  · rw [← bq h2]
    exact Nat.le_of_ble_eq_true h
  · cases h2
theorem xsum_app : ∀ (a b : List XS), xsum (a ++ b) = xsum a + xsum b := by
  intro a b
  induction a with
  | nil => simp [xsum]
  | cons v a ih => simp only [List.cons_append, xsum, ih]; omega
theorem xsum_rev (l : List XS) : xsum l.reverse = xsum l := by
  induction l with
  | nil => rfl
  | cons v l ih => rw [List.reverse_cons, xsum_app, ih]; simp only [xsum]; omega
theorem r3_s : (MT0_l.all fun f => Nat.ble f.2.2.2.2.2.1 3) = true ∧ (MT2_l.all fun f => Nat.ble f.2.2.2.2.2.1 3) = true := by decide +kernel
theorem r3_v {f : XC} (hf : f ∈ MT0_l) : f.2.2.2.2.2.1 ≤ 3 := Nat.le_of_ble_eq_true (List.all_eq_true.mp r3_s.1 f hf)
theorem r3_t {f : XC} (hf : f ∈ MT2_l) : f.2.2.2.2.2.1 ≤ 3 := Nat.le_of_ble_eq_true (List.all_eq_true.mp r3_s.2 f hf)
theorem rt_3 {rt : Option FieldType} (h : rtag rt = 3) : rt = none := by
  cases rt with
  | none => rfl
  | some t => cases t <;> cases h
theorem rt_n {rt : Option FieldType} {k : Nat} (h : rtag rt = k) (hk : k < 3) : ∃ ty, rt = some ty := by
  cases rt with
  | none => subst h; exact absurd hk (by decide)
  | some t => exact ⟨t, rfl⟩
theorem xrk_ok {st : List XS} {r2 rk : Nat} (h : xrk WW st r2 rk = true) (hrk : 10 ≤ rk) : ∃ k0 g i, r2 = k0 + 1 ∧ xget st k0 = xr g i ∧ WW.1 g = rk := by
  cases rk with
  | zero => omega
  | succ k =>
    cases r2 with
    | zero => cases h
    | succ j =>
      simp only [xrk] at h
      split at h
      · rename_i g i hv
        exact ⟨j, g, i, rfl, hv, bq h⟩
      · cases h
theorem hasO_ok {k idx : Nat} (h : hasO MT3_l k idx = true) : Cond.methodLink (cN k) idx Lib.objectInit ∈ TW := by
  unfold hasO at h
  obtain ⟨f, hf, h2⟩ := List.any_eq_true.mp h
  simp only [Bool.and_eq_true] at h2
  have h3 := wpick_map sO1 hf
  rw [bq h2.1, bq h2.2] at h3
  exact TW_of h3 (gw_ml _ _ _)
theorem hasX_ok {k idx : Nat} (h : hasO MT4_l k idx = true) : Cond.methodLink (cN k) idx Lib.Math.max.name ∈ TW := by
  unfold hasO at h
  obtain ⟨f, hf, h2⟩ := List.any_eq_true.mp h
  simp only [Bool.and_eq_true] at h2
  have h3 := wpick_map sX1 hf
  rw [bq h2.1, bq h2.2] at h3
  exact TW_of h3 (gw_ml _ _ _)
section
variable {p : Program} {l : Launch} {e : Env} {R : Room} {s : State} {mi : MethodId} {args : Array Value} {below : List Frame} {meth : Method} {c : Code} {Q : State → Prop} {D : va_G} {dA : Nat → ClassId} {z : Nat} {sc md : Bool} {b m n0 : Nat} {ad0 : Nat → Nat → Nat} {r : XS} {Vf V0 : XM} {pc : Nat} {ls st : List XS} {V : XM} {d : Nat} {F : Nat → List XS → List XS → XM → XR} {C : Nat → List XS → XM → XR} {K : List XS → List XS → XM → XR}

set_option maxHeartbeats 4000000 in
theorem xone_sound (hcx : Cx p D dA z sc b V0 s mi args meth c m) (hm : m < 311) (hR : nF md n0 Vf - n0 ≤ R.cells ∧ Sl (nF md n0 Vf) - Sl n0 ≤ R.slots) (hRf : d + 1 ≤ R.frames ∧ 60 * d + 60 ≤ R.locals) (hend : Hend p l e R s mi args below meth c Q D dA z sc md m n0 ad0 r Vf) {en : XE} (hck : ckD m en = true) (hce : ckE m en = true) (hF : ∀ t ls st V, F t ls st V = some (r, Vf) → Good p l e R s mi args below meth c Q D dA z sc md b m n0 ad0 r Vf V0 t ls st V) (hK : ∀ ls st V, K ls st V = some (r, Vf) → Good p l e R s mi args below meth c Q D dA z sc md b m n0 ad0 r Vf V0 (en.1 + en.2.2.1) ls st V) (hC : ∀ m' as V r1 V1, ClOk m' → xsum as ≤ XML m' → C m' as V = some (r1, V1) → Ctr l D dA z md d m' as V r1 V1) (h : xone WW md F C K en ls st V = some (r, Vf)) : Good p l e R s mi args below meth c Q D dA z sc md b m n0 ad0 r Vf V0 en.1 ls st V := by
  obtain ⟨hx, hb, hr, hml, hown, hts, hN, hKK, hlocks, hin, hsz, hsc⟩ := hcx
  have hd := ckD_ok hck
  obtain ⟨pc, ins, len, c0, r1, r2, r3, tg⟩ := en
  simp only [xone] at h
  dsimp only at hd hK ⊢
  cases ins
  case iadd =>
    have hl : len = 1 := bq hce
    subst hl
    simp only [xins, o_i2] at h
    split at h
    · exact G_iadd hx hb hd (hK _ _ _ h)
    · cases h
  case isub =>
    have hl : len = 1 := bq hce
    subst hl
    simp only [xins, o_i2] at h
    split at h
    · exact G_isub hx hb hd (hK _ _ _ h)
    · cases h
  case imul =>
    have hl : len = 1 := bq hce
    subst hl
    simp only [xins, o_i2] at h
    split at h
    · exact G_imul hx hb hd (hK _ _ _ h)
    · cases h
  case iand =>
    have hl : len = 1 := bq hce
    subst hl
    simp only [xins, o_i2] at h
    split at h
    · exact G_iand hx hb hd (hK _ _ _ h)
    · cases h
  case ior =>
    have hl : len = 1 := bq hce
    subst hl
    simp only [xins, o_i2] at h
    split at h
    · exact G_ior hx hb hd (hK _ _ _ h)
    · cases h
  case ixor =>
    have hl : len = 1 := bq hce
    subst hl
    simp only [xins, o_i2] at h
    split at h
    · exact G_ixor hx hb hd (hK _ _ _ h)
    · cases h
  case ladd =>
    have hl : len = 1 := bq hce
    subst hl
    simp only [xins, o_l2] at h
    split at h
    · exact G_ladd hx hb hd (hK _ _ _ h)
    · cases h
  case lsub =>
    have hl : len = 1 := bq hce
    subst hl
    simp only [xins, o_l2] at h
    split at h
    · exact G_lsub hx hb hd (hK _ _ _ h)
    · cases h
  case lmul =>
    have hl : len = 1 := bq hce
    subst hl
    simp only [xins, o_l2] at h
    split at h
    · exact G_lmul hx hb hd (hK _ _ _ h)
    · cases h
  case land =>
    have hl : len = 1 := bq hce
    subst hl
    simp only [xins, o_l2] at h
    split at h
    · exact G_land hx hb hd (hK _ _ _ h)
    · cases h
  case lor =>
    have hl : len = 1 := bq hce
    subst hl
    simp only [xins, o_l2] at h
    split at h
    · exact G_lor hx hb hd (hK _ _ _ h)
    · cases h
  case lxor =>
    have hl : len = 1 := bq hce
    subst hl
    simp only [xins, o_l2] at h
    split at h
    · exact G_lxor hx hb hd (hK _ _ _ h)
    · cases h
  case ineg =>
    have hl : len = 1 := bq hce
    subst hl
    simp only [xins, o_i1] at h
    split at h
    · exact G_ineg hx hb hd (hK _ _ _ h)
    · cases h
  case i2b =>
    have hl : len = 1 := bq hce
    subst hl
    simp only [xins, o_i1] at h
    split at h
    · exact G_i2b hx hb hd (hK _ _ _ h)
    · cases h
  case i2s =>
    have hl : len = 1 := bq hce
    subst hl
    simp only [xins, o_i1] at h
    split at h
    · exact G_i2s hx hb hd (hK _ _ _ h)
    · cases h
  case i2c =>
    have hl : len = 1 := bq hce
    subst hl
    simp only [xins, o_i1] at h
    split at h
    · exact G_i2c hx hb hd (hK _ _ _ h)
    · cases h
  case lshl =>
    have hl : len = 1 := bq hce
    subst hl
    simp only [xins, o_lsh] at h
    split at h
    · exact G_lshl hx hb hd (hK _ _ _ h)
    · cases h
  case lushr =>
    have hl : len = 1 := bq hce
    subst hl
    simp only [xins, o_lsh] at h
    split at h
    · exact G_lushr hx hb hd (hK _ _ _ h)
    · cases h
  case lcmp =>
    have hl : len = 1 := bq hce
    subst hl
    simp only [xins, o_lcmp] at h
    split at h
    · exact G_lcmp hx hb hd (hK _ _ _ h)
    · cases h
  case i2l =>
    have hl : len = 1 := bq hce
    subst hl
    simp only [xins, o_i2l] at h
    split at h
    · exact G_i2l hx hb hd (hK _ _ _ h)
    · cases h
  case l2i =>
    have hl : len = 1 := bq hce
    subst hl
    simp only [xins, o_l2i] at h
    split at h
    · exact G_l2i hx hb hd (hK _ _ _ h)
    · cases h
  case l2f =>
    have hl : len = 1 := bq hce
    subst hl
    simp only [xins, o_l2f] at h
    split at h
    · exact G_l2f hx hb hd (hK _ _ _ h)
    · cases h
  case l2d =>
    have hl : len = 1 := bq hce
    subst hl
    simp only [xins, o_l2d] at h
    split at h
    · exact G_l2d hx hb hd (hK _ _ _ h)
    · cases h
  case f2l =>
    have hl : len = 1 := bq hce
    subst hl
    simp only [xins, o_f2l] at h
    split at h
    · exact G_f2l hx hb hd (hK _ _ _ h)
    · cases h
  case d2l =>
    have hl : len = 1 := bq hce
    subst hl
    simp only [xins, o_d2l] at h
    split at h
    · exact G_d2l hx hb hd (hK _ _ _ h)
    · cases h
  case pop =>
    have hl : len = 1 := bq hce
    subst hl
    simp only [xins, o_pop] at h
    split at h
    · exact G_pop hx hb hd (hK _ _ _ h)
    · cases h
  case dup2 =>
    have hl : len = 1 := bq hce
    subst hl
    simp only [xins, o_dup2] at h
    split at h
    · exact G_dup2 hx hb hd (hK _ _ _ h)
    · cases h
  case dup_x1 =>
    have hl : len = 1 := bq hce
    subst hl
    simp only [xins, o_dupx] at h
    split at h
    · exact G_dup_x1 hx hb hd (hK _ _ _ h)
    · cases h
  case dcmp op =>
    have hl : len = 1 := bq hce
    subst hl
    simp only [xins, o_dcmp] at h
    split at h
    · exact G_dcmp hx hb hd (hK _ _ _ h)
    · cases h
  case idiv =>
    have hl : len = 1 := bq hce
    subst hl
    simp only [xins, o_div] at h
    split at h
    · split at h
      · cases h
      · rename_i hy
        exact G_idiv hx hb hy hd (hK _ _ _ h)
    · cases h
  case irem =>
    have hl : len = 1 := bq hce
    subst hl
    simp only [xins, o_div] at h
    split at h
    · split at h
      · cases h
      · rename_i hy
        exact G_irem hx hb hy hd (hK _ _ _ h)
    · cases h
  case ldiv =>
    have hl : len = 1 := bq hce
    subst hl
    simp only [xins, o_ldiv] at h
    split at h
    · split at h
      · cases h
      · rename_i hy
        exact G_ldiv hx hb hy hd (hK _ _ _ h)
    · cases h
  case f2d =>
    have hl : len = 1 := bq hce
    subst hl
    simp only [xins, o_f2d] at h
    split at h
    · split at h
      · rename_i hn
        exact G_f2d hx hb hn hd (hK _ _ _ h)
      · cases h
    · cases h
  case dup =>
    have hl : len = 1 := bq hce
    subst hl
    simp only [xins, o_dup] at h
    split at h
    · exact G_dup_i hx hb hd (hK _ _ _ h)
    · exact G_dup_r hx hb hd (hK _ _ _ h)
    · cases h
  case iconst k0 =>
    simp only [ckE, Bool.and_eq_true, decide_eq_true_eq] at hce
    obtain ⟨⟨q1, q2⟩, q3⟩ := hce
    have q3 := bq q3
    subst q3
    subst q1
    unfold ck32 at q2
    simp only [Bool.and_eq_true, decide_eq_true_eq] at q2
    exact G_iconst hx hb q2 hd (hK _ _ _ h)
  case bipush k0 =>
    simp only [ckE, Bool.and_eq_true, decide_eq_true_eq] at hce
    obtain ⟨⟨⟨q1, q2⟩, q4⟩, q3⟩ := hce
    have q3 := bq q3
    subst q3
    subst q1
    exact G_bipush hx hb ⟨q2, q4⟩ hd (hK _ _ _ h)
  case sipush k0 =>
    simp only [ckE, Bool.and_eq_true, decide_eq_true_eq] at hce
    obtain ⟨⟨⟨q1, q2⟩, q4⟩, q3⟩ := hce
    have q3 := bq q3
    subst q3
    subst q1
    exact G_sipush hx hb ⟨q2, q4⟩ hd (hK _ _ _ h)
  case lconst k0 =>
    simp only [ckE, Bool.and_eq_true, decide_eq_true_eq] at hce
    obtain ⟨q1, q3⟩ := hce
    have q3 := bq q3
    subst q3
    subst q1
    exact G_lconst hx hb hd (hK _ _ _ h)
  case dconst k0 =>
    simp only [ckE, Bool.and_eq_true, decide_eq_true_eq] at hce
    obtain ⟨⟨q1, q2⟩, q3⟩ := hce
    have q3 := bq q3
    subst q3
    subst q2
    have q1 : k0 = 0 := Fin.ext (bq q1)
    subst q1
    exact G_dconst hx hb hd (hK _ _ _ h)
  case ldc2_w idx =>
    simp only [ckE, Bool.and_eq_true] at hce
    obtain ⟨q1, q3⟩ := hce
    have q3 := bq q3
    subst q3
    obtain ⟨w1, w2⟩ := cK_hasK q1
    exact G_ldc2 hx hb hown (hts _ w1) w2 hd (hK _ _ _ h)
  case iload k0 =>
    simp only [ckE, Bool.and_eq_true] at hce
    obtain ⟨q1, q3⟩ := hce
    have q3 := bq q3
    subst q3
    have q1 := bq q1
    subst q1
    simp only [xins, o_il] at h
    split at h
    · rename_i hv
      exact G_iload hx hb hv hd (hK _ _ _ h)
    · cases h
  case iload_n k0 =>
    simp only [ckE, Bool.and_eq_true] at hce
    obtain ⟨q1, q3⟩ := hce
    have q3 := bq q3
    subst q3
    have q1 := bq q1
    simp only [xins, o_il] at h
    split at h
    · rename_i hv
      exact G_iload_n q1 hx hb hv hd (hK _ _ _ h)
    · cases h
  case lload k0 =>
    simp only [ckE, Bool.and_eq_true] at hce
    obtain ⟨q1, q3⟩ := hce
    have q3 := bq q3
    subst q3
    have q1 := bq q1
    subst q1
    simp only [xins, o_ll] at h
    split at h
    · rename_i hv
      exact G_lload hx hb hv hd (hK _ _ _ h)
    · cases h
  case lload_n k0 =>
    simp only [ckE, Bool.and_eq_true] at hce
    obtain ⟨q1, q3⟩ := hce
    have q3 := bq q3
    subst q3
    have q1 := bq q1
    simp only [xins, o_ll] at h
    split at h
    · rename_i hv
      exact G_lload_n q1 hx hb hv hd (hK _ _ _ h)
    · cases h
  case aload k0 =>
    simp only [ckE, Bool.and_eq_true] at hce
    obtain ⟨q1, q3⟩ := hce
    have q3 := bq q3
    subst q3
    have q1 := bq q1
    subst q1
    simp only [xins, o_al] at h
    split at h
    · rename_i g i hv
      split at h
      · cases h
      · exact G_aload hx hb hv hd (hK _ _ _ h)
    · cases h
  case aload_n k0 =>
    simp only [ckE, Bool.and_eq_true] at hce
    obtain ⟨q1, q3⟩ := hce
    have q3 := bq q3
    subst q3
    have q1 := bq q1
    simp only [xins, o_al] at h
    split at h
    · rename_i g i hv
      split at h
      · cases h
      · exact G_aload_n q1 hx hb hv hd (hK _ _ _ h)
    · cases h
  case istore k0 =>
    simp only [ckE, Bool.and_eq_true] at hce
    obtain ⟨⟨q1, q3⟩, q4⟩ := hce
    have q3 := bq q3
    subst q3
    have q1 := bq q1
    have q4 := Nat.le_of_ble_eq_true q4
    subst q1
    simp only [xins, o_is, xsetK_eq] at h
    split at h
    · obtain ⟨ok, h⟩ := xif_some h
      exact G_istore hx hb q4 ok hd (hK _ _ _ h)
    · cases h
  case istore_n k0 =>
    simp only [ckE, Bool.and_eq_true] at hce
    obtain ⟨⟨q1, q3⟩, q4⟩ := hce
    have q3 := bq q3
    subst q3
    have q1 := bq q1
    have q4 := Nat.le_of_ble_eq_true q4
    simp only [xins, o_is, xsetK_eq] at h
    split at h
    · obtain ⟨ok, h⟩ := xif_some h
      exact G_istore_n q1 hx hb q4 ok hd (hK _ _ _ h)
    · cases h
  case lstore k0 =>
    simp only [ckE, Bool.and_eq_true] at hce
    obtain ⟨⟨q1, q3⟩, q4⟩ := hce
    have q3 := bq q3
    subst q3
    have q1 := bq q1
    have q4 := Nat.le_of_ble_eq_true q4
    subst q1
    simp only [xins, o_ls, xsetK_eq] at h
    split at h
    · obtain ⟨ok, h⟩ := xif_some h
      exact G_lstore hx hb q4 ok hd (hK _ _ _ h)
    · cases h
  case lstore_n k0 =>
    simp only [ckE, Bool.and_eq_true] at hce
    obtain ⟨⟨q1, q3⟩, q4⟩ := hce
    have q3 := bq q3
    subst q3
    have q1 := bq q1
    have q4 := Nat.le_of_ble_eq_true q4
    simp only [xins, o_ls, xsetK_eq] at h
    split at h
    · obtain ⟨ok, h⟩ := xif_some h
      exact G_lstore_n q1 hx hb q4 ok hd (hK _ _ _ h)
    · cases h
  case astore k0 =>
    simp only [ckE, Bool.and_eq_true] at hce
    obtain ⟨⟨q1, q3⟩, q4⟩ := hce
    have q3 := bq q3
    subst q3
    have q1 := bq q1
    have q4 := Nat.le_of_ble_eq_true q4
    subst q1
    simp only [xins, o_as, xsetK_eq] at h
    split at h
    · split at h
      · cases h
      · obtain ⟨ok, h⟩ := xif_some h
        exact G_astore (by omega) hx hb q4 ok hd (hK _ _ _ h)
    · cases h
  case astore_n k0 =>
    simp only [ckE, Bool.and_eq_true] at hce
    obtain ⟨⟨q1, q3⟩, q4⟩ := hce
    have q3 := bq q3
    subst q3
    have q1 := bq q1
    have q4 := Nat.le_of_ble_eq_true q4
    simp only [xins, o_as, xsetK_eq] at h
    split at h
    · split at h
      · cases h
      · obtain ⟨ok, h⟩ := xif_some h
        exact G_astore_n q1 (by omega) hx hb q4 ok hd (hK _ _ _ h)
    · cases h
  case iinc k0 n =>
    simp only [ckE, Bool.and_eq_true, decide_eq_true_eq] at hce
    obtain ⟨⟨⟨q1, q2⟩, q3⟩, q4⟩ := hce
    have q3 := bq q3
    subst q3
    have q1 := bq q1
    subst q1
    subst q2
    have q4 := Nat.le_of_ble_eq_true q4
    simp only [xins, o_inc, xsetK_eq] at h
    split at h
    · rename_i hv
      obtain ⟨ok, h⟩ := xif_some h
      exact G_iinc hx hb q4 ok hv hd (hK _ _ _ h)
    · cases h
  case goto off =>
    simp only [ckE, Bool.and_eq_true, decide_eq_true_eq] at hce
    obtain ⟨q1, q3⟩ := hce
    have q3 := bq q3
    subst q3
    exact G_goto hx hb hd q1 (hF _ _ _ _ h)
  case ifCond cnd off =>
    simp only [ckE, Bool.and_eq_true, decide_eq_true_eq] at hce
    obtain ⟨q1, q3⟩ := hce
    have q3 := bq q3
    subst q3
    cases cnd
    case eq => 
      simp only [xins, o_ifeq] at h
      split at h
      · exact G_ifeq hx hb hd q1 (fun t => hF _ _ _ _ (by rw [if_pos t] at h; exact h)) (fun t => hK _ _ _ (by rw [if_neg t] at h; exact h))
      · cases h
    case ne => 
      simp only [xins, o_ifne] at h
      split at h
      · exact G_ifne hx hb hd q1 (fun t => hK _ _ _ (by rw [if_pos t] at h; exact h)) (fun t => hF _ _ _ _ (by rw [if_neg t] at h; exact h))
      · cases h
    case lt => 
      simp only [xins, o_iflt] at h
      split at h
      · exact G_iflt hx hb hd q1 (fun t => hF _ _ _ _ (by rw [if_pos t] at h; exact h)) (fun t => hK _ _ _ (by rw [if_neg t] at h; exact h))
      · cases h
    case ge => 
      simp only [xins, o_ifge] at h
      split at h
      · exact G_ifge hx hb hd q1 (fun t => hK _ _ _ (by rw [if_pos t] at h; exact h)) (fun t => hF _ _ _ _ (by rw [if_neg t] at h; exact h))
      · cases h
    case gt => 
      simp only [xins, o_ifgt] at h
      split at h
      · exact G_ifgt hx hb hd q1 (fun t => hF _ _ _ _ (by rw [if_pos t] at h; exact h)) (fun t => hK _ _ _ (by rw [if_neg t] at h; exact h))
      · cases h
    case le => 
      simp only [xins, o_ifle] at h
      split at h
      · exact G_ifle hx hb hd q1 (fun t => hK _ _ _ (by rw [if_pos t] at h; exact h)) (fun t => hF _ _ _ _ (by rw [if_neg t] at h; exact h))
      · cases h
  case if_icmp cnd off =>
    simp only [ckE, Bool.and_eq_true, decide_eq_true_eq] at hce
    obtain ⟨q1, q3⟩ := hce
    have q3 := bq q3
    subst q3
    cases cnd
    case eq => 
      simp only [xins, o_iceq] at h
      split at h
      · exact G_iceq hx hb hd q1 (fun t => hF _ _ _ _ (by rw [if_pos t] at h; exact h)) (fun t => hK _ _ _ (by rw [if_neg t] at h; exact h))
      · cases h
    case ne => 
      simp only [xins, o_icne] at h
      split at h
      · exact G_icne hx hb hd q1 (fun t => hK _ _ _ (by rw [if_pos t] at h; exact h)) (fun t => hF _ _ _ _ (by rw [if_neg t] at h; exact h))
      · cases h
    case lt => 
      simp only [xins, o_iclt] at h
      split at h
      · exact G_iclt hx hb hd q1 (fun t => hF _ _ _ _ (by rw [if_pos t] at h; exact h)) (fun t => hK _ _ _ (by rw [if_neg t] at h; exact h))
      · cases h
    case ge => 
      simp only [xins, o_icge] at h
      split at h
      · exact G_icge hx hb hd q1 (fun t => hK _ _ _ (by rw [if_pos t] at h; exact h)) (fun t => hF _ _ _ _ (by rw [if_neg t] at h; exact h))
      · cases h
    case gt => 
      simp only [xins, o_icgt] at h
      split at h
      · exact G_icgt hx hb hd q1 (fun t => hF _ _ _ _ (by rw [if_pos t] at h; exact h)) (fun t => hK _ _ _ (by rw [if_neg t] at h; exact h))
      · cases h
    case le => 
      simp only [xins, o_icle] at h
      split at h
      · exact G_icle hx hb hd q1 (fun t => hK _ _ _ (by rw [if_pos t] at h; exact h)) (fun t => hF _ _ _ _ (by rw [if_neg t] at h; exact h))
      · cases h
  case getfield idx =>
    simp only [ckE, Bool.and_eq_true] at hce
    obtain ⟨q1, q3⟩ := hce
    have q3 := bq q3
    subst q3
    have hf := hasF_ok q1
    simp only [xins, o_gf] at h
    split at h
    · obtain ⟨ok, h⟩ := xif_some h
      have ok := bq ok
      split at h
      · exact G_getI hx hb hown hts hKK hf ok hd (hK _ _ _ h)
      · split at h
        · split at h
          · rename_i hv
            exact G_getR hx hb hown hts hKK hf ok (Or.inr hv) hd (hK _ _ _ h)
          · cases h
        · exact G_getR hx hb hown hts hKK hf ok (Or.inl rfl) hd (hK _ _ _ h)
    · cases h
  case putfield idx =>
    simp only [ckE, Bool.and_eq_true, Bool.or_eq_true, Bool.not_eq_true'] at hce
    obtain ⟨⟨q1, q3⟩, q4⟩ := hce
    have q3 := bq q3
    subst q3
    have hf := hasF_ok q1
    simp only [xins, o_pf] at h
    split at h
    · split at h
      · obtain ⟨ok, h⟩ := xif_some h
        exact G_putI hx hb hown hts hKK hf (bq ok) hd (hK _ _ _ h)
      · cases h
    · split at h
      · obtain ⟨ok1, h⟩ := xif_some h
        obtain ⟨ok, h⟩ := xif_some h
        split at h
        · rename_i hv
          have q5 : mN m = true ∧ r1 - 10 = mK m := by
            rcases q4 with q4 | q4
            · have := hf.2.2.2.2.2.2.mp q4
              omega
            · exact ⟨q4.1, bq q4.2⟩
          exact G_putR hx hb ok1 (hin q5.1) hown hts hKK hf (by rw [q5.2]; exact (List.map_inj_left.mp sC2 (mK m) (List.mem_range.mpr (by rw [← q5.2]; exact hf.2.1))).symm) (bq ok) hv hd (hK _ _ _ h)
        · cases h
      · cases h
  case baload =>
    have hl : len = 1 := bq hce
    subst hl
    simp only [xins, o_bald, xload] at h
    split at h
    · obtain ⟨ok, h⟩ := xif_some h
      split at h
      · rename_i hj
        exact G_bald hx hb hKK (bq ok) hj hd (hK _ _ _ h)
      · cases h
    · cases h
  case laload =>
    have hl : len = 1 := bq hce
    subst hl
    simp only [xins, o_lald, xload] at h
    split at h
    · obtain ⟨ok, h⟩ := xif_some h
      split at h
      · rename_i hj
        exact G_lald hx hb hKK (bq ok) hj hd (hK _ _ _ h)
      · cases h
    · cases h
  case daload =>
    have hl : len = 1 := bq hce
    subst hl
    simp only [xins, o_dald, xload] at h
    split at h
    · obtain ⟨ok, h⟩ := xif_some h
      split at h
      · rename_i hj
        exact G_dald hx hb hKK (bq ok) hj hd (hK _ _ _ h)
      · cases h
    · cases h
  case iastore =>
    have hl : len = 1 := bq hce
    subst hl
    simp only [xins, o_iast, xload] at h
    split at h
    · obtain ⟨ok, h⟩ := xif_some h
      split at h
      · rename_i hj
        exact G_iast hx hb hKK (bq ok) hj hd (hK _ _ _ h)
      · cases h
    · cases h
  case bastore =>
    have hl : len = 1 := bq hce
    subst hl
    simp only [xins, o_bast, xload] at h
    split at h
    · obtain ⟨ok, h⟩ := xif_some h
      split at h
      · rename_i hj
        exact G_bast hx hb hKK (bq ok) hj hd (hK _ _ _ h)
      · cases h
    · cases h
  case lastore =>
    have hl : len = 1 := bq hce
    subst hl
    simp only [xins, o_last, xload] at h
    split at h
    · obtain ⟨ok, h⟩ := xif_some h
      split at h
      · rename_i hj
        exact G_last hx hb hKK (bq ok) hj hd (hK _ _ _ h)
      · cases h
    · cases h
  case dastore =>
    have hl : len = 1 := bq hce
    subst hl
    simp only [xins, o_dast, xload] at h
    split at h
    · obtain ⟨ok, h⟩ := xif_some h
      split at h
      · rename_i hj
        exact G_dast hx hb hKK (bq ok) hj hd (hK _ _ _ h)
      · cases h
    · cases h
  case iaload =>
    have hl : len = 1 := bq hce
    subst hl
    simp only [xins, o_iald, xload] at h
    split at h
    · split at h
      · split at h
        · rename_i hj
          exact G_sld hx hb hsz hsc hj hd (hK _ _ _ h)
        · cases h
      · obtain ⟨ok, h⟩ := xif_some h
        split at h
        · rename_i hj
          exact G_iald hx hb hKK (bq ok) hj hd (hK _ _ _ h)
        · cases h
    · cases h
  case arraylength =>
    have hl : len = 1 := bq hce
    subst hl
    simp only [xins, o_alen] at h
    split at h
    · exact G_slen hx hb hsz hsc hd (hK _ _ _ h)
    · cases h
  case aaload =>
    simp only [ckE, Bool.and_eq_true, Bool.or_eq_true] at hce
    obtain ⟨q1, q3⟩ := hce
    have q3 := bq q3
    subst q3
    rcases q1 with q1 | q1
    · skip
      have q1 := bq q1
      subst q1
      simp only [xins, o_aald, xload] at h
      split at h
      · obtain ⟨ok, h2⟩ := xif_some h
        have ok := bq ok
        split at h2
        · rename_i hj
          split at h2
          · split at h2
            · rename_i hv
              exact G_aald5 hx hb hKK ok hj (Or.inr hv) hd (hK _ _ _ h2)
            · cases h2
          · exact G_aald5 hx hb hKK ok hj (Or.inl rfl) hd (hK _ _ _ h2)
        · cases h2
      · cases h
    · skip
      have q1 := bq q1
      subst q1
      simp only [xins, o_aald, xload] at h
      split at h
      · obtain ⟨ok, h2⟩ := xif_some h
        have ok := bq ok
        split at h2
        · rename_i hj
          split at h2
          · split at h2
            · rename_i hv
              exact G_aald6 hx hb hKK ok hj (Or.inr hv) hd (hK _ _ _ h2)
            · cases h2
          · exact G_aald6 hx hb hKK ok hj (Or.inl rfl) hd (hK _ _ _ h2)
        · cases h2
      · cases h
  case aastore =>
    simp only [ckE, Bool.and_eq_true, Bool.or_eq_true] at hce
    obtain ⟨q1, q3⟩ := hce
    have q3 := bq q3
    subst q3
    rcases q1 with q1 | q1
    · skip
      obtain ⟨e1, e2⟩ := q1
      have e1 := bq e1
      have e2 := bq e2
      subst e1
      subst e2
      simp only [xins, o_aast, xload] at h
      split at h
      · obtain ⟨ok1, h2⟩ := xif_some h
        obtain ⟨ok, h3⟩ := xif_some h2
        have ok := bq ok
        split at h3
        · rename_i hj
          split at h3
          · rename_i hv
            exact G_aast5 hx hb ok1 hKK ok hj hv hd (hK _ _ _ h3)
          · cases h3
        · cases h3
      · cases h
    · skip
      obtain ⟨e1, e2⟩ := q1
      have e1 := bq e1
      have e2 := bq e2
      subst e1
      subst e2
      simp only [xins, o_aast, xload] at h
      split at h
      · obtain ⟨ok1, h2⟩ := xif_some h
        obtain ⟨ok, h3⟩ := xif_some h2
        have ok := bq ok
        split at h3
        · rename_i hj
          split at h3
          · rename_i hv
            exact G_aast6 hx hb ok1 hKK ok hj hv hd (hK _ _ _ h3)
          · cases h3
        · cases h3
      · cases h
  case new idx =>
    simp only [ckE, Bool.and_eq_true] at hce
    obtain ⟨q1, q3⟩ := hce
    have q3 := bq q3
    subst q3
    obtain ⟨w1, w2, w3, w4⟩ := hasN_ok q1
    simp only [xins, o_new] at h
    obtain ⟨ok1, h⟩ := xif_some h
    simp only [xnew] at h
    obtain ⟨n1, h⟩ := xif_some h
    obtain ⟨n2, h⟩ := xif_some h
    obtain ⟨n3, h⟩ := xif_some h
    have n1 : (V 0 0 0).toNat < 155 := Nat.le_of_ble_eq_true n1
    have n2 := bq n2
    have n3 := of_decide_eq_true n3
    exact G_new hx hb ok1 hR hown hts hKK hsz w1 w2 w3 w4 n1 rfl n2 hd (hK _ _ _ h)
  case newarray at0 =>
    cases at0
    case int =>
      simp only [ckE, Bool.and_eq_true] at hce
      obtain ⟨q1, q3⟩ := hce
      have q3 := bq q3
      subst q3
      have q1 := bq q1
      subst q1
      simp only [xins, o_newa] at h
      split at h
      · obtain ⟨ok1, h⟩ := xif_some h
        simp only [xnew] at h
        obtain ⟨n1, h⟩ := xif_some h
        obtain ⟨n2, h⟩ := xif_some h
        obtain ⟨n3, h⟩ := xif_some h
        have n1 : (V 0 0 0).toNat < 155 := Nat.le_of_ble_eq_true n1
        have n2 := bq n2
        have n3 := of_decide_eq_true n3
        exact G_newa_int hx hb ok1 hR hts hKK hsz n1 rfl n2 n3 hd (hK _ _ _ h)
      · cases h
    case long =>
      simp only [ckE, Bool.and_eq_true] at hce
      obtain ⟨q1, q3⟩ := hce
      have q3 := bq q3
      subst q3
      have q1 := bq q1
      subst q1
      simp only [xins, o_newa] at h
      split at h
      · obtain ⟨ok1, h⟩ := xif_some h
        simp only [xnew] at h
        obtain ⟨n1, h⟩ := xif_some h
        obtain ⟨n2, h⟩ := xif_some h
        obtain ⟨n3, h⟩ := xif_some h
        have n1 : (V 0 0 0).toNat < 155 := Nat.le_of_ble_eq_true n1
        have n2 := bq n2
        have n3 := of_decide_eq_true n3
        exact G_newa_long hx hb ok1 hR hts hKK hsz n1 rfl n2 n3 hd (hK _ _ _ h)
      · cases h
    case boolean =>
      simp only [ckE, Bool.and_eq_true] at hce
      obtain ⟨q1, q3⟩ := hce
      have q3 := bq q3
      subst q3
      have q1 := bq q1
      subst q1
      simp only [xins, o_newa] at h
      split at h
      · obtain ⟨ok1, h⟩ := xif_some h
        simp only [xnew] at h
        obtain ⟨n1, h⟩ := xif_some h
        obtain ⟨n2, h⟩ := xif_some h
        obtain ⟨n3, h⟩ := xif_some h
        have n1 : (V 0 0 0).toNat < 155 := Nat.le_of_ble_eq_true n1
        have n2 := bq n2
        have n3 := of_decide_eq_true n3
        exact G_newa_bool hx hb ok1 hR hts hKK hsz n1 rfl n2 n3 hd (hK _ _ _ h)
      · cases h
    case double =>
      simp only [ckE, Bool.and_eq_true] at hce
      obtain ⟨q1, q3⟩ := hce
      have q3 := bq q3
      subst q3
      have q1 := bq q1
      subst q1
      simp only [xins, o_newa] at h
      split at h
      · obtain ⟨ok1, h⟩ := xif_some h
        simp only [xnew] at h
        obtain ⟨n1, h⟩ := xif_some h
        obtain ⟨n2, h⟩ := xif_some h
        obtain ⟨n3, h⟩ := xif_some h
        have n1 : (V 0 0 0).toNat < 155 := Nat.le_of_ble_eq_true n1
        have n2 := bq n2
        have n3 := of_decide_eq_true n3
        exact G_newa_dbl hx hb ok1 hR hts hKK hsz n1 rfl n2 n3 hd (hK _ _ _ h)
      · cases h
    all_goals (simp only [ckE] at hce; cases hce)
  case anewarray idx =>
    simp only [ckE, Bool.and_eq_true, Bool.or_eq_true] at hce
    obtain ⟨q1, q3⟩ := hce
    have q3 := bq q3
    subst q3
    rcases q1 with q1 | q1
    · skip
      obtain ⟨e1, e2⟩ := q1
      have e1 := bq e1
      subst e1
      obtain ⟨w1, w2, w3, w4⟩ := hasN_ok e2
      simp only [xins, o_newa] at h
      split at h
      · obtain ⟨ok1, h⟩ := xif_some h
        simp only [xnew] at h
        obtain ⟨n1, h⟩ := xif_some h
        obtain ⟨n2, h⟩ := xif_some h
        obtain ⟨n3, h⟩ := xif_some h
        have n1 : (V 0 0 0).toNat < 155 := Nat.le_of_ble_eq_true n1
        have n2 := bq n2
        have n3 := of_decide_eq_true n3
        exact G_newq5 hx hb ok1 hR hown hts hN.2.1 hKK hsz w2 n1 rfl n2 n3 hd (hK _ _ _ h)
      · cases h
    · skip
      obtain ⟨e1, e2⟩ := q1
      have e1 := bq e1
      subst e1
      obtain ⟨w1, w2, w3, w4⟩ := hasN_ok e2
      simp only [xins, o_newa] at h
      split at h
      · obtain ⟨ok1, h⟩ := xif_some h
        simp only [xnew] at h
        obtain ⟨n1, h⟩ := xif_some h
        obtain ⟨n2, h⟩ := xif_some h
        obtain ⟨n3, h⟩ := xif_some h
        have n1 : (V 0 0 0).toNat < 155 := Nat.le_of_ble_eq_true n1
        have n2 := bq n2
        have n3 := of_decide_eq_true n3
        exact G_newq6 hx hb ok1 hR hown hts hN.2.2 hKK hsz w2 n1 rfl n2 n3 hd (hK _ _ _ h)
      · cases h
  case tableswitch dflt lo hi offs =>
    simp only [ckE, Bool.and_eq_true, decide_eq_true_eq] at hce
    obtain ⟨⟨⟨⟨q1, q2⟩, q3⟩, q4⟩, q5⟩ := hce
    subst q1
    simp only [xins, o_sw] at h
    split at h
    · rcases xsw_cases _ _ h with ⟨k0, t, h1, h2, h3⟩ | ⟨h1, h2⟩
      · have hlt : k0 < tg.length := (List.getElem?_eq_some_iff.mp h1).1
        have e1 : (offs.toList.map (fun o => (pc : Int) + o))[k0]? = (tg.map (fun (t : Nat) => (t : Int)))[k0]? := by rw [q5]
        rw [List.getElem?_map, List.getElem?_map, h1] at e1
        cases ho : offs.toList[k0]? with
        | none => rw [ho] at e1; cases e1
        | some off =>
          rw [ho] at e1
          simp only [Option.map_some, Option.some.injEq] at e1
          exact G_swIn hx hb hd h2 (by omega) (by rw [← Array.getElem?_toList]; exact ho) e1 (hF _ _ _ _ h3)
      · exact G_swOut hx hb hd (by omega) q3 (hF _ _ _ _ h2)
    · cases h
  case ireturn =>
    simp only [ckE, Bool.and_eq_true, Bool.or_eq_true, decide_eq_true_eq] at hce
    obtain ⟨q1, q3⟩ := hce
    have q3 := bq q3
    subst q3
    simp only [xins, o_iret] at h
    split at h
    · rename_i x
      split at h
      · cases h
        refine G_ret hend rfl (fun n hs => (m1 hs).1) (fun n ad H locs lsA hw => hw.1 x rfl (Or.inl ?_) hd)
        rcases q1 with q1 | q1
        · exact q1.2
        · exact absurd (bq q1.1) (by omega)
      · split at h
        · rename_i hx0
          cases h
          refine G_ret hend rfl (fun n hs => (m1 hs).1) (fun n ad H locs lsA hw => hw.1 x rfl (Or.inr ⟨?_, hx0⟩) hd)
          rcases q1 with q1 | q1
          · exact absurd (bq q1.1) (by omega)
          · exact q1.2
        · cases h
    · cases h
  case lreturn =>
    simp only [ckE, Bool.and_eq_true, decide_eq_true_eq] at hce
    obtain ⟨q1, q3⟩ := hce
    have q3 := bq q3
    subst q3
    simp only [xins, o_lret] at h
    split at h
    · cases h
      exact G_ret hend rfl (fun n hs => (m1 hs).1) (fun n ad H locs lsA hw => hw.2.1 _ rfl q1 hd)
    · cases h
  case areturn =>
    simp only [ckE, Bool.and_eq_true] at hce
    obtain ⟨q1, q3⟩ := hce
    have q3 := bq q3
    subst q3
    simp only [xins, o_aret] at h
    split at h
    · split at h
      · cases h
      · cases h
        exact G_ret hend rfl (fun n hs => (m1 hs).1) (fun n ad H locs lsA hw => hw.2.2.1 _ _ rfl (bq q1) hd)
    · cases h
  case return_ =>
    simp only [ckE, Bool.and_eq_true, decide_eq_true_eq] at hce
    obtain ⟨q1, q3⟩ := hce
    have q3 := bq q3
    subst q3
    simp only [xins, o_vret] at h
    split at h
    · cases h
      exact G_ret hend rfl (fun n hs => by show c32 0; unfold c32; omega) (fun n ad H locs lsA hw => hw.2.2.2 q1 hd)
    · cases h
  case invokevirtual idx =>
    simp only [ckE, Bool.and_eq_true] at hce
    obtain ⟨⟨q1, q3⟩, qX⟩ := hce
    have q3 := bq q3
    subst q3
    obtain ⟨f, hf, e1, e2, e3, e4, e5, e6⟩ := hasM_ok q1
    obtain ⟨v1, v2, v3, v4, v5, v6, v7, v8⟩ := vOk hf
    have r33 := r3_v hf
    rw [e4] at v1 v2 v3 v4 v5 v6 v7 v8
    rw [e5] at v2
    rw [e6] at v3 r33
    rw [e1, e2] at v6
    simp only [xins, o_inv, xtk_eq, xdp_eq, xrv_eq, List.append_nil] at h
    obtain ⟨cnd, h⟩ := xif_some h
    obtain ⟨cn2, h⟩ := xif_some h
    simp only [Bool.and_eq_true] at cnd
    obtain ⟨⟨⟨w1, w2⟩, w3⟩, w4⟩ := cnd
    have cn2 := Nat.le_of_ble_eq_true cn2
    obtain ⟨k0, g, i, z1, z2, z3⟩ := xrk_ok w1 (by omega)
    subst z1
    have hk0 : k0 < st.length := xhas_le st (k0 + 1) w4
    have hkk : WW.1 g = mK r1 + 10 := by omega
    split at h
    · obtain ⟨x, V1, u1, u2⟩ := ci_some h
      exact G_virt hx hb hml hown hts hN hKK hsz hR hRf v1 hk0 z2 (by omega) w2 cn2 (hK _ _ _ u2) (by obtain ⟨ty, ht⟩ := rt_n v3 (by omega); rw [ht]) (hC _ _ _ _ _ v1 (by rw [xsum_rev]; exact xmx_ok w3 qX) u1) ⟨v4, hkk⟩ v6 v7 v8 hd
    · obtain ⟨x, V1, u1, u2⟩ := cl_some h
      exact G_virt hx hb hml hown hts hN hKK hsz hR hRf v1 hk0 z2 (by omega) w2 cn2 (hK _ _ _ u2) (by obtain ⟨ty, ht⟩ := rt_n v3 (by omega); rw [ht]) (hC _ _ _ _ _ v1 (by rw [xsum_rev]; exact xmx_ok w3 qX) u1) ⟨v4, hkk⟩ v6 v7 v8 hd
    · obtain ⟨V1, u1, u2⟩ := cr_some h
      exact G_virt hx hb hml hown hts hN hKK hsz hR hRf v1 hk0 z2 (by omega) w2 cn2 (hK _ _ _ u2) (by obtain ⟨ty, ht⟩ := rt_n v3 (by omega); rw [ht]) (hC _ _ _ _ _ v1 (by rw [xsum_rev]; exact xmx_ok w3 qX) u1) ⟨v4, hkk⟩ v6 v7 v8 hd
    · obtain ⟨x, V1, u1, u2⟩ := cv_some h
      exact G_virt hx hb hml hown hts hN hKK hsz hR hRf v1 hk0 z2 (by omega) w2 cn2 (hK _ _ _ u2) (by rw [rt_3 v3]) (hC _ _ _ _ _ v1 (by rw [xsum_rev]; exact xmx_ok w3 qX) u1) ⟨v4, hkk⟩ v6 v7 v8 hd
    · omega
    · rename_i a0 a1 a2 a3 a8
      rcases (by omega : r3 = 0 ∨ r3 = 1 ∨ r3 = 2 ∨ r3 = 3) with q | q | q | q
      · exact (a0 q).elim
      · exact (a1 q).elim
      · exact (a2 q).elim
      · exact (a3 q).elim
  case invokespecial idx =>
    simp only [ckE, Bool.and_eq_true, Bool.or_eq_true, decide_eq_true_eq] at hce
    obtain ⟨q1, q3⟩ := hce
    have q3 := bq q3
    subst q3
    rcases q1 with ⟨⟨⟨q1, q2⟩, q4⟩, q5⟩ | ⟨q1, qX⟩
    · have q2 := bq q2
      have q4 := bq q4
      subst q2
      subst q4
      simp only [xins, o_inv, xtk_eq, xdp_eq, xrv_eq, List.append_nil] at h
      obtain ⟨cnd, h⟩ := xif_some h
      obtain ⟨cn2, h⟩ := xif_some h
      simp only [Bool.and_eq_true] at cnd
      obtain ⟨⟨⟨w1, w2⟩, w3⟩, w4⟩ := cnd
      have cn2 := Nat.le_of_ble_eq_true cn2
      split at h
      · split at h
        · cases h
        · exact G_obj hx hb hml hown hts ⟨by omega, by omega⟩ (hasO_ok q1) (by simpa using cn2) hd (hK _ _ _ h)
      · cases h
    · obtain ⟨f, hf, e1, e2, e3, e4, e5, e6⟩ := hasM_ok q1
      obtain ⟨v1, v2, v3, v4, v5, v6, v7, v8⟩ := sOk hf
      rw [e4] at v1 v2 v3 v6 v7 v8
      rw [e5] at v2
      rw [e6] at v4
      subst v4
      rw [e1, e2] at v8
      simp only [xins, o_inv, xtk_eq, xdp_eq, xrv_eq, List.append_nil] at h
      obtain ⟨cnd, h⟩ := xif_some h
      obtain ⟨cn2, h⟩ := xif_some h
      simp only [Bool.and_eq_true] at cnd
      obtain ⟨⟨⟨w1, w2⟩, w3⟩, w4⟩ := cnd
      have cn2 := Nat.le_of_ble_eq_true cn2
      obtain ⟨k0, g, i, z1, z2, z3⟩ := xrk_ok w1 (by omega)
      subst z1
      have hk0 : k0 < st.length := xhas_le st (k0 + 1) w4
      obtain ⟨x, V1, u1, u2⟩ := cv_some h
      rcases v8 with v8 | v8
      · exact G_init hx hb hml hown hts hN hKK hsz hR hRf v1 hk0 z2 (by omega) w2 cn2 (hK _ _ _ u2) (by rw [v3]) (hC _ _ _ _ _ v1 (by rw [xsum_rev]; exact xmx_ok w3 qX) u1) (by omega) v8 v6 v7 v3 hd
      · exact G_initN hx hb hml hown hts hN hKK hsz hR hRf v1 hk0 z2 (by omega) w2 cn2 (hK _ _ _ u2) (by rw [v3]) (hC _ _ _ _ _ v1 (by rw [xsum_rev]; exact xmx_ok w3 qX) u1) (by omega) v8 v6 v7 v3 hd
  case invokestatic idx =>
    simp only [ckE, Bool.and_eq_true, Bool.or_eq_true, decide_eq_true_eq] at hce
    obtain ⟨q1, q3⟩ := hce
    have q3 := bq q3
    subst q3
    rcases q1 with ⟨q1, qX⟩ | ⟨⟨⟨q1, q2⟩, q4⟩, q5⟩
    · obtain ⟨f, hf, e1, e2, e3, e4, e5, e6⟩ := hasM_ok q1
      obtain ⟨v1, v2, v3, v6, v8⟩ := tOk hf
      have r33 := r3_t hf
      rw [e4] at v1 v2 v3 v6 v8
      rw [e5] at v2
      rw [e6] at v3 r33
      rw [e1, e2] at v8
      simp only [xins, o_inv, xtk_eq, xdp_eq, xrv_eq, List.append_nil] at h
      obtain ⟨cnd, h⟩ := xif_some h
      obtain ⟨cn2, h⟩ := xif_some h
      simp only [Bool.and_eq_true] at cnd
      obtain ⟨⟨⟨w1, w2⟩, w3⟩, w4⟩ := cnd
      have cn2 := Nat.le_of_ble_eq_true cn2
      have hk0 : r2 ≤ st.length := xhas_le st r2 w4
      rcases v8 with v8 | v8
      · skip
        split at h
        · obtain ⟨x, V1, u1, u2⟩ := ci_some h
          exact G_stat hx hb hml hown hts hN hKK hsz hR hRf v1 hk0 v2 w2 cn2 (hK _ _ _ u2) (by obtain ⟨ty, ht⟩ := rt_n v3 (by omega); rw [ht]) (hC _ _ _ _ _ v1 (by rw [xsum_rev]; exact xmx_ok w3 qX) u1) v8 v6 hd
        · obtain ⟨x, V1, u1, u2⟩ := cl_some h
          exact G_stat hx hb hml hown hts hN hKK hsz hR hRf v1 hk0 v2 w2 cn2 (hK _ _ _ u2) (by obtain ⟨ty, ht⟩ := rt_n v3 (by omega); rw [ht]) (hC _ _ _ _ _ v1 (by rw [xsum_rev]; exact xmx_ok w3 qX) u1) v8 v6 hd
        · obtain ⟨V1, u1, u2⟩ := cr_some h
          exact G_stat hx hb hml hown hts hN hKK hsz hR hRf v1 hk0 v2 w2 cn2 (hK _ _ _ u2) (by obtain ⟨ty, ht⟩ := rt_n v3 (by omega); rw [ht]) (hC _ _ _ _ _ v1 (by rw [xsum_rev]; exact xmx_ok w3 qX) u1) v8 v6 hd
        · obtain ⟨x, V1, u1, u2⟩ := cv_some h
          exact G_stat hx hb hml hown hts hN hKK hsz hR hRf v1 hk0 v2 w2 cn2 (hK _ _ _ u2) (by rw [rt_3 v3]) (hC _ _ _ _ _ v1 (by rw [xsum_rev]; exact xmx_ok w3 qX) u1) v8 v6 hd
        · omega
        · rename_i a0 a1 a2 a3 a8
          rcases (by omega : r3 = 0 ∨ r3 = 1 ∨ r3 = 2 ∨ r3 = 3) with q | q | q | q
          · exact (a0 q).elim
          · exact (a1 q).elim
          · exact (a2 q).elim
          · exact (a3 q).elim
      · skip
        split at h
        · obtain ⟨x, V1, u1, u2⟩ := ci_some h
          exact G_statN hx hb hml hown hts hN hKK hsz hR hRf v1 hk0 v2 w2 cn2 (hK _ _ _ u2) (by obtain ⟨ty, ht⟩ := rt_n v3 (by omega); rw [ht]) (hC _ _ _ _ _ v1 (by rw [xsum_rev]; exact xmx_ok w3 qX) u1) v8 v6 hd
        · obtain ⟨x, V1, u1, u2⟩ := cl_some h
          exact G_statN hx hb hml hown hts hN hKK hsz hR hRf v1 hk0 v2 w2 cn2 (hK _ _ _ u2) (by obtain ⟨ty, ht⟩ := rt_n v3 (by omega); rw [ht]) (hC _ _ _ _ _ v1 (by rw [xsum_rev]; exact xmx_ok w3 qX) u1) v8 v6 hd
        · obtain ⟨V1, u1, u2⟩ := cr_some h
          exact G_statN hx hb hml hown hts hN hKK hsz hR hRf v1 hk0 v2 w2 cn2 (hK _ _ _ u2) (by obtain ⟨ty, ht⟩ := rt_n v3 (by omega); rw [ht]) (hC _ _ _ _ _ v1 (by rw [xsum_rev]; exact xmx_ok w3 qX) u1) v8 v6 hd
        · obtain ⟨x, V1, u1, u2⟩ := cv_some h
          exact G_statN hx hb hml hown hts hN hKK hsz hR hRf v1 hk0 v2 w2 cn2 (hK _ _ _ u2) (by rw [rt_3 v3]) (hC _ _ _ _ _ v1 (by rw [xsum_rev]; exact xmx_ok w3 qX) u1) v8 v6 hd
        · omega
        · rename_i a0 a1 a2 a3 a8
          rcases (by omega : r3 = 0 ∨ r3 = 1 ∨ r3 = 2 ∨ r3 = 3) with q | q | q | q
          · exact (a0 q).elim
          · exact (a1 q).elim
          · exact (a2 q).elim
          · exact (a3 q).elim
    · have q2 := bq q2
      have q4 := bq q4
      subst q2
      subst q4
      simp only [xins, o_inv, xtk_eq, xdp_eq, xrv_eq, List.append_nil] at h
      obtain ⟨cnd, h⟩ := xif_some h
      obtain ⟨cn2, h⟩ := xif_some h
      simp only [Bool.and_eq_true] at cnd
      obtain ⟨⟨⟨w1, w2⟩, w3⟩, w4⟩ := cnd
      have cn2 := Nat.le_of_ble_eq_true cn2
      split at h
      · exact G_max hx hb hml hown hts ⟨by omega, by omega⟩ (by simpa using cn2) (hasX_ok q1) hd hR (hK _ _ _ h)
      · cases h
  all_goals (first | (simp only [ckE] at hce; cases hce; done) | skip)

end
end
section
/-! soundness: runs, and the contract of a call -/
theorem xblk_mem {B : List XB} {pc : Nat} {b : XB} : xblk B pc = some b → b ∈ B ∧ b.1 = pc := by
  induction B with
  | nil => intro h; cases h
  | cons a B ih =>
    intro h
    simp only [xblk] at h
    split at h
    · rename_i q
      cases h
      exact ⟨List.mem_cons_self, bq q⟩
    · exact ⟨List.mem_cons_of_mem _ (ih h).1, (ih h).2⟩
theorem xsl_len : ∀ (as : List XS), (xsl as).length = xsum as := by
  intro as
  induction as with
  | nil => rfl
  | cons v l ih =>
    match v with
    | .inl x => simp only [xsl, List.length_cons, xsum, xcat, ih]; omega
    | .inr (.inl x) => simp only [xsl, List.length_cons, xsum, xcat, ih]; omega
    | .inr (.inr (.inl x)) => simp only [xsl, List.length_cons, xsum, xcat, ih]; omega
    | .inr (.inr (.inr (.inl x))) => simp only [xsl, List.length_cons, xsum, xcat, ih]; omega
    | .inr (.inr (.inr (.inr (g, i)))) => simp only [xsl, List.length_cons, xsum, xcat, ih]; omega
theorem xpad_len : ∀ (n : Nat) (l : List XS), (xpad n l).length = n := by
  intro n
  induction n with
  | zero => intro l; rfl
  | succ n ih => intro l; cases l <;> simp [xpad, ih]
theorem xpad_mem {v : XS} : ∀ (n : Nat) (l : List XS), v ∈ xpad n l → v = xr 0 0 ∨ v ∈ l := by
  intro n
  induction n with
  | zero => intro l h; cases h
  | succ n ih =>
    intro l h
    cases l with
    | nil =>
      rcases List.mem_cons.mp h with h | h
      · exact Or.inl h
      · exact (ih [] h)
    | cons a l =>
      rcases List.mem_cons.mp h with h | h
      · exact Or.inr (h ▸ List.mem_cons_self)
      · exact (ih l h).imp id (List.mem_cons_of_mem _)
theorem xsl_mem {v : XS} : ∀ (l : List XS), v ∈ xsl l → v = xr 0 0 ∨ v ∈ l := by
  intro l
  induction l with
  | nil => intro h; cases h
  | cons a l ih =>
    intro h
    have one : v ∈ a :: xsl l → v = xr 0 0 ∨ v ∈ a :: l := fun h => by
      rcases List.mem_cons.mp h with h | h
      · exact Or.inr (h ▸ List.mem_cons_self)
      · exact (ih h).imp id (List.mem_cons_of_mem _)
    have two : v ∈ a :: xr 0 0 :: xsl l → v = xr 0 0 ∨ v ∈ a :: l := fun h => by
      rcases List.mem_cons.mp h with h | h
      · exact Or.inr (h ▸ List.mem_cons_self)
      · rcases List.mem_cons.mp h with h | h
        · exact Or.inl h
        · exact (ih h).imp id (List.mem_cons_of_mem _)
    match a, h, one, two with
    | .inl x, h, one, _ => exact one h
    | .inr (.inl x), h, _, two => exact two h
    | .inr (.inr (.inl x)), h, one, _ => exact one h
    | .inr (.inr (.inr (.inl x))), h, _, two => exact two h
    | .inr (.inr (.inr (.inr (g, i)))), h, one, _ => exact one h
theorem xpad_get : ∀ (n : Nat) (l : List XS) (k : Nat), dead (xget (xpad n l) k) = false → k < l.length ∧ xget (xpad n l) k = xget l k := by
  intro n
  induction n with
  | zero => intro l k h; cases h
  | succ n ih =>
    intro l k h
    cases l with
    | nil => cases k with
      | zero => cases h
      | succ k => exact absurd (ih [] k h).1 (by simp)
    | cons a l => cases k with
      | zero => exact ⟨by simp, rfl⟩
      | succ k =>
        obtain ⟨h1, h2⟩ := ih l k h
        exact ⟨by simpa using h1, h2⟩
theorem xsl_args (ad : Nat → Nat → Nat) : ∀ (as : List XS) (o k : Nat), dead (xget (xsl as) k) = false → (o + k, tv ad (xget (xsl as) k)) ∈ lv_args o (as.map (tv ad)) := by
  intro as
  induction as with
  | nil => intro o k h; cases h
  | cons a l ih =>
    intro o k h
    have one : xsl (a :: l) = a :: xsl l → xcat a = 1 → (o + k, tv ad (xget (xsl (a :: l)) k)) ∈ lv_args o ((a :: l).map (tv ad)) := fun e hc => by
      rw [e] at h ⊢
      show _ ∈ (o, tv ad a) :: lv_args (if (tv ad a).category = 2 then o + 2 else o + 1) (l.map (tv ad))
      rw [tv_cat, hc, if_neg (by omega)]
      cases k with
      | zero => exact List.mem_cons_self
      | succ k =>
        have := ih (o + 1) k h
        rw [show o + (k + 1) = o + 1 + k by omega]
        exact List.mem_cons_of_mem _ this
    have two : xsl (a :: l) = a :: xr 0 0 :: xsl l → xcat a = 2 → (o + k, tv ad (xget (xsl (a :: l)) k)) ∈ lv_args o ((a :: l).map (tv ad)) := fun e hc => by
      rw [e] at h ⊢
      show _ ∈ (o, tv ad a) :: lv_args (if (tv ad a).category = 2 then o + 2 else o + 1) (l.map (tv ad))
      rw [tv_cat, hc, if_pos rfl]
      match k, h with
      | 0, h => exact List.mem_cons_self
      | 1, h => cases h
      | k + 2, h =>
        have := ih (o + 2) k h
        rw [show o + (k + 2) = o + 2 + k by omega]
        exact List.mem_cons_of_mem _ this
    match a, one, two with
    | .inl x, one, _ => exact one rfl rfl
    | .inr (.inl x), _, two => exact two rfl rfl
    | .inr (.inr (.inl x)), one, _ => exact one rfl rfl
    | .inr (.inr (.inr (.inl x))), _, two => exact two rfl rfl
    | .inr (.inr (.inr (.inr (g, i)))), one, _ => exact one rfl rfl
theorem lg_len (ad : Nat → Nat → Nat) : ∀ (as : List XS), (lg_sl (as.map (tv ad))).length = xsum as := by
  intro as
  induction as with
  | nil => rfl
  | cons v l ih =>
    show ((if (tv ad v).category = 2 then [Slot.val (tv ad v), .second] else [Slot.val (tv ad v)]) ++ lg_sl (l.map (tv ad))).length = xcat v + xsum l
    rw [List.length_append, ih, tv_cat]
    have : xcat v = 1 ∨ xcat v = 2 := by rw [← tv_cat ad]; exact lv_cat _
    rcases this with q | q
    · rw [q, if_neg (by omega)]; rfl
    · rw [q, if_pos rfl]; rfl
theorem nm_init : ((List.range 310).filter (fun m => mN m)).map (fun m => (mY m).name) = ((List.range 310).filter (fun m => mN m)).map (fun _ => "<init>") := rfl
end
section
/-! soundness: runs -/
section
variable {p : Program} {l : Launch} {e : Env} {R : Room} {s : State} {mi : MethodId} {args : Array Value} {below : List Frame} {meth : Method} {c : Code} {Q : State → Prop} {D : va_G} {dA : Nat → ClassId} {z : Nat} {sc md : Bool} {b m n0 : Nat} {ad0 : Nat → Nat → Nat} {r : XS} {Vf V0 : XM} {pc : Nat} {ls st : List XS} {V : XM} {d : Nat} {F : Nat → List XS → List XS → XM → XR} {C : Nat → List XS → XM → XR}

theorem xrun_sound (hcx : Cx p D dA z sc b V0 s mi args meth c m) (hm : m < 311) (hcm : ckM m = true) (hR : nF md n0 Vf - n0 ≤ R.cells ∧ Sl (nF md n0 Vf) - Sl n0 ≤ R.slots) (hRf : d + 1 ≤ R.frames ∧ 60 * d + 60 ≤ R.locals) (hend : Hend p l e R s mi args below meth c Q D dA z sc md m n0 ad0 r Vf) (hF : ∀ t ls st V, F t ls st V = some (r, Vf) → Good p l e R s mi args below meth c Q D dA z sc md b m n0 ad0 r Vf V0 t ls st V) (hC : ∀ m' as V r1 V1, ClOk m' → xsum as ≤ XML m' → C m' as V = some (r1, V1) → Ctr l D dA z md d m' as V r1 V1) (nx : Nat) : ∀ (es : List XE) (pc : Nat) (ls st : List XS) (V : XM), ckC m pc es nx = true → xrun WW md F C nx es ls st V = some (r, Vf) → Good p l e R s mi args below meth c Q D dA z sc md b m n0 ad0 r Vf V0 pc ls st V := by
  intro es
  induction es with
  | nil =>
    intro pc ls st V hc h
    have hc : pc = nx := bq hc
    subst hc
    exact hF _ _ _ _ h
  | cons en es ih =>
    intro pc ls st V hc h
    simp only [ckC, Bool.and_eq_true] at hc
    obtain ⟨⟨⟨c1, c2⟩, c3⟩, c4⟩ := hc
    have c1 := bq c1
    subst c1
    simp only [xrun] at h
    exact xone_sound hcx hm hR hRf hend c2 c3 hF (fun ls st V hk => ih _ ls st V c4 hk) hC h
theorem xmac_sound (hcx : Cx p D dA z sc b V0 s mi args meth c m) (hm : m < 311) (hcm : ckM m = true) (hR : nF md n0 Vf - n0 ≤ R.cells ∧ Sl (nF md n0 Vf) - Sl n0 ≤ R.slots) (hRf : d + 1 ≤ R.frames ∧ 60 * d + 60 ≤ R.locals) (hend : Hend p l e R s mi args below meth c Q D dA z sc md m n0 ad0 r Vf) (hF : ∀ t ls st V, F t ls st V = some (r, Vf) → Good p l e R s mi args below meth c Q D dA z sc md b m n0 ad0 r Vf V0 t ls st V) (hC : ∀ m' as V r1 V1, ClOk m' → xsum as ≤ XML m' → C m' as V = some (r1, V1) → Ctr l D dA z md d m' as V r1 V1) {pc : Nat} {ls st : List XS} {V : XM} (h : xmac WW md (XP m) F C pc ls st V = some (r, Vf)) : Good p l e R s mi args below meth c Q D dA z sc md b m n0 ad0 r Vf V0 pc ls st V := by
  have hall := List.all_eq_true.mp (show (XP m).all (ckB m) = true from hcm)
  have hF2 : ∀ t ls st V, xmkK (XP m) t ls (fun ls => F t ls st V) = some (r, Vf) → Good p l e R s mi args below meth c Q D dA z sc md b m n0 ad0 r Vf V0 t ls st V := by
    intro t ls st V hh
    rw [xmkK_eq] at hh
    unfold xmk at hh
    cases hb : xblk (XP m) t with
    | none =>
      rw [hb] at hh
      exact hF _ _ _ _ hh
    | some bl =>
      rw [hb] at hh
      have h1 := hall bl (xblk_mem hb).1
      unfold ckB at h1
      simp only [Bool.and_eq_true] at h1
      exact G_mask bl.2.1 (bq h1.2) (hF _ _ _ _ hh)
  unfold xmac at h
  cases hb : xblk (XP m) pc with
  | none => rw [hb] at h; cases h
  | some bl =>
    rw [hb] at h
    obtain ⟨m3, m4⟩ := xblk_mem hb
    have h1 := hall bl m3
    unfold ckB at h1
    simp only [Bool.and_eq_true] at h1
    rw [m4] at h1
    exact xrun_sound hcx hm hcm hR hRf hend hF2 hC bl.2.2.2 bl.2.2.1 pc ls st V h1.1 h
theorem xex_sound (hcx : Cx p D dA z sc b V0 s mi args meth c m) (hm : m < 311) (hcm : ckM m = true) (hR : nF md n0 Vf - n0 ≤ R.cells ∧ Sl (nF md n0 Vf) - Sl n0 ≤ R.slots) (hRf : d + 1 ≤ R.frames ∧ 60 * d + 60 ≤ R.locals) (hend : Hend p l e R s mi args below meth c Q D dA z sc md m n0 ad0 r Vf) (hC : ∀ f, ∀ m' as V r1 V1, ClOk m' → xsum as ≤ XML m' → xdn (fun d m as V => xex WW XP XML md f d m 0 (xpad (XML m) (xsl as)) [] V) d m' as V = some (r1, V1) → Ctr l D dA z md d m' as V r1 V1) : ∀ (f pc : Nat) (ls st : List XS) (V : XM), xex WW XP XML md f d m pc ls st V = some (r, Vf) → Good p l e R s mi args below meth c Q D dA z sc md b m n0 ad0 r Vf V0 pc ls st V := by
  intro f
  induction f with
  | zero => intro pc ls st V h; simp only [xex] at h; cases h
  | succ f ih =>
    intro pc ls st V h
    exact xmac_sound hcx hm hcm hR hRf hend (fun t ls st V hh => ih t ls st V hh) (hC f) (show xmac WW md (XP m) _ _ pc ls st V = some (r, Vf) from h)
end
theorem lvl_entry {ad : Nat → Nat → Nat} {as : List XS} {N : Nat} (h : xsum as ≤ N) : lv_has ((lg_sl (as.map (tv ad)) ++ List.replicate (N - (lg_sl (as.map (tv ad))).length) Slot.unset).toArray) N (lvl ad (xpad N (xsl as))) := by
  have h0 := lv_entry (as.map (tv ad)) (n := N) (by rw [lg_len]; exact h)
  refine ⟨h0.1, h0.2.1, fun q hq => h0.2.2 q ?_⟩
  obtain ⟨a, b, c⟩ := lvl_mem.mp hq
  obtain ⟨h1, h2⟩ := xpad_get N (xsl as) q.1 b
  rw [h2] at b c
  have := xsl_args ad as 0 q.1 b
  rw [Nat.zero_add, ← c] at this
  exact this
theorem init_name {k : Nat} (hk : k < 310) (h : mN k = true) : (mY k).name = "<init>" := List.map_inj_left.mp nm_init k (List.mem_filter.mpr ⟨List.mem_range.mpr hk, h⟩)
/-- a state at hand somewhere: what the pure facts rest on -/
def Base (D : va_G) (dA : Nat → ClassId) (z : Nat) : Prop := ∃ (p : Program) (e : Env) (s : State) (args : Array Value), p.tables.exec = Jvm.exec ∧ (∀ w ∈ TW, w.before args s = true) ∧ NWs s ∧ va_K D vwCl (tysA dA) s ∧ z ≤ s.heap.size ∧ ∀ k, k < 14 → ∃ ci, s.vm.findClass (cN k) = some ci
theorem rt_2 {rt : Option FieldType} (h : rtag rt = 2) : ∃ nm, rt = some (.object nm) := by
  cases rt with
  | none => cases h
  | some t =>
    cases t with
    | object nm => exact ⟨nm, rfl⟩
    | _ => cases h
theorem met_step (l : Launch) (D : va_G) (dA : Nat → ClassId) (z : Nat) (md : Bool) (hbase : Base D dA z) (d f k : Nat) (as : List XS) (V : XM) (r : XS) (Vf : XM) (hcl : ClOk k) (hk14 : mK k < 14) (hck : ckM k = true) (hsum : xsum as ≤ XML k) (h : xex WW XP XML md f d k 0 (xpad (XML k) (xsl as)) [] V = some (r, Vf))
    (hC : ∀ f, ∀ m' as V r1 V1, ClOk m' → xsum as ≤ XML m' → xdn (fun d m as V => xex WW XP XML md f d m 0 (xpad (XML m) (xsl as)) [] V) d m' as V = some (r1, V1) → Ctr l D dA z md d m' as V r1 V1) : Ctr l D dA z md (d + 1) k as V r Vf := by
  intro n ad h1 h2 h3 has
  obtain ⟨⟨k1, k14⟩, k2, k3, k4, k5, k6⟩ := id hcl
  have hls : ∀ v ∈ xpad (XML k) (xsl as), cS false n v := fun v hv => by
    rcases xpad_mem _ _ hv with q | q
    · rw [q]; exact Or.inl rfl
    · rcases xsl_mem _ q with q | q
      · rw [q]; exact Or.inl rfl
      · exact has v q
  have good : ∀ (p : Program) (e : Env) (R : Room) (s : State) (mi : MethodId) (args : Array Value) (below : List Frame) (meth : Method) (c : Code) (Q : State → Prop), Cx p D dA z false 0 V s mi args meth c k → (nF md n Vf - n ≤ R.cells ∧ Sl (nF md n Vf) - Sl n ≤ R.slots) → (d + 1 ≤ R.frames ∧ 60 * d + 60 ≤ R.locals) → Hend p l e R s mi args below meth c Q D dA z false md k n ad r Vf → PEnd V false md n r Vf ∧ ∀ H locs lsA, world D dA z md n V ad H → va_S (fun q => z ≤ q) s.heap H locs → lv_has lsA (XML k) (lvl ad (xpad (XML k) (xsl as))) → W p l e R s mi args below meth c H locs (n - n) (Sl n - Sl n) Q (F0 mi 0 lsA []) := by
    intro p e R s mi args below meth c Q hcx hR hRf hend
    obtain ⟨a, bb⟩ := xex_sound (V0 := V) hcx (by omega) hck hR hRf hend hC f 0 _ [] V h n h1 h2 h3 (Nat.le_refl n) (xpad_len _ _) hls (fun v hv => by cases hv) (fun _ => rfl) rfl
    exact ⟨a, fun H locs lsA q1 q2 q3 => bb ad H locs lsA (fun _ _ _ => rfl) (fun q => by cases q) q1 q2 q3⟩
  have pend : PEnd V false md n r Vf := by
    obtain ⟨p, e, s, args, b1, b2, b3, b4, b5, b6⟩ := hbase
    obtain ⟨ci, hci⟩ := b6 (mK k) hk14
    let c : Code := { maxStack := 0, maxLocals := XML k, code := mC k, exceptionTable := #[], attributes := #[] }
    let meth : Method := { name := if mN k = true then "<init>" else "", desc := "", sig := { parameters := [], returnType := mR k }, accessFlags := 0, code := none }
    have hcx : Cx p D dA z false 0 V s ⟨ci, 0⟩ args meth c k := ⟨b1, rfl, rfl, rfl, hci, b2, b3, b4, (by show (hasFlag 0 Acc.synchronized && _) = false; rw [show hasFlag 0 Acc.synchronized = false by decide]; rfl), fun q => by show (if mN k = true then "<init>" else "") = "<init>"; rw [if_pos q], b5, fun q => by cases q⟩
    exact (good p e { frames := d + 1, cells := nF md n Vf - n, slots := Sl (nF md n Vf) - Sl n, locals := 60 * d + 60 } s ⟨ci, 0⟩ args [] meth c (fun _ => True) hcx ⟨Nat.le_refl _, Nat.le_refl _⟩ ⟨Nat.le_refl _, Nat.le_refl _⟩ (fun pc n' ad' H locs lsA _ _ _ _ _ _ => ⟨fun _ _ _ _ => fun T _ _ => ⟨_, Steps.refl _, trivial⟩, fun _ _ _ _ => fun T _ _ => ⟨_, Steps.refl _, trivial⟩, fun _ _ _ _ _ => fun T _ _ => ⟨_, Steps.refl _, trivial⟩, fun _ _ => fun T _ _ => ⟨_, Steps.refl _, trivial⟩⟩)).1
  refine ⟨pend, ?_⟩
  refine Met.ofW (cc := mC k) (maxL := XML k) (ret := mR k) k5 rfl ?_
  intro p e s mi args below meth c s₁ B hml hv
  obtain ⟨rfl, hsz, hw, hK, hN⟩ := hv
  have hts : ∀ w ∈ TW, w.before ((as.map (tv ad)).toArray) s = true := fun w hw => atoms_spec (ws := wsM k) B.pre w (List.mem_cons_of_mem _ hw)
  have hown : s.vm.findClass (cN (mK k)) = some mi.cls := by rw [← cls_eq k1]; exact findClass_of_methodNamed B.named
  have hcx : Cx p D dA z false 0 V s mi ((as.map (tv ad)).toArray) meth c k := ⟨B.exec, B.bytes, B.returns, hml, hown, hts, hN, hK, B.notSynchronized, fun q => ((name_of_methodNamed B.named B.method).1).trans (init_name k1 q), hsz, fun q => by cases q⟩
  have hlocks := B.notSynchronized
  have hx := B.exec
  have hb := B.bytes
  have hr := B.returns
  rw [lg_entry_eq]
  have hg := (good p e (rmD (d + 1) (nF md n Vf - n) (Sl (nF md n Vf) - Sl n)) s mi _ below meth c (MQ below (XPost D dA z md n ad (nF md n Vf) Vf r (mR k)) ((as.map (tv ad)).toArray) s (nF md n Vf - n) (Sl (nF md n Vf) - Sl n) (fun q => z ≤ q)) hcx ⟨Nat.le_refl _, Nat.le_refl _⟩ ⟨Nat.le_refl _, by show 60 * d + 60 ≤ 60 * (d + 1); omega⟩ ?_).2 s.heap [] _ hw va_S.rf (lvl_entry hsum)
  · rw [Nat.sub_self, Nat.sub_self] at hg
    exact hg
  · intro pc n' ad' H locs lsA en hn' hax hw' hS hcr
    have hq : ∀ v, v = rval (mR k) ad' r → ∀ t : State, t.heap = H → s.WarmedH t.vm → XPost D dA z md n ad (nF md n Vf) Vf r (mR k) ((as.map (tv ad)).toArray) s (.returned v) t := fun v hv t ht _ => ⟨ad', hax, by rw [ht, ← en]; exact hw', by rw [hv], hS.F ht⟩
    subst en
    refine ⟨fun x hx0 hrt hd => ?_, fun x hx0 hrt hd => ?_, fun g i hx0 hrt hd => ?_, fun hrt hd => ?_⟩
    · subst hx0
      rcases hrt with hrt | ⟨hrt, hx1⟩
      · exact W.iret hx hb (hr.trans hrt) (hq _ (by rw [hrt]; rfl)) hS.2.2 hd
      · refine W.zret (ty := .boolean) hx hb (hr.trans hrt) ?_ (hq _ (by rw [hrt]; rfl)) hS.2.2 hd
        rcases hx1 with q | q <;> subst q <;> rfl
    · subst hx0
      exact W.lret hx hb (hr.trans hrt) (hq _ (by rw [hrt]; rfl)) hS.2.2 hd
    · subst hx0
      obtain ⟨nm, hm⟩ := rt_2 hrt
      exact W.aret (v := .ref (ad' (g + 1) i)) hx hb (hr.trans hm) (Or.inl ⟨nm, rfl⟩) (Or.inr ⟨_, rfl⟩) (hq _ (by rw [hm]; rfl)) hS.2.2 hd
    · exact W.vret hx hb (hr.trans hrt) (hq _ (by rw [hrt]; rfl)) hS.2.2 hd
/-- A CALL that the abstract machine ends is a contract of the machine's -/
theorem met_all (l : Launch) (D : va_G) (dA : Nat → ClassId) (z : Nat) (md : Bool) (hbase : Base D dA z) (hck : ∀ k, k < 310 → ckM k = true) : ∀ (d f k : Nat) (as : List XS) (V : XM) (r : XS) (Vf : XM), ClOk k → mK k < 14 → xsum as ≤ XML k → xex WW XP XML md f d k 0 (xpad (XML k) (xsl as)) [] V = some (r, Vf) → Ctr l D dA z md (d + 1) k as V r Vf := by
  intro d
  induction d with
  | zero =>
    intro f k as V r Vf hcl hk14 hsum h
    exact met_step l D dA z md hbase _ f k as V r Vf hcl hk14 (hck k hcl.1.1) hsum h (fun f m' as V r1 V1 _ _ hh => by cases hh)
  | succ d ihd =>
    intro f k as V r Vf hcl hk14 hsum h
    exact met_step l D dA z md hbase _ f k as V r Vf hcl hk14 (hck k hcl.1.1) hsum h (fun f m' as V r1 V1 c1 c2 hh => ihd f m' as V r1 V1 c1 c1.1.2 c2 hh)
end
