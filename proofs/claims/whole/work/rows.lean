section
/-! THE ABSTRACT MACHINE: values are numbers (Int) with a tag, or a cell (group, place); memory is a function -/
abbrev XS : Type := Int ⊕ (Int ⊕ (Int ⊕ (Int ⊕ (Nat × Nat))))
abbrev xi (x : Int) : XS := Sum.inl x
abbrev xl (x : Int) : XS := Sum.inr (Sum.inl x)
abbrev xf (x : Int) : XS := Sum.inr (Sum.inr (Sum.inl x))
abbrev xd (x : Int) : XS := Sum.inr (Sum.inr (Sum.inr (Sum.inl x)))
abbrev xr (g i : Nat) : XS := Sum.inr (Sum.inr (Sum.inr (Sum.inr (g, i))))
abbrev XM : Type := Nat → Nat → Nat → Int
abbrev XR : Type := Option (XS × XM)
/-- one cell's place is written -/
def xu (V : XM) (g i j : Nat) (x : Int) : XM := fun a b c => if a = g ∧ b = i ∧ c = j then x else V a b c
/-- a cell comes: n + 1 of them now, all its places 0 -/
def xz (V : XM) (g i n : Nat) : XM := fun a b c => if a = 0 ∧ b = 0 ∧ c = 0 then (n : Int) + 1 else if a = g ∧ b = i then 0 else V a b c
-- numbers
def w32 (x : Int) : Int := (x + 2147483648) % 4294967296 - 2147483648
def w64 (x : Int) : Int := (x + 9223372036854775808) % 18446744073709551616 - 9223372036854775808
def w8 (x : Int) : Int := (x + 128) % 256 - 128
def w16 (x : Int) : Int := (x + 32768) % 65536 - 32768
def c16 (x : Int) : Int := x % 65536
def iAnd (x y : Int) : Int := (Int32.ofInt x &&& Int32.ofInt y).toInt
def iOr (x y : Int) : Int := (Int32.ofInt x ||| Int32.ofInt y).toInt
def iXor (x y : Int) : Int := (Int32.ofInt x ^^^ Int32.ofInt y).toInt
def lAnd (x y : Int) : Int := (Int64.ofInt x &&& Int64.ofInt y).toInt
def lOr (x y : Int) : Int := (Int64.ofInt x ||| Int64.ofInt y).toInt
def lXor (x y : Int) : Int := (Int64.ofInt x ^^^ Int64.ofInt y).toInt
def lShl (x y : Int) : Int := w64 (x * 2 ^ (y % 64).toNat)
def lUshr (x y : Int) : Int := w64 ((x % 18446744073709551616) / 2 ^ (y % 64).toNat)
def cmp3 (x y : Int) : Int := if x < y then -1 else if x = y then 0 else 1
def fL2F (x : Int) : Int := ((FP.l2f (Int64.ofInt x)).toNat : Int)
def fL2D (x : Int) : Int := ((FP.l2d (Int64.ofInt x)).toNat : Int)
def fF2L (x : Int) : Int := (FP.f2l (UInt32.ofNat x.toNat)).toInt
def fD2L (x : Int) : Int := (FP.d2l (UInt64.ofNat x.toNat)).toInt
def fF2D (x : Int) : Int := ((FP.f2d (UInt32.ofNat x.toNat)).toNat : Int)
def fNum (x : Int) : Bool := decide (UInt64.ofNat x.toNat &&& 0x7fffffffffffffff ≤ 0x7ff0000000000000)
def fDcmp (op : CmpOp) (x y : Int) : Int := (Op.cmpValue (FP.dcmp (UInt64.ofNat x.toNat) (UInt64.ofNat y.toNat)) op).toInt
-- locals
def xget : List XS → Nat → XS
  | [], _ => xr 0 0
  | v :: _, 0 => v
  | _ :: l, k + 1 => xget l k
def xset : List XS → Nat → XS → List XS
  | [], _, _ => []
  | _ :: l, 0, v => v :: l
  | a :: l, k + 1, v => a :: xset l k v
/-- the same, handed on written out -/
def xsetK : List XS → Nat → XS → (List XS → XR) → XR
  | [], _, _, k => k []
  | _ :: l, 0, v, k => k (v :: l)
  | a :: l, n + 1, v, k => xsetK l n v (fun l => k (a :: l))
def xone1 : XS → Bool
  | .inr (.inl _) => false
  | .inr (.inr (.inr (.inl _))) => false
  | _ => true
/-- no long stands just below -/
def xok1 (ls : List XS) : Nat → Bool
  | 0 => true
  | k + 1 => xone1 (xget ls k)
def xmask : List Bool → List XS → List XS
  | true :: b, v :: l => v :: xmask b l
  | false :: b, _ :: l => xr 0 0 :: xmask b l
  | _, _ => []
def xmaskK : List Bool → List XS → (List XS → XR) → XR
  | true :: b, v :: l, k => xmaskK b l (fun l => k (v :: l))
  | false :: b, _ :: l, k => xmaskK b l (fun l => k (xr 0 0 :: l))
  | [], _, k => k []
  | _ :: _, [], k => k []
def xpad : Nat → List XS → List XS
  | 0, _ => []
  | n + 1, [] => xr 0 0 :: xpad n []
  | n + 1, v :: l => v :: xpad n l
def xpadK : Nat → List XS → (List XS → XR) → XR
  | 0, _, k => k []
  | n + 1, [], k => xpadK n [] (fun l => k (xr 0 0 :: l))
  | n + 1, v :: l, k => xpadK n l (fun l => k (v :: l))
def xsl : List XS → List XS
  | [] => []
  | .inr (.inl x) :: l => xl x :: xr 0 0 :: xsl l
  | .inr (.inr (.inr (.inl x))) :: l => xd x :: xr 0 0 :: xsl l
  | v :: l => v :: xsl l
/-- no cell of the script's -/
def xnos : List XS → Bool
  | [] => true
  | .inr (.inr (.inr (.inr (1, _)))) :: _ => false
  | _ :: l => xnos l
def xcat : XS → Nat
  | .inr (.inl _) => 2
  | .inr (.inr (.inr (.inl _))) => 2
  | _ => 1
def xsum : List XS → Nat
  | [] => 0
  | v :: l => xcat v + xsum l
def xtk : Nat → List XS → List XS
  | 0, _ => []
  | _ + 1, [] => []
  | n + 1, v :: l => v :: xtk n l
def xdp : Nat → List XS → List XS
  | 0, l => l
  | _ + 1, [] => []
  | n + 1, _ :: l => xdp n l
def xrv : List XS → List XS → List XS
  | [], a => a
  | v :: l, a => xrv l (v :: a)
/-- what follows a call, by what comes back -/
def ci (x : XR) (k : Int → XM → XR) : XR := match x with
  | some (.inl v, V) => k v V
  | _ => none
def cl (x : XR) (k : Int → XM → XR) : XR := match x with
  | some (.inr (.inl v), V) => k v V
  | _ => none
/-- the one cell that calls give back is the walk's -/
def cr (x : XR) (k : XM → XR) : XR := match x with
  | some (.inr (.inr (.inr (.inr (9, 0)))), V) => k V
  | _ => none
def cv (x : XR) (k : XM → XR) : XR := match x with
  | some (_, V) => k V
  | _ => none
/-- an entry: pc, instruction, length, number, three places, targets -/
abbrev XE : Type := Nat × Instr × Nat × Int × Nat × Nat × Nat × List Nat
abbrev e0 (pc : Nat) (i : Instr) (len : Nat) : XE := (pc, i, len, 0, 0, 0, 0, [])
abbrev e1 (pc : Nat) (i : Instr) (len r : Nat) : XE := (pc, i, len, 0, r, 0, 0, [])
abbrev ec (pc : Nat) (i : Instr) (len : Nat) (c : Int) : XE := (pc, i, len, c, 0, 0, 0, [])
abbrev e3 (pc : Nat) (i : Instr) (len r1 r2 r3 : Nat) : XE := (pc, i, len, 0, r1, r2, r3, [])
abbrev es (pc : Nat) (i : Instr) (len : Nat) (c : Int) (r1 : Nat) (t : List Nat) : XE := (pc, i, len, c, r1, 0, 0, t)
abbrev ei (pc : Nat) (i : Instr) (len : Nat) (c : Int) (r1 r2 r3 : Nat) : XE := (pc, i, len, c, r1, r2, r3, [])
abbrev ek (pc : Nat) (i : Instr) (len : Nat) (c : Int) (r1 : Nat) : XE := (pc, i, len, c, r1, 0, 0, [])
/-- the world's shape: kind of a group's cells (10 + class an object, 1 int[], 2 long[], 3 boolean[], 4 double[], 5 Shelf[], 6 Table[], 7 the script, 9 nothing), an array's length, what a place of references holds: the group (of an array: at 0), the place in it, the cells in the order in which they come, how many -/
abbrev XW : Type := (Nat → Nat) × (Nat → Int) × (Nat → Nat → Nat) × (Nat → Nat → Nat → Nat) × (Nat → Nat × Nat) × Nat
def xgl {α : Type} (d : α) : List α → Nat → α
  | [], _ => d
  | v :: _, 0 => v
  | _ :: l, k + 1 => xgl d l k
def xg2 {α : Type} (d : α) (L : List (List α)) (k : Nat) : α := xgl d (xgl [] L (k / 16)) (k % 16)
def xmem : List Nat → Nat → Bool
  | [], _ => false
  | a :: l, t => match Nat.beq a t with
    | true => true
    | false => xmem l t
/-- the receiver is of that kind (0: none is asked for) -/
def xrk (w : XW) (st : List XS) (r2 : Nat) : Nat → Bool
  | 0 => true
  | k + 1 => match r2 with
    | 0 => false
    | j + 1 => match xget st j with
      | .inr (.inr (.inr (.inr (g, _)))) => Nat.beq (w.1 g) (k + 1)
      | _ => false
def xif (b : Bool) (a : XR) : XR := match b with
  | true => a
  | false => none
def xsw (x lo : Int) (d : Nat) (F : Nat → XR) : List Nat → XR
  | [] => F d
  | t :: l => if x = lo then F t else xsw x (lo + 1) d F l
def xload (w : XW) (g i : Nat) (k : Nat) (j : Int) (K : Int → XR) (V : XM) : XR := xif (Nat.beq (w.1 g) k) (if 0 ≤ j ∧ j < w.2.1 g then K (V g i j.toNat) else none)
def xnew (w : XW) (V : XM) (k : Nat) (c : Int) (K : Nat → Nat → XM → XR) : XR :=
  match w.2.2.2.2.1 (V 0 0 0).toNat with
  | (g, i) => xif (Nat.blt (V 0 0 0).toNat w.2.2.2.2.2) (xif (Nat.beq (w.1 g) k) (xif (decide (w.2.1 g = c)) (K g i (xz V g i (V 0 0 0).toNat))))
def o_il (r1 : Nat) (K : List XS → List XS → XM → XR) (ls st : List XS) (V : XM) : XR := match xget ls r1 with | .inl x => K ls (xi x :: st) V | _ => none
def o_ll (r1 : Nat) (K : List XS → List XS → XM → XR) (ls st : List XS) (V : XM) : XR := match xget ls r1 with | .inr (.inl x) => K ls (xl x :: st) V | _ => none
def o_al (r1 : Nat) (K : List XS → List XS → XM → XR) (ls st : List XS) (V : XM) : XR := match xget ls r1 with | .inr (.inr (.inr (.inr (g, i)))) => (match g with | 0 => none | g + 1 => K ls (xr (g + 1) i :: st) V) | _ => none
def o_is (r1 : Nat) (K : List XS → List XS → XM → XR) (ls st : List XS) (V : XM) : XR := match st with | .inl x :: st => xif (xok1 ls r1) (xsetK ls r1 (xi x) (fun ls => K ls st V)) | _ => none
def o_ls (r1 : Nat) (K : List XS → List XS → XM → XR) (ls st : List XS) (V : XM) : XR := match st with | .inr (.inl x) :: st => xif (xok1 ls r1) (xsetK ls r1 (xl x) (fun ls => xsetK ls (r1 + 1) (xr 0 0) (fun ls => K ls st V))) | _ => none
def o_as (r1 : Nat) (K : List XS → List XS → XM → XR) (ls st : List XS) (V : XM) : XR := match st with | .inr (.inr (.inr (.inr (g, i)))) :: st => xif (xok1 ls r1) (xsetK ls r1 (xr g i) (fun ls => K ls st V)) | _ => none
def o_inc (r1 : Nat) (c : Int) (K : List XS → List XS → XM → XR) (ls st : List XS) (V : XM) : XR := match xget ls r1 with | .inl x => xif (xok1 ls r1) (xsetK ls r1 (xi (w32 (x + c))) (fun ls => K ls st V)) | _ => none
def o_dup  (K : List XS → List XS → XM → XR) (ls st : List XS) (V : XM) : XR := match st with | .inl x :: st => K ls (xi x :: xi x :: st) V | .inr (.inr (.inr (.inr (g, i)))) :: st => K ls (xr g i :: xr g i :: st) V | _ => none
def o_dup2  (K : List XS → List XS → XM → XR) (ls st : List XS) (V : XM) : XR := match st with | .inl y :: .inr (.inr (.inr (.inr (g, i)))) :: st => K ls (xi y :: xr g i :: xi y :: xr g i :: st) V | _ => none
def o_dupx  (K : List XS → List XS → XM → XR) (ls st : List XS) (V : XM) : XR := match st with | .inl y :: .inr (.inr (.inr (.inr (g, i)))) :: st => K ls (xi y :: xr g i :: xi y :: st) V | _ => none
def o_pop  (K : List XS → List XS → XM → XR) (ls st : List XS) (V : XM) : XR := match st with | .inl _ :: st => K ls st V | _ => none
def o_i2 (f : Int → Int → Int) (K : List XS → List XS → XM → XR) (ls st : List XS) (V : XM) : XR := match st with | .inl y :: .inl x :: st => K ls (xi (f x y) :: st) V | _ => none
def o_div (f : Int → Int → Int) (K : List XS → List XS → XM → XR) (ls st : List XS) (V : XM) : XR := match st with | .inl y :: .inl x :: st => (if y = 0 then none else K ls (xi (f x y) :: st) V) | _ => none
def o_i1 (f : Int → Int) (K : List XS → List XS → XM → XR) (ls st : List XS) (V : XM) : XR := match st with | .inl x :: st => K ls (xi (f x) :: st) V | _ => none
def o_l2 (f : Int → Int → Int) (K : List XS → List XS → XM → XR) (ls st : List XS) (V : XM) : XR := match st with | .inr (.inl y) :: .inr (.inl x) :: st => K ls (xl (f x y) :: st) V | _ => none
def o_ldiv  (K : List XS → List XS → XM → XR) (ls st : List XS) (V : XM) : XR := match st with | .inr (.inl y) :: .inr (.inl x) :: st => (if y = 0 then none else K ls (xl (w64 (Int.tdiv x y)) :: st) V) | _ => none
def o_lsh (f : Int → Int → Int) (K : List XS → List XS → XM → XR) (ls st : List XS) (V : XM) : XR := match st with | .inl y :: .inr (.inl x) :: st => K ls (xl (f x y) :: st) V | _ => none
def o_lcmp  (K : List XS → List XS → XM → XR) (ls st : List XS) (V : XM) : XR := match st with | .inr (.inl y) :: .inr (.inl x) :: st => K ls (xi (cmp3 x y) :: st) V | _ => none
def o_i2l  (K : List XS → List XS → XM → XR) (ls st : List XS) (V : XM) : XR := match st with | .inl x :: st => K ls (xl x :: st) V | _ => none
def o_l2i  (K : List XS → List XS → XM → XR) (ls st : List XS) (V : XM) : XR := match st with | .inr (.inl x) :: st => K ls (xi (w32 x) :: st) V | _ => none
def o_l2f  (K : List XS → List XS → XM → XR) (ls st : List XS) (V : XM) : XR := match st with | .inr (.inl x) :: st => K ls (xf (fL2F x) :: st) V | _ => none
def o_l2d  (K : List XS → List XS → XM → XR) (ls st : List XS) (V : XM) : XR := match st with | .inr (.inl x) :: st => K ls (xd (fL2D x) :: st) V | _ => none
def o_f2l  (K : List XS → List XS → XM → XR) (ls st : List XS) (V : XM) : XR := match st with | .inr (.inr (.inl x)) :: st => K ls (xl (fF2L x) :: st) V | _ => none
def o_d2l  (K : List XS → List XS → XM → XR) (ls st : List XS) (V : XM) : XR := match st with | .inr (.inr (.inr (.inl x))) :: st => K ls (xl (fD2L x) :: st) V | _ => none
def o_f2d  (K : List XS → List XS → XM → XR) (ls st : List XS) (V : XM) : XR := match st with | .inr (.inr (.inl x)) :: st => (if fNum (fF2D x) = true then K ls (xd (fF2D x) :: st) V else none) | _ => none
def o_dcmp (op : CmpOp) (K : List XS → List XS → XM → XR) (ls st : List XS) (V : XM) : XR := match st with | .inr (.inr (.inr (.inl y))) :: .inr (.inr (.inr (.inl x))) :: st => K ls (xi (fDcmp op x y) :: st) V | _ => none
def o_gf (w : XW) (md : Bool) (r1 r2 r3 : Nat) (K : List XS → List XS → XM → XR) (ls st : List XS) (V : XM) : XR := match st with | .inr (.inr (.inr (.inr (g, i)))) :: st => xif (Nat.beq (w.1 g) r1) (match r3 with | 0 => K ls (xi (V g i r2) :: st) V | _ + 1 => (match md with | true => (if V g i r2 = 1 then K ls (xr (w.2.2.1 g r2) (w.2.2.2.1 g i r2) :: st) V else none) | false => K ls (xr (w.2.2.1 g r2) (w.2.2.2.1 g i r2) :: st) V)) | _ => none
def o_pf (w : XW) (md : Bool) (r1 r2 r3 : Nat) (K : List XS → List XS → XM → XR) (ls st : List XS) (V : XM) : XR := match r3 with | 0 => (match st with | .inl x :: .inr (.inr (.inr (.inr (g, i)))) :: st => xif (Nat.beq (w.1 g) r1) (K ls st (xu V g i r2 x)) | _ => none) | _ + 1 => (match st with | .inr (.inr (.inr (.inr (a, b)))) :: .inr (.inr (.inr (.inr (g, i)))) :: st => xif md (xif (Nat.beq (w.1 g) r1) (if w.2.2.1 g r2 = a ∧ w.2.2.2.1 g i r2 = b ∧ a ≠ 0 then K ls st (xu V g i r2 1) else none)) | _ => none)
def o_iald (w : XW) (K : List XS → List XS → XM → XR) (ls st : List XS) (V : XM) : XR := match st with | .inl j :: .inr (.inr (.inr (.inr (g, i)))) :: st => (match g with | 1 => (if 0 ≤ j ∧ j < V 1 1 0 then K ls (xi (V 1 0 j.toNat) :: st) V else none) | g => xload w g i 1 j (fun x => K ls (xi x :: st) V) V) | _ => none
def o_bald (w : XW) (K : List XS → List XS → XM → XR) (ls st : List XS) (V : XM) : XR := match st with | .inl j :: .inr (.inr (.inr (.inr (g, i)))) :: st => xload w g i 3 j (fun x => K ls (xi x :: st) V) V | _ => none
def o_lald (w : XW) (K : List XS → List XS → XM → XR) (ls st : List XS) (V : XM) : XR := match st with | .inl j :: .inr (.inr (.inr (.inr (g, i)))) :: st => xload w g i 2 j (fun x => K ls (xl x :: st) V) V | _ => none
def o_dald (w : XW) (K : List XS → List XS → XM → XR) (ls st : List XS) (V : XM) : XR := match st with | .inl j :: .inr (.inr (.inr (.inr (g, i)))) :: st => xload w g i 4 j (fun x => K ls (xd x :: st) V) V | _ => none
def o_aald (w : XW) (md : Bool) (r1 : Nat) (K : List XS → List XS → XM → XR) (ls st : List XS) (V : XM) : XR := match st with | .inl j :: .inr (.inr (.inr (.inr (g, i)))) :: st => xload w g i r1 j (fun x => (match md with | true => (if x = 1 then K ls (xr (w.2.2.1 g 0) (w.2.2.2.1 g i j.toNat) :: st) V else none) | false => K ls (xr (w.2.2.1 g 0) (w.2.2.2.1 g i j.toNat) :: st) V)) V | _ => none
def o_iast (w : XW) (K : List XS → List XS → XM → XR) (ls st : List XS) (V : XM) : XR := match st with | .inl x :: .inl j :: .inr (.inr (.inr (.inr (g, i)))) :: st => xload w g i 1 j (fun _ => K ls st (xu V g i j.toNat x)) V | _ => none
def o_bast (w : XW) (K : List XS → List XS → XM → XR) (ls st : List XS) (V : XM) : XR := match st with | .inl x :: .inl j :: .inr (.inr (.inr (.inr (g, i)))) :: st => xload w g i 3 j (fun _ => K ls st (xu V g i j.toNat (x % 2))) V | _ => none
def o_last (w : XW) (K : List XS → List XS → XM → XR) (ls st : List XS) (V : XM) : XR := match st with | .inr (.inl x) :: .inl j :: .inr (.inr (.inr (.inr (g, i)))) :: st => xload w g i 2 j (fun _ => K ls st (xu V g i j.toNat x)) V | _ => none
def o_dast (w : XW) (K : List XS → List XS → XM → XR) (ls st : List XS) (V : XM) : XR := match st with | .inr (.inr (.inr (.inl x))) :: .inl j :: .inr (.inr (.inr (.inr (g, i)))) :: st => xload w g i 4 j (fun _ => K ls st (xu V g i j.toNat x)) V | _ => none
def o_aast (w : XW) (md : Bool) (r1 r2 : Nat) (K : List XS → List XS → XM → XR) (ls st : List XS) (V : XM) : XR := match st with | .inr (.inr (.inr (.inr (a, b)))) :: .inl j :: .inr (.inr (.inr (.inr (g, i)))) :: st => xif md (xload w g i r1 j (fun _ => (if w.2.2.1 g 0 = a ∧ w.2.2.2.1 g i j.toNat = b ∧ w.1 a = r2 ∧ a ≠ 0 then K ls st (xu V g i j.toNat 1) else none)) V) | _ => none
def o_alen  (K : List XS → List XS → XM → XR) (ls st : List XS) (V : XM) : XR := match st with | .inr (.inr (.inr (.inr (1, _)))) :: st => K ls (xi (V 1 1 0) :: st) V | _ => none
def o_new (w : XW) (md : Bool) (r1 : Nat) (K : List XS → List XS → XM → XR) (ls st : List XS) (V : XM) : XR := xif md (xnew w V r1 0 (fun g i V => K ls (xr g i :: st) V))
def o_newa (w : XW) (md : Bool) (r1 : Nat) (K : List XS → List XS → XM → XR) (ls st : List XS) (V : XM) : XR := match st with | .inl x :: st => xif md (xnew w V r1 x (fun g i V => K ls (xr g i :: st) V)) | _ => none
def o_inv (w : XW) (C : Nat → List XS → XM → XR) (rk r1 r2 r3 : Nat) (K : List XS → List XS → XM → XR) (ls st : List XS) (V : XM) : XR := xif (xrk w st r2 rk && xnos (xtk r2 st)) (xif (Nat.ble (xsum (xdp r2 st)) 8) (match r3 with | 0 => ci (C r1 (xrv (xtk r2 st) []) V) (fun x V => K ls (xi x :: xdp r2 st) V) | 1 => cl (C r1 (xrv (xtk r2 st) []) V) (fun x V => K ls (xl x :: xdp r2 st) V) | 2 => cr (C r1 (xrv (xtk r2 st) []) V) (fun V => K ls (xr 9 0 :: xdp r2 st) V) | 3 => cv (C r1 (xrv (xtk r2 st) []) V) (fun V => K ls (xdp r2 st) V) | _ => (match st with | .inr (.inr (.inr (.inr (g, _)))) :: st => (match g with | 0 => none | _ + 1 => K ls st V) | _ => none)))
def o_iret (r1 : Nat) (K : List XS → List XS → XM → XR) (ls st : List XS) (V : XM) : XR := match st with | [.inl x] => (match r1 with | 0 => some (xi x, V) | _ + 1 => (if x = 0 ∨ x = 1 then some (xi x, V) else none)) | _ => none
def o_lret  (K : List XS → List XS → XM → XR) (ls st : List XS) (V : XM) : XR := match st with | [.inr (.inl x)] => some (xl x, V) | _ => none
def o_aret  (K : List XS → List XS → XM → XR) (ls st : List XS) (V : XM) : XR := match st with | [.inr (.inr (.inr (.inr (g, i))))] => (match g with | 0 => none | g + 1 => some (xr (g + 1) i, V)) | _ => none
def o_vret  (K : List XS → List XS → XM → XR) (ls st : List XS) (V : XM) : XR := match st with | [] => some (xi 0, V) | _ => none
def o_ifeq (F : Nat → List XS → List XS → XM → XR) (r1 : Nat) (K : List XS → List XS → XM → XR) (ls st : List XS) (V : XM) : XR := match st with | .inl x :: st => (if x = 0 then F r1 ls st V else K ls st V) | _ => none
def o_ifne (F : Nat → List XS → List XS → XM → XR) (r1 : Nat) (K : List XS → List XS → XM → XR) (ls st : List XS) (V : XM) : XR := match st with | .inl x :: st => (if x = 0 then K ls st V else F r1 ls st V) | _ => none
def o_iflt (F : Nat → List XS → List XS → XM → XR) (r1 : Nat) (K : List XS → List XS → XM → XR) (ls st : List XS) (V : XM) : XR := match st with | .inl x :: st => (if x < 0 then F r1 ls st V else K ls st V) | _ => none
def o_ifge (F : Nat → List XS → List XS → XM → XR) (r1 : Nat) (K : List XS → List XS → XM → XR) (ls st : List XS) (V : XM) : XR := match st with | .inl x :: st => (if x < 0 then K ls st V else F r1 ls st V) | _ => none
def o_ifgt (F : Nat → List XS → List XS → XM → XR) (r1 : Nat) (K : List XS → List XS → XM → XR) (ls st : List XS) (V : XM) : XR := match st with | .inl x :: st => (if 0 < x then F r1 ls st V else K ls st V) | _ => none
def o_ifle (F : Nat → List XS → List XS → XM → XR) (r1 : Nat) (K : List XS → List XS → XM → XR) (ls st : List XS) (V : XM) : XR := match st with | .inl x :: st => (if 0 < x then K ls st V else F r1 ls st V) | _ => none
def o_iceq (F : Nat → List XS → List XS → XM → XR) (r1 : Nat) (K : List XS → List XS → XM → XR) (ls st : List XS) (V : XM) : XR := match st with | .inl y :: .inl x :: st => (if x = y then F r1 ls st V else K ls st V) | _ => none
def o_icne (F : Nat → List XS → List XS → XM → XR) (r1 : Nat) (K : List XS → List XS → XM → XR) (ls st : List XS) (V : XM) : XR := match st with | .inl y :: .inl x :: st => (if x = y then K ls st V else F r1 ls st V) | _ => none
def o_iclt (F : Nat → List XS → List XS → XM → XR) (r1 : Nat) (K : List XS → List XS → XM → XR) (ls st : List XS) (V : XM) : XR := match st with | .inl y :: .inl x :: st => (if x < y then F r1 ls st V else K ls st V) | _ => none
def o_icge (F : Nat → List XS → List XS → XM → XR) (r1 : Nat) (K : List XS → List XS → XM → XR) (ls st : List XS) (V : XM) : XR := match st with | .inl y :: .inl x :: st => (if x < y then K ls st V else F r1 ls st V) | _ => none
def o_icgt (F : Nat → List XS → List XS → XM → XR) (r1 : Nat) (K : List XS → List XS → XM → XR) (ls st : List XS) (V : XM) : XR := match st with | .inl y :: .inl x :: st => (if y < x then F r1 ls st V else K ls st V) | _ => none
def o_icle (F : Nat → List XS → List XS → XM → XR) (r1 : Nat) (K : List XS → List XS → XM → XR) (ls st : List XS) (V : XM) : XR := match st with | .inl y :: .inl x :: st => (if y < x then K ls st V else F r1 ls st V) | _ => none
def o_sw (F : Nat → List XS → List XS → XM → XR) (r1 : Nat) (c : Int) (tg : List Nat) (K : List XS → List XS → XM → XR) (ls st : List XS) (V : XM) : XR := match st with | .inl x :: st => xsw x c r1 (fun t => F t ls st V) tg | _ => none
/-- one instruction: F goes to another place of the method, C calls, K goes on behind it; md: while the world is being made -/
def xins (w : XW) (md : Bool) (F : Nat → List XS → List XS → XM → XR) (C : Nat → List XS → XM → XR) (K : List XS → List XS → XM → XR) (ins : Instr) (c : Int) (r1 r2 r3 : Nat) (tg : List Nat) (ls st : List XS) (V : XM) : XR :=
  match ins with
  | .iload _ | .iload_n _ => o_il r1 K ls st V
  | .lload _ | .lload_n _ => o_ll r1 K ls st V
  | .aload _ | .aload_n _ => o_al r1 K ls st V
  | .istore _ | .istore_n _ => o_is r1 K ls st V
  | .lstore _ | .lstore_n _ => o_ls r1 K ls st V
  | .astore _ | .astore_n _ => o_as r1 K ls st V
  | .iinc _ _ => o_inc r1 c K ls st V
  | .iconst _ | .bipush _ | .sipush _ => K ls (xi c :: st) V
  | .lconst _ | .ldc2_w _ => K ls (xl c :: st) V
  | .dconst _ => K ls (xd c :: st) V
  | .dup => o_dup K ls st V
  | .dup2 => o_dup2 K ls st V
  | .dup_x1 => o_dupx K ls st V
  | .pop => o_pop K ls st V
  | .iadd => o_i2 (fun x y => w32 (x + y)) K ls st V
  | .isub => o_i2 (fun x y => w32 (x - y)) K ls st V
  | .imul => o_i2 (fun x y => w32 (x * y)) K ls st V
  | .idiv => o_div (fun x y => w32 (Int.tdiv x y)) K ls st V
  | .irem => o_div Int.tmod K ls st V
  | .ineg => o_i1 (fun x => w32 (-x)) K ls st V
  | .iand => o_i2 iAnd K ls st V
  | .ior => o_i2 iOr K ls st V
  | .ixor => o_i2 iXor K ls st V
  | .ladd => o_l2 (fun x y => w64 (x + y)) K ls st V
  | .lsub => o_l2 (fun x y => w64 (x - y)) K ls st V
  | .lmul => o_l2 (fun x y => w64 (x * y)) K ls st V
  | .ldiv => o_ldiv K ls st V
  | .land => o_l2 lAnd K ls st V
  | .lor => o_l2 lOr K ls st V
  | .lxor => o_l2 lXor K ls st V
  | .lshl => o_lsh lShl K ls st V
  | .lushr => o_lsh lUshr K ls st V
  | .lcmp => o_lcmp K ls st V
  | .i2l => o_i2l K ls st V
  | .l2i => o_l2i K ls st V
  | .i2b => o_i1 w8 K ls st V
  | .i2s => o_i1 w16 K ls st V
  | .i2c => o_i1 c16 K ls st V
  | .l2f => o_l2f K ls st V
  | .l2d => o_l2d K ls st V
  | .f2l => o_f2l K ls st V
  | .d2l => o_d2l K ls st V
  | .f2d => o_f2d K ls st V
  | .dcmp op => o_dcmp op K ls st V
  | .getfield _ => o_gf w md r1 r2 r3 K ls st V
  | .putfield _ => o_pf w md r1 r2 r3 K ls st V
  | .iaload => o_iald w K ls st V
  | .baload => o_bald w K ls st V
  | .laload => o_lald w K ls st V
  | .daload => o_dald w K ls st V
  | .iastore => o_iast w K ls st V
  | .bastore => o_bast w K ls st V
  | .lastore => o_last w K ls st V
  | .dastore => o_dast w K ls st V
  | .aaload => o_aald w md r1 K ls st V
  | .aastore => o_aast w md r1 r2 K ls st V
  | .arraylength => o_alen K ls st V
  | .new _ => o_new w md r1 K ls st V
  | .newarray _ => o_newa w md r1 K ls st V
  | .anewarray _ => o_newa w md r1 K ls st V
  | .invokevirtual _ | .invokespecial _ | .invokestatic _ => o_inv w C c.toNat r1 r2 r3 K ls st V
  | .ireturn => o_iret r1 K ls st V
  | .lreturn => o_lret K ls st V
  | .areturn => o_aret K ls st V
  | .return_ => o_vret K ls st V
  | .goto _ => F r1 ls st V
  | .ifCond .eq _ => o_ifeq F r1 K ls st V
  | .ifCond .ne _ => o_ifne F r1 K ls st V
  | .ifCond .lt _ => o_iflt F r1 K ls st V
  | .ifCond .ge _ => o_ifge F r1 K ls st V
  | .ifCond .gt _ => o_ifgt F r1 K ls st V
  | .ifCond .le _ => o_ifle F r1 K ls st V
  | .if_icmp .eq _ => o_iceq F r1 K ls st V
  | .if_icmp .ne _ => o_icne F r1 K ls st V
  | .if_icmp .lt _ => o_iclt F r1 K ls st V
  | .if_icmp .ge _ => o_icge F r1 K ls st V
  | .if_icmp .gt _ => o_icgt F r1 K ls st V
  | .if_icmp .le _ => o_icle F r1 K ls st V
  | .tableswitch _ _ _ _ => o_sw F r1 c tg K ls st V
  | _ => none
def xone (w : XW) (md : Bool) (F : Nat → List XS → List XS → XM → XR) (C : Nat → List XS → XM → XR) (K : List XS → List XS → XM → XR) (e : XE) (ls st : List XS) (V : XM) : XR :=
  match e with
  | (_, ins, _, c, r1, r2, r3, tg) => xins w md F C K ins c r1 r2 r3 tg ls st V
/-- a block: where it begins, which locals live there, its entries, where it falls through to -/
abbrev XB : Type := Nat × List Bool × List XE × Nat
def xrun (w : XW) (md : Bool) (F : Nat → List XS → List XS → XM → XR) (C : Nat → List XS → XM → XR) (nx : Nat) : List XE → List XS → List XS → XM → XR
  | [], ls, st, V => F nx ls st V
  | e :: l, ls, st, V => xone w md F C (xrun w md F C nx l) e ls st V
def xblk : List XB → Nat → Option XB
  | [], _ => none
  | b :: l, pc => match Nat.beq b.1 pc with
    | true => some b
    | false => xblk l pc
def xmk (B : List XB) (t : Nat) (ls : List XS) : List XS := match xblk B t with
  | some b => xmask b.2.1 ls
  | none => ls
def xmkK (B : List XB) (t : Nat) (ls : List XS) (k : List XS → XR) : XR := match xblk B t with
  | some b => xmaskK b.2.1 ls k
  | none => k ls
def xmac (w : XW) (md : Bool) (B : List XB) (F : Nat → List XS → List XS → XM → XR) (C : Nat → List XS → XM → XR) (pc : Nat) (ls st : List XS) (V : XM) : XR := match xblk B pc with
  | some b => xrun w md (fun t ls st V => xmkK B t ls (fun ls => F t ls st V)) C b.2.2.2 b.2.2.1 ls st V
  | none => none
theorem xsetK_eq (v : XS) : ∀ (ls : List XS) (i : Nat) (k : List XS → XR), xsetK ls i v k = k (xset ls i v) := by
  intro ls
  induction ls with
  | nil => intro i k; rfl
  | cons a l ih =>
    intro i k
    cases i with
    | zero => rfl
    | succ n => exact ih n _
theorem xmaskK_eq : ∀ (b : List Bool) (ls : List XS) (k : List XS → XR), xmaskK b ls k = k (xmask b ls) := by
  intro b
  induction b with
  | nil => intro ls k; cases ls <;> rfl
  | cons a b ih =>
    intro ls k
    cases ls with
    | nil => cases a <;> rfl
    | cons v l => cases a <;> exact ih l _
theorem xpadK_eq : ∀ (n : Nat) (ls : List XS) (k : List XS → XR), xpadK n ls k = k (xpad n ls) := by
  intro n
  induction n with
  | zero => intro ls k; rfl
  | succ n ih =>
    intro ls k
    cases ls with
    | nil => exact ih [] _
    | cons v l => exact ih l _
theorem xmkK_eq (B : List XB) (t : Nat) (ls : List XS) (k : List XS → XR) : xmkK B t ls k = k (xmk B t ls) := by
  unfold xmkK xmk
  cases xblk B t with
  | none => rfl
  | some b => exact xmaskK_eq _ _ _
end
section
/-! the runs of the abstract machine: with fuel, then without -/
/-- one call deeper -/
def xdn (g : Nat → Nat → List XS → XM → XR) : Nat → Nat → List XS → XM → XR
  | 0, _, _, _ => none
  | d + 1, m, as, V => g d m as V
def xex (w : XW) (P : Nat → List XB) (ml : Nat → Nat) (md : Bool) : Nat → Nat → Nat → Nat → List XS → List XS → XM → XR
  | 0, _, _, _, _, _, _ => none
  | f + 1, d, m, pc, ls, st, V => xmac w md (P m) (fun pc ls st V => xex w P ml md f d m pc ls st V) (xdn (fun d m as V => xex w P ml md f d m 0 (xpad (ml m) (xsl as)) [] V) d) pc ls st V
/-- from some fuel on -/
def xev (p : Nat → Prop) : Prop := ∃ f0 : Nat, ∀ f : Nat, f0 ≤ f → p f
theorem xev_of {p : Nat → Prop} (h : ∀ f, p f) : xev p := ⟨0, fun f _ => h f⟩
theorem ci_some {x : XR} {k : Int → XM → XR} {r : XS × XM} (h : ci x k = some r) : ∃ v V, x = some (xi v, V) ∧ k v V = some r := by
  match x, h with
  | some (.inl v, V), h => exact ⟨v, V, rfl, h⟩
theorem cl_some {x : XR} {k : Int → XM → XR} {r : XS × XM} (h : cl x k = some r) : ∃ v V, x = some (xl v, V) ∧ k v V = some r := by
  match x, h with
  | some (.inr (.inl v), V), h => exact ⟨v, V, rfl, h⟩
theorem cr_some {x : XR} {k : XM → XR} {r : XS × XM} (h : cr x k = some r) : ∃ V, x = some (xr 9 0, V) ∧ k V = some r := by
  unfold cr at h
  split at h
  · exact ⟨_, rfl, h⟩
  · cases h
theorem cv_some {x : XR} {k : XM → XR} {r : XS × XM} (h : cv x k = some r) : ∃ v V, x = some (v, V) ∧ k V = some r := by
  match x, h with
  | some (v, V), h => exact ⟨v, V, rfl, h⟩
section
variable {w : XW} {md : Bool} {F : Nat → List XS → List XS → XM → XR} {C : Nat → List XS → XM → XR} {K : List XS → List XS → XM → XR}
  {F' : Nat → Nat → List XS → List XS → XM → XR} {C' : Nat → Nat → List XS → XM → XR} {K' : Nat → List XS → List XS → XM → XR}
theorem xsw_ev {x : Int} {d : Nat} {G : Nat → XR} {G' : Nat → Nat → XR} (hG : ∀ t r, G t = some r → xev fun f => G' f t = some r) {r : XS × XM} : ∀ (l : List Nat) (lo : Int), xsw x lo d G l = some r → xev fun f => xsw x lo d (G' f) l = some r := by
  intro l
  induction l with
  | nil => intro lo h; exact hG d r h
  | cons t l ih =>
    intro lo h
    simp only [xsw] at h ⊢
    split at h
    · rename_i hc
      simp only [hc, if_true]
      exact hG t r h
    · rename_i hc
      simp only [hc, if_false]
      exact ih _ h
theorem xif_some {b : Bool} {a : XR} {r : XS × XM} (h : xif b a = some r) : b = true ∧ a = some r := by
  cases b with
  | true => exact ⟨rfl, h⟩
  | false => cases h
theorem xif_ev {b : Bool} {a : XR} {a' : Nat → XR} (ha : ∀ r, a = some r → xev fun f => a' f = some r) {r : XS × XM} (h : xif b a = some r) : xev fun f => xif b (a' f) = some r := by
  obtain ⟨rfl, h1⟩ := xif_some h
  exact ha _ h1
theorem xite_ev {c : Prop} [Decidable c] {a : XR} {a' : Nat → XR} (ha : ∀ r, a = some r → xev fun f => a' f = some r) {r : XS × XM} (h : (if c then a else none) = some r) : xev fun f => (if c then a' f else none) = some r := by
  split at h
  · rename_i hc
    simp only [hc, if_true]
    exact ha _ h
  · cases h
theorem xload_ev {g i k : Nat} {j : Int} {V : XM} {G : Int → XR} {G' : Nat → Int → XR} (hG : ∀ x r, G x = some r → xev fun f => G' f x = some r) {r : XS × XM} (h : xload w g i k j G V = some r) : xev fun f => xload w g i k j (G' f) V = some r := by
  unfold xload at h ⊢
  refine xif_ev (fun r h => ?_) h
  split at h
  · rename_i h2
    simp only [h2, and_self, if_true]
    exact hG _ r h
  · cases h
theorem xnew_ev {k : Nat} {c : Int} {V : XM} {G : Nat → Nat → XM → XR} {G' : Nat → Nat → Nat → XM → XR} (hG : ∀ g i V r, G g i V = some r → xev fun f => G' f g i V = some r) {r : XS × XM} (h : xnew w V k c G = some r) : xev fun f => xnew w V k c (G' f) = some r := by
  unfold xnew at h ⊢
  exact xif_ev (fun r h => xif_ev (fun r h => xif_ev (fun r h => hG _ _ _ _ h) h) h) h
theorem ci_ev {x : XR} {x' : Nat → XR} {k : Int → XM → XR} {k' : Nat → Int → XM → XR} (hx : ∀ r, x = some r → xev fun f => x' f = some r) (hk : ∀ v V r, k v V = some r → xev fun f => k' f v V = some r) {r : XS × XM} (h : ci x k = some r) : xev fun f => ci (x' f) (k' f) = some r := by
  obtain ⟨v, V, h1, h2⟩ := ci_some h
  obtain ⟨f1, a1⟩ := hx _ h1
  obtain ⟨f2, a2⟩ := hk _ _ _ h2
  refine ⟨max f1 f2, fun f hf => ?_⟩
  show ci (x' f) (k' f) = some r
  rw [show x' f = _ from a1 f (by omega)]
  exact a2 f (by omega)
theorem cl_ev {x : XR} {x' : Nat → XR} {k : Int → XM → XR} {k' : Nat → Int → XM → XR} (hx : ∀ r, x = some r → xev fun f => x' f = some r) (hk : ∀ v V r, k v V = some r → xev fun f => k' f v V = some r) {r : XS × XM} (h : cl x k = some r) : xev fun f => cl (x' f) (k' f) = some r := by
  obtain ⟨v, V, h1, h2⟩ := cl_some h
  obtain ⟨f1, a1⟩ := hx _ h1
  obtain ⟨f2, a2⟩ := hk _ _ _ h2
  refine ⟨max f1 f2, fun f hf => ?_⟩
  show cl (x' f) (k' f) = some r
  rw [show x' f = _ from a1 f (by omega)]
  exact a2 f (by omega)
theorem cr_ev {x : XR} {x' : Nat → XR} {k : XM → XR} {k' : Nat → XM → XR} (hx : ∀ r, x = some r → xev fun f => x' f = some r) (hk : ∀ V r, k V = some r → xev fun f => k' f V = some r) {r : XS × XM} (h : cr x k = some r) : xev fun f => cr (x' f) (k' f) = some r := by
  obtain ⟨V, h1, h2⟩ := cr_some h
  obtain ⟨f1, a1⟩ := hx _ h1
  obtain ⟨f2, a2⟩ := hk _ _ h2
  refine ⟨max f1 f2, fun f hf => ?_⟩
  show cr (x' f) (k' f) = some r
  rw [show x' f = _ from a1 f (by omega)]
  exact a2 f (by omega)
theorem cv_ev {x : XR} {x' : Nat → XR} {k : XM → XR} {k' : Nat → XM → XR} (hx : ∀ r, x = some r → xev fun f => x' f = some r) (hk : ∀ V r, k V = some r → xev fun f => k' f V = some r) {r : XS × XM} (h : cv x k = some r) : xev fun f => cv (x' f) (k' f) = some r := by
  obtain ⟨v, V, h1, h2⟩ := cv_some h
  obtain ⟨f1, a1⟩ := hx _ h1
  obtain ⟨f2, a2⟩ := hk _ _ h2
  refine ⟨max f1 f2, fun f hf => ?_⟩
  show cv (x' f) (k' f) = some r
  rw [show x' f = _ from a1 f (by omega)]
  exact a2 f (by omega)
end
end
section
section
variable {w : XW} {md : Bool} {F : Nat → List XS → List XS → XM → XR} {C : Nat → List XS → XM → XR} {K : List XS → List XS → XM → XR}
  {F' : Nat → Nat → List XS → List XS → XM → XR} {C' : Nat → Nat → List XS → XM → XR} {K' : Nat → List XS → List XS → XM → XR}
set_option maxHeartbeats 4000000 in
theorem xone_ev (hF : ∀ t ls st V r, F t ls st V = some r → xev fun f => F' f t ls st V = some r) (hC : ∀ m as V r, C m as V = some r → xev fun f => C' f m as V = some r) (hK : ∀ ls st V r, K ls st V = some r → xev fun f => K' f ls st V = some r)
    {e : XE} {ls st : List XS} {V : XM} {r : XS × XM} (h : xone w md F C K e ls st V = some r) : xev fun f => xone w md (F' f) (C' f) (K' f) e ls st V = some r := by
  obtain ⟨pc, ins, len, c, r1, r2, r3, tg⟩ := e
  simp only [xone] at h ⊢
  cases ins
  case ifCond cnd off => cases cnd <;> (simp only [xins, xsetK_eq, o_il, o_ll, o_al, o_is, o_ls, o_as, o_inc, o_dup, o_dup2, o_dupx, o_pop, o_i2, o_div, o_i1, o_l2, o_ldiv, o_lsh, o_lcmp, o_i2l, o_l2i, o_l2f, o_l2d, o_f2l, o_d2l, o_f2d, o_dcmp, o_gf, o_pf, o_iald, o_bald, o_lald, o_dald, o_aald, o_iast, o_bast, o_last, o_dast, o_aast, o_alen, o_new, o_newa, o_inv, o_iret, o_lret, o_aret, o_vret, o_ifeq, o_ifne, o_iflt, o_ifge, o_ifgt, o_ifle, o_iceq, o_icne, o_iclt, o_icge, o_icgt, o_icle, o_sw] at h ⊢; (split at h <;> (try (rename_i hc; simp only [hc, if_true, if_false])))) <;> (first | (cases h; done) | exact hK _ _ _ _ h | exact hF _ _ _ _ _ h | exact xev_of (fun _ => h) | exact xsw_ev (fun t r h => hF _ _ _ _ _ h) _ _ h | exact xload_ev (fun x r h => hK _ _ _ _ h) h | exact ci_ev (hC _ _ _) (fun v V r h => hK _ _ _ _ h) h | exact cl_ev (hC _ _ _) (fun v V r h => hK _ _ _ _ h) h | exact cr_ev (hC _ _ _) (fun V r h => hK _ _ _ _ h) h | exact cv_ev (hC _ _ _) (fun V r h => hK _ _ _ _ h) h | exact xif_ev (fun r h => xnew_ev (fun g i V r h => hK _ _ _ _ h) h) h | exact xif_ev (fun r h => hK _ _ _ _ h) h | exact xif_ev (fun r h => xif_ev (fun r h => ci_ev (hC _ _ _) (fun v V r h => hK _ _ _ _ h) h) h) h | exact xif_ev (fun r h => xif_ev (fun r h => cl_ev (hC _ _ _) (fun v V r h => hK _ _ _ _ h) h) h) h | exact xif_ev (fun r h => xif_ev (fun r h => cr_ev (hC _ _ _) (fun V r h => hK _ _ _ _ h) h) h) h | exact xif_ev (fun r h => xif_ev (fun r h => cv_ev (hC _ _ _) (fun V r h => hK _ _ _ _ h) h) h) h | skip) <;> (split at h <;> (try (rename_i hc; simp only [hc, if_true, if_false]))) <;> (first | (cases h; done) | exact hK _ _ _ _ h | exact hF _ _ _ _ _ h | exact xev_of (fun _ => h) | exact xsw_ev (fun t r h => hF _ _ _ _ _ h) _ _ h | exact xload_ev (fun x r h => hK _ _ _ _ h) h | exact ci_ev (hC _ _ _) (fun v V r h => hK _ _ _ _ h) h | exact cl_ev (hC _ _ _) (fun v V r h => hK _ _ _ _ h) h | exact cr_ev (hC _ _ _) (fun V r h => hK _ _ _ _ h) h | exact cv_ev (hC _ _ _) (fun V r h => hK _ _ _ _ h) h | exact xif_ev (fun r h => xnew_ev (fun g i V r h => hK _ _ _ _ h) h) h | exact xif_ev (fun r h => hK _ _ _ _ h) h | exact xif_ev (fun r h => xif_ev (fun r h => ci_ev (hC _ _ _) (fun v V r h => hK _ _ _ _ h) h) h) h | exact xif_ev (fun r h => xif_ev (fun r h => cl_ev (hC _ _ _) (fun v V r h => hK _ _ _ _ h) h) h) h | exact xif_ev (fun r h => xif_ev (fun r h => cr_ev (hC _ _ _) (fun V r h => hK _ _ _ _ h) h) h) h | exact xif_ev (fun r h => xif_ev (fun r h => cv_ev (hC _ _ _) (fun V r h => hK _ _ _ _ h) h) h) h | exact xif_ev (fun r h => xif_ev (fun r h => hK _ _ _ _ h) h) h | skip)
  case if_icmp cnd off => cases cnd <;> (simp only [xins, xsetK_eq, o_il, o_ll, o_al, o_is, o_ls, o_as, o_inc, o_dup, o_dup2, o_dupx, o_pop, o_i2, o_div, o_i1, o_l2, o_ldiv, o_lsh, o_lcmp, o_i2l, o_l2i, o_l2f, o_l2d, o_f2l, o_d2l, o_f2d, o_dcmp, o_gf, o_pf, o_iald, o_bald, o_lald, o_dald, o_aald, o_iast, o_bast, o_last, o_dast, o_aast, o_alen, o_new, o_newa, o_inv, o_iret, o_lret, o_aret, o_vret, o_ifeq, o_ifne, o_iflt, o_ifge, o_ifgt, o_ifle, o_iceq, o_icne, o_iclt, o_icge, o_icgt, o_icle, o_sw] at h ⊢; (split at h <;> (try (rename_i hc; simp only [hc, if_true, if_false])))) <;> (first | (cases h; done) | exact hK _ _ _ _ h | exact hF _ _ _ _ _ h | exact xev_of (fun _ => h) | exact xsw_ev (fun t r h => hF _ _ _ _ _ h) _ _ h | exact xload_ev (fun x r h => hK _ _ _ _ h) h | exact ci_ev (hC _ _ _) (fun v V r h => hK _ _ _ _ h) h | exact cl_ev (hC _ _ _) (fun v V r h => hK _ _ _ _ h) h | exact cr_ev (hC _ _ _) (fun V r h => hK _ _ _ _ h) h | exact cv_ev (hC _ _ _) (fun V r h => hK _ _ _ _ h) h | exact xif_ev (fun r h => xnew_ev (fun g i V r h => hK _ _ _ _ h) h) h | exact xif_ev (fun r h => hK _ _ _ _ h) h | exact xif_ev (fun r h => xif_ev (fun r h => ci_ev (hC _ _ _) (fun v V r h => hK _ _ _ _ h) h) h) h | exact xif_ev (fun r h => xif_ev (fun r h => cl_ev (hC _ _ _) (fun v V r h => hK _ _ _ _ h) h) h) h | exact xif_ev (fun r h => xif_ev (fun r h => cr_ev (hC _ _ _) (fun V r h => hK _ _ _ _ h) h) h) h | exact xif_ev (fun r h => xif_ev (fun r h => cv_ev (hC _ _ _) (fun V r h => hK _ _ _ _ h) h) h) h | skip) <;> (split at h <;> (try (rename_i hc; simp only [hc, if_true, if_false]))) <;> (first | (cases h; done) | exact hK _ _ _ _ h | exact hF _ _ _ _ _ h | exact xev_of (fun _ => h) | exact xsw_ev (fun t r h => hF _ _ _ _ _ h) _ _ h | exact xload_ev (fun x r h => hK _ _ _ _ h) h | exact ci_ev (hC _ _ _) (fun v V r h => hK _ _ _ _ h) h | exact cl_ev (hC _ _ _) (fun v V r h => hK _ _ _ _ h) h | exact cr_ev (hC _ _ _) (fun V r h => hK _ _ _ _ h) h | exact cv_ev (hC _ _ _) (fun V r h => hK _ _ _ _ h) h | exact xif_ev (fun r h => xnew_ev (fun g i V r h => hK _ _ _ _ h) h) h | exact xif_ev (fun r h => hK _ _ _ _ h) h | exact xif_ev (fun r h => xif_ev (fun r h => ci_ev (hC _ _ _) (fun v V r h => hK _ _ _ _ h) h) h) h | exact xif_ev (fun r h => xif_ev (fun r h => cl_ev (hC _ _ _) (fun v V r h => hK _ _ _ _ h) h) h) h | exact xif_ev (fun r h => xif_ev (fun r h => cr_ev (hC _ _ _) (fun V r h => hK _ _ _ _ h) h) h) h | exact xif_ev (fun r h => xif_ev (fun r h => cv_ev (hC _ _ _) (fun V r h => hK _ _ _ _ h) h) h) h | exact xif_ev (fun r h => xif_ev (fun r h => hK _ _ _ _ h) h) h | skip)
  all_goals (simp only [xins, xsetK_eq, o_il, o_ll, o_al, o_is, o_ls, o_as, o_inc, o_dup, o_dup2, o_dupx, o_pop, o_i2, o_div, o_i1, o_l2, o_ldiv, o_lsh, o_lcmp, o_i2l, o_l2i, o_l2f, o_l2d, o_f2l, o_d2l, o_f2d, o_dcmp, o_gf, o_pf, o_iald, o_bald, o_lald, o_dald, o_aald, o_iast, o_bast, o_last, o_dast, o_aast, o_alen, o_new, o_newa, o_inv, o_iret, o_lret, o_aret, o_vret, o_ifeq, o_ifne, o_iflt, o_ifge, o_ifgt, o_ifle, o_iceq, o_icne, o_iclt, o_icge, o_icgt, o_icle, o_sw] at h ⊢)
  all_goals (first | (cases h; done) | exact hK _ _ _ _ h | exact hF _ _ _ _ _ h | exact xev_of (fun _ => h) | exact xsw_ev (fun t r h => hF _ _ _ _ _ h) _ _ h | exact xload_ev (fun x r h => hK _ _ _ _ h) h | exact ci_ev (hC _ _ _) (fun v V r h => hK _ _ _ _ h) h | exact cl_ev (hC _ _ _) (fun v V r h => hK _ _ _ _ h) h | exact cr_ev (hC _ _ _) (fun V r h => hK _ _ _ _ h) h | exact cv_ev (hC _ _ _) (fun V r h => hK _ _ _ _ h) h | exact xif_ev (fun r h => xnew_ev (fun g i V r h => hK _ _ _ _ h) h) h | exact xif_ev (fun r h => hK _ _ _ _ h) h | exact xif_ev (fun r h => xif_ev (fun r h => ci_ev (hC _ _ _) (fun v V r h => hK _ _ _ _ h) h) h) h | exact xif_ev (fun r h => xif_ev (fun r h => cl_ev (hC _ _ _) (fun v V r h => hK _ _ _ _ h) h) h) h | exact xif_ev (fun r h => xif_ev (fun r h => cr_ev (hC _ _ _) (fun V r h => hK _ _ _ _ h) h) h) h | exact xif_ev (fun r h => xif_ev (fun r h => cv_ev (hC _ _ _) (fun V r h => hK _ _ _ _ h) h) h) h | exact xif_ev (fun r h => xif_ev (fun r h => hK _ _ _ _ h) h) h | skip)
  all_goals (first | (split at h <;> (try (rename_i hc; simp only [hc, if_true, if_false]))) | exact xif_ev (fun r h => xif_ev (fun r h => hK _ _ _ _ h) h) h | skip)
  all_goals (first | (cases h; done) | exact hK _ _ _ _ h | exact hF _ _ _ _ _ h | exact xev_of (fun _ => h) | exact xsw_ev (fun t r h => hF _ _ _ _ _ h) _ _ h | exact xload_ev (fun x r h => hK _ _ _ _ h) h | exact ci_ev (hC _ _ _) (fun v V r h => hK _ _ _ _ h) h | exact cl_ev (hC _ _ _) (fun v V r h => hK _ _ _ _ h) h | exact cr_ev (hC _ _ _) (fun V r h => hK _ _ _ _ h) h | exact cv_ev (hC _ _ _) (fun V r h => hK _ _ _ _ h) h | exact xif_ev (fun r h => xnew_ev (fun g i V r h => hK _ _ _ _ h) h) h | exact xif_ev (fun r h => hK _ _ _ _ h) h | exact xif_ev (fun r h => xif_ev (fun r h => ci_ev (hC _ _ _) (fun v V r h => hK _ _ _ _ h) h) h) h | exact xif_ev (fun r h => xif_ev (fun r h => cl_ev (hC _ _ _) (fun v V r h => hK _ _ _ _ h) h) h) h | exact xif_ev (fun r h => xif_ev (fun r h => cr_ev (hC _ _ _) (fun V r h => hK _ _ _ _ h) h) h) h | exact xif_ev (fun r h => xif_ev (fun r h => cv_ev (hC _ _ _) (fun V r h => hK _ _ _ _ h) h) h) h | exact xif_ev (fun r h => xif_ev (fun r h => hK _ _ _ _ h) h) h | skip)
  all_goals (first | (split at h <;> (try (rename_i hc; simp only [hc, if_true, if_false]))) | exact xif_ev (fun r h => xif_ev (fun r h => hK _ _ _ _ h) h) h | skip)
  all_goals (first | (cases h; done) | exact hK _ _ _ _ h | exact hF _ _ _ _ _ h | exact xev_of (fun _ => h) | exact xsw_ev (fun t r h => hF _ _ _ _ _ h) _ _ h | exact xload_ev (fun x r h => hK _ _ _ _ h) h | exact ci_ev (hC _ _ _) (fun v V r h => hK _ _ _ _ h) h | exact cl_ev (hC _ _ _) (fun v V r h => hK _ _ _ _ h) h | exact cr_ev (hC _ _ _) (fun V r h => hK _ _ _ _ h) h | exact cv_ev (hC _ _ _) (fun V r h => hK _ _ _ _ h) h | exact xif_ev (fun r h => xnew_ev (fun g i V r h => hK _ _ _ _ h) h) h | exact xif_ev (fun r h => hK _ _ _ _ h) h | exact xif_ev (fun r h => xif_ev (fun r h => ci_ev (hC _ _ _) (fun v V r h => hK _ _ _ _ h) h) h) h | exact xif_ev (fun r h => xif_ev (fun r h => cl_ev (hC _ _ _) (fun v V r h => hK _ _ _ _ h) h) h) h | exact xif_ev (fun r h => xif_ev (fun r h => cr_ev (hC _ _ _) (fun V r h => hK _ _ _ _ h) h) h) h | exact xif_ev (fun r h => xif_ev (fun r h => cv_ev (hC _ _ _) (fun V r h => hK _ _ _ _ h) h) h) h | exact xif_ev (fun r h => xif_ev (fun r h => hK _ _ _ _ h) h) h | skip)
  all_goals (first | (split at h <;> (try (rename_i hc; simp only [hc, if_true, if_false]))) | exact xif_ev (fun r h => xif_ev (fun r h => hK _ _ _ _ h) h) h | skip)
  all_goals (first | (cases h; done) | exact hK _ _ _ _ h | exact hF _ _ _ _ _ h | exact xev_of (fun _ => h) | exact xsw_ev (fun t r h => hF _ _ _ _ _ h) _ _ h | exact xload_ev (fun x r h => hK _ _ _ _ h) h | exact ci_ev (hC _ _ _) (fun v V r h => hK _ _ _ _ h) h | exact cl_ev (hC _ _ _) (fun v V r h => hK _ _ _ _ h) h | exact cr_ev (hC _ _ _) (fun V r h => hK _ _ _ _ h) h | exact cv_ev (hC _ _ _) (fun V r h => hK _ _ _ _ h) h | exact xif_ev (fun r h => xnew_ev (fun g i V r h => hK _ _ _ _ h) h) h | exact xif_ev (fun r h => hK _ _ _ _ h) h | exact xif_ev (fun r h => xif_ev (fun r h => ci_ev (hC _ _ _) (fun v V r h => hK _ _ _ _ h) h) h) h | exact xif_ev (fun r h => xif_ev (fun r h => cl_ev (hC _ _ _) (fun v V r h => hK _ _ _ _ h) h) h) h | exact xif_ev (fun r h => xif_ev (fun r h => cr_ev (hC _ _ _) (fun V r h => hK _ _ _ _ h) h) h) h | exact xif_ev (fun r h => xif_ev (fun r h => cv_ev (hC _ _ _) (fun V r h => hK _ _ _ _ h) h) h) h | exact xif_ev (fun r h => xif_ev (fun r h => hK _ _ _ _ h) h) h | skip)
  all_goals (first | (split at h <;> (try (rename_i hc; simp only [hc, if_true, if_false]))) | exact xif_ev (fun r h => xif_ev (fun r h => hK _ _ _ _ h) h) h | skip)
  all_goals (first | (cases h; done) | exact hK _ _ _ _ h | exact hF _ _ _ _ _ h | exact xev_of (fun _ => h) | exact xsw_ev (fun t r h => hF _ _ _ _ _ h) _ _ h | exact xload_ev (fun x r h => hK _ _ _ _ h) h | exact ci_ev (hC _ _ _) (fun v V r h => hK _ _ _ _ h) h | exact cl_ev (hC _ _ _) (fun v V r h => hK _ _ _ _ h) h | exact cr_ev (hC _ _ _) (fun V r h => hK _ _ _ _ h) h | exact cv_ev (hC _ _ _) (fun V r h => hK _ _ _ _ h) h | exact xif_ev (fun r h => xnew_ev (fun g i V r h => hK _ _ _ _ h) h) h | exact xif_ev (fun r h => hK _ _ _ _ h) h | exact xif_ev (fun r h => xif_ev (fun r h => ci_ev (hC _ _ _) (fun v V r h => hK _ _ _ _ h) h) h) h | exact xif_ev (fun r h => xif_ev (fun r h => cl_ev (hC _ _ _) (fun v V r h => hK _ _ _ _ h) h) h) h | exact xif_ev (fun r h => xif_ev (fun r h => cr_ev (hC _ _ _) (fun V r h => hK _ _ _ _ h) h) h) h | exact xif_ev (fun r h => xif_ev (fun r h => cv_ev (hC _ _ _) (fun V r h => hK _ _ _ _ h) h) h) h | exact xif_ev (fun r h => xif_ev (fun r h => hK _ _ _ _ h) h) h | skip)
  all_goals (first | exact xload_ev (fun x r h => xite_ev (fun r h => hK _ _ _ _ h) h) h | exact xif_ev (fun r h => xif_ev (fun r h => hK _ _ _ _ h) h) h | skip)
  all_goals (try simp only [hc.2, ne_eq, not_false_eq_true, and_self, if_true])
  all_goals (first | exact xif_ev (fun r h => xif_ev (fun r h => hK _ _ _ _ h) h) h | exact xif_ev (fun r h => xload_ev (fun x r h => hK _ _ _ _ h) h) h | exact xif_ev (fun r h => xif_ev (fun r h => hK _ _ _ _ h) h) h | skip)
theorem xrun_ev (nx : Nat) (hF : ∀ t ls st V r, F t ls st V = some r → xev fun f => F' f t ls st V = some r) (hC : ∀ m as V r, C m as V = some r → xev fun f => C' f m as V = some r) :
    ∀ (l : List XE) (ls st : List XS) (V : XM) (r : XS × XM), xrun w md F C nx l ls st V = some r → xev fun f => xrun w md (F' f) (C' f) nx l ls st V = some r := by
  intro l
  induction l with
  | nil => intro ls st V r h; exact hF _ _ _ _ _ h
  | cons e l ih =>
    intro ls st V r h
    simp only [xrun] at h ⊢
    exact xone_ev hF hC ih h
theorem xmac_ev (B : List XB) (hF : ∀ t ls st V r, F t ls st V = some r → xev fun f => F' f t ls st V = some r) (hC : ∀ m as V r, C m as V = some r → xev fun f => C' f m as V = some r)
    {pc : Nat} {ls st : List XS} {V : XM} {r : XS × XM} (h : xmac w md B F C pc ls st V = some r) : xev fun f => xmac w md B (F' f) (C' f) pc ls st V = some r := by
  unfold xmac at h ⊢
  cases hb : xblk B pc with
  | none => rw [hb] at h; cases h
  | some b =>
    rw [hb] at h
    dsimp only at h ⊢
    simp only [xmkK_eq] at h ⊢
    exact xrun_ev _ (fun t ls st V r h => hF _ _ _ _ _ h) hC _ _ _ _ _ h
end
section
variable {w : XW} {P : Nat → List XB} {ml : Nat → Nat} {md : Bool}
theorem xev_const {p : Prop} (h : xev fun _ => p) : p := h.elim fun f0 a => a f0 (Nat.le_refl _)
theorem xex_succ : ∀ (f d m pc : Nat) (ls st : List XS) (V : XM) (r : XS × XM), xex w P ml md f d m pc ls st V = some r → xex w P ml md (f + 1) d m pc ls st V = some r := by
  intro f
  induction f with
  | zero => intro d m pc ls st V r h; simp only [xex] at h; cases h
  | succ f ih =>
    intro d m pc ls st V r h
    refine xev_const (xmac_ev (P m) (F' := fun _ pc ls st V => xex w P ml md (f + 1) d m pc ls st V) (C' := fun _ => xdn (fun d m as V => xex w P ml md (f + 1) d m 0 (xpad (ml m) (xsl as)) [] V) d) (fun t ls st V r h => xev_of fun _ => ih _ _ _ _ _ _ _ h) (fun m as V r h => xev_of fun _ => ?_) (show xmac w md (P m) _ _ pc ls st V = some r from h))
    cases d with
    | zero => cases h
    | succ d => exact ih _ _ _ _ _ _ _ h
theorem xex_le {f f' : Nat} (hf : f ≤ f') {d m pc : Nat} {ls st : List XS} {V : XM} {r : XS × XM} (h : xex w P ml md f d m pc ls st V = some r) : xex w P ml md f' d m pc ls st V = some r := by
  induction hf with
  | refl => exact h
  | step _ ih => exact xex_succ _ _ _ _ _ _ _ _ ih
end
/-- the run without fuel: what some fuel gives -/
noncomputable def Xx (w : XW) (P : Nat → List XB) (ml : Nat → Nat) (md : Bool) (d m pc : Nat) (ls st : List XS) (V : XM) : XR :=
  @dite XR (∃ (f : Nat) (r : XS × XM), xex w P ml md f d m pc ls st V = some r) (Classical.propDecidable _) (fun h => some h.choose_spec.choose) (fun _ => none)
noncomputable def Xc (w : XW) (P : Nat → List XB) (ml : Nat → Nat) (md : Bool) (d m : Nat) (as : List XS) (V : XM) : XR := xdn (fun d m as V => Xx w P ml md d m 0 (xpad (ml m) (xsl as)) [] V) d m as V
section
variable {w : XW} {P : Nat → List XB} {ml : Nat → Nat} {md : Bool}
theorem Xx_of {f d m pc : Nat} {ls st : List XS} {V : XM} {r : XS × XM} (h : xex w P ml md f d m pc ls st V = some r) : Xx w P ml md d m pc ls st V = some r := by
  have hex : ∃ (f : Nat) (r : XS × XM), xex w P ml md f d m pc ls st V = some r := ⟨f, r, h⟩
  unfold Xx
  rw [dif_pos hex]
  have h1 := hex.choose_spec.choose_spec
  have h2 := xex_le (Nat.le_max_left hex.choose f) h1
  have h3 := xex_le (Nat.le_max_right hex.choose f) h
  exact h2.symm.trans h3
theorem Xx_some {d m pc : Nat} {ls st : List XS} {V : XM} {r : XS × XM} (h : Xx w P ml md d m pc ls st V = some r) : ∃ f, xex w P ml md f d m pc ls st V = some r := by
  unfold Xx at h
  split at h
  · rename_i hex
    cases h
    exact ⟨_, hex.choose_spec.choose_spec⟩
  · cases h
theorem Xx_ev {d m pc : Nat} {ls st : List XS} {V : XM} {r : XS × XM} (h : Xx w P ml md d m pc ls st V = some r) : xev fun f => xex w P ml md f d m pc ls st V = some r := by
  obtain ⟨f, hf⟩ := Xx_some h
  exact ⟨f, fun f' h' => xex_le h' hf⟩
theorem Xc_of {f d m : Nat} {as : List XS} {V : XM} {r : XS × XM} (h : xdn (fun d m as V => xex w P ml md f d m 0 (xpad (ml m) (xsl as)) [] V) d m as V = some r) : Xc w P ml md d m as V = some r := by
  cases d with
  | zero => cases h
  | succ d => exact Xx_of h
theorem Xc_ev {d m : Nat} {as : List XS} {V : XM} {r : XS × XM} (h : Xc w P ml md d m as V = some r) : xev fun f => xdn (fun d m as V => xex w P ml md f d m 0 (xpad (ml m) (xsl as)) [] V) d m as V = some r := by
  cases d with
  | zero => cases h
  | succ d => exact Xx_ev h
/-- THE EQUATION of a run: a block, then on -/
theorem Xx_eq (d m pc : Nat) (ls st : List XS) (V : XM) : Xx w P ml md d m pc ls st V = xmac w md (P m) (Xx w P ml md d m) (Xc w P ml md d) pc ls st V := by
  have key : ∀ r, Xx w P ml md d m pc ls st V = some r ↔ xmac w md (P m) (Xx w P ml md d m) (Xc w P ml md d) pc ls st V = some r := by
    intro r
    constructor
    · intro h
      obtain ⟨f, hf⟩ := Xx_some h
      cases f with
      | zero => simp only [xex] at hf; cases hf
      | succ f => exact xev_const (xmac_ev (P m) (F' := fun _ => Xx w P ml md d m) (C' := fun _ => Xc w P ml md d) (fun t ls st V r h => xev_of fun _ => Xx_of h) (fun m as V r h => xev_of fun _ => Xc_of h) (show xmac w md (P m) _ _ pc ls st V = some r from hf))
    · intro h
      obtain ⟨f, hf⟩ := xmac_ev (P m) (F' := fun f pc ls st V => xex w P ml md f d m pc ls st V) (C' := fun f => xdn (fun d m as V => xex w P ml md f d m 0 (xpad (ml m) (xsl as)) [] V) d) (fun t ls st V r h => Xx_ev h) (fun m as V r h => Xc_ev h) h
      exact Xx_of (f := f + 1) (hf f (Nat.le_refl _))
  cases h1 : Xx w P ml md d m pc ls st V with
  | some r => exact ((key r).mp h1).symm
  | none =>
    cases h2 : xmac w md (P m) (Xx w P ml md d m) (Xc w P ml md d) pc ls st V with
    | none => rfl
    | some r => rw [(key r).mpr h2] at h1; cases h1
/-- several blocks, up to the places where one stops -/
def xes (w : XW) (md : Bool) (B : List XB) (F : Nat → List XS → List XS → XM → XR) (C : Nat → List XS → XM → XR) (stop : List Nat) : Nat → Nat → List XS → List XS → XM → XR
  | 0, pc, ls, st, V => F pc ls st V
  | n + 1, pc, ls, st, V => match xblk B pc with
    | some b => xrun w md (fun t ls st V => xmkK B t ls (fun ls => match xmem stop t with
      | true => F t ls st V
      | false => xes w md B F C stop n t ls st V)) C b.2.2.2 b.2.2.1 ls st V
    | none => none
theorem Xx_es (stop : List Nat) {d m : Nat} {B : List XB} (hB : P m = B) : ∀ (n pc : Nat) (ls st : List XS) (V : XM), Xx w P ml md d m pc ls st V = xes w md B (Xx w P ml md d m) (Xc w P ml md d) stop n pc ls st V := by
  intro n
  induction n with
  | zero => intro pc ls st V; rfl
  | succ n ih =>
    intro pc ls st V
    rw [Xx_eq, hB]
    have hF : (fun (t : Nat) (ls st : List XS) (V : XM) => xmkK B t ls (fun ls => Xx w P ml md d m t ls st V)) = (fun t ls st V => xmkK B t ls (fun ls => match xmem stop t with
      | true => Xx w P ml md d m t ls st V
      | false => xes w md B (Xx w P ml md d m) (Xc w P ml md d) stop n t ls st V)) := by
      funext t ls st V
      rw [xmkK_eq, xmkK_eq]
      cases xmem stop t with
      | true => rfl
      | false => exact ih _ _ _ _
    simp only [xmac, xes]
    rw [hF]
    cases xblk B pc <;> rfl
theorem Xc_es (stop : List Nat) {d m : Nat} {B : List XB} (hB : P m = B) (n : Nat) (as : List XS) (V : XM) : Xc w P ml md (d + 1) m as V = xpadK (ml m) (xsl as) (fun ls => xes w md B (Xx w P ml md d m) (Xc w P ml md d) stop n 0 ls [] V) := by
  rw [xpadK_eq]
  exact Xx_es stop hB n 0 _ [] V
end
end
section
/-! THE PROGRAM as tables, printed by wip/gen: each method its blocks; the world of the cells -/
set_option maxRecDepth 100000 in
def K_X0_init : List XB := [(0, [true], [e1 0 (.aload_n 0) 1 0, ei 1 (.invokespecial 3) 3 0 0 1 9, e1 4 (.aload_n 0) 1 0, ec 5 (.bipush 24) 2 24, e1 7 (.newarray .int) 2 1, e3 9 (.putfield 9) 3 10 0 2, e0 12 (.return_) 1], 13)]
set_option maxRecDepth 100000 in
def K_X0_begin : List XB := [(0, [true, false], [e1 0 (.aload_n 0) 1 0, ec 1 (.iconst 0) 1 0, e3 2 (.putfield 15) 3 10 1 0, e1 5 (.aload_n 0) 1 0, ec 6 (.bipush (-9)) 2 (-9), ei 8 (.invokevirtual 19) 3 10 2 2 0, e0 11 (.pop) 1, ec 12 (.iconst 1) 1 1, e1 13 (.istore_n 1) 1 1], 14),
  (14, [true, true], [e1 14 (.iload_n 1) 1 1, ec 15 (.iconst 4) 1 4, e1 16 (.if_icmp .gt 15) 3 31, e1 19 (.aload_n 0) 1 0, ec 20 (.iconst 0) 1 0, ei 21 (.invokevirtual 19) 3 10 2 2 0, e0 24 (.pop) 1, ek 25 (.iinc 1 1) 3 1 1, e1 28 (.goto (-14)) 3 14], 31),
  (31, [true, false], [e1 31 (.aload_n 0) 1 0, ec 32 (.iconst 4) 1 4, ei 33 (.invokevirtual 19) 3 10 2 2 0, e0 36 (.pop) 1, e0 37 (.return_) 1], 38)]
set_option maxRecDepth 100000 in
def K_X0_add : List XB := [(0, [true, true], [e1 0 (.aload_n 0) 1 0, e3 1 (.getfield 9) 3 10 0 2, e1 4 (.aload_n 0) 1 0, e3 5 (.getfield 15) 3 10 1 0, e1 8 (.iload_n 1) 1 1, e0 9 (.iastore) 1, e1 10 (.aload_n 0) 1 0, e0 11 (.dup) 1, e3 12 (.getfield 15) 3 10 1 0, e0 15 (.dup_x1) 1, ec 16 (.iconst 1) 1 1, e0 17 (.iadd) 1, e3 18 (.putfield 15) 3 10 1 0, e1 21 (.ireturn) 1 0], 22)]
set_option maxRecDepth 100000 in
def K_X0_has : List XB := [(0, [true, true], [e1 0 (.iload_n 1) 1 1, e1 1 (.aload_n 0) 1 0, e3 2 (.getfield 15) 3 10 1 0, ei 5 (.invokestatic 23) 3 0 123 2 0, e1 8 (.ireturn) 1 1], 9)]
set_option maxRecDepth 100000 in
def K_X0_fits : List XB := [(0, [true, true, true, false, false], [e1 0 (.iload_n 1) 1 1, e1 1 (.istore_n 3) 1 3, ec 2 (.iconst 0) 1 0, e1 3 (.istore 4) 2 4], 5),
  (5, [true, false, true, true, true], [e1 5 (.iload_n 3) 1 3, e1 6 (.iload_n 2) 1 2, e1 7 (.if_icmp .le 23) 3 30, e1 10 (.iload 4) 2 4, ec 12 (.bipush 24) 2 24, e1 14 (.if_icmp .ge 16) 3 30, e1 17 (.aload_n 0) 1 0, e3 18 (.getfield 9) 3 10 0 2, e1 21 (.iload_n 3) 1 3, e0 22 (.iaload) 1, e1 23 (.istore_n 3) 1 3, ek 24 (.iinc 4 1) 3 1 4, e1 27 (.goto (-22)) 3 5], 30),
  (30, [false, false, true, true, false], [e1 30 (.iload_n 3) 1 3, e1 31 (.iload_n 2) 1 2, e1 32 (.if_icmp .ne 7) 3 39, ec 35 (.iconst 1) 1 1, e1 36 (.goto 4) 3 40], 39),
  (39, [false, false, false, false, false], [ec 39 (.iconst 0) 1 0], 40),
  (40, [false, false, false, false, false], [e1 40 (.ireturn) 1 1], 41)]
set_option maxRecDepth 100000 in
def K_X0_baseOf : List XB := [(0, [true, true, false, false], [e1 0 (.iload_n 1) 1 1, e1 1 (.istore_n 2) 1 2, ec 2 (.iconst 0) 1 0, e1 3 (.istore_n 3) 1 3], 4),
  (4, [true, false, true, true], [e1 4 (.iload_n 2) 1 2, ec 5 (.iconst 5) 1 5, e1 6 (.if_icmp .le 22) 3 28, e1 9 (.iload_n 3) 1 3, ec 10 (.bipush 24) 2 24, e1 12 (.if_icmp .ge 16) 3 28, e1 15 (.aload_n 0) 1 0, e3 16 (.getfield 9) 3 10 0 2, e1 19 (.iload_n 2) 1 2, e0 20 (.iaload) 1, e1 21 (.istore_n 2) 1 2, ek 22 (.iinc 3 1) 3 1 3, e1 25 (.goto (-21)) 3 4], 28),
  (28, [false, false, true, false], [e1 28 (.iload_n 2) 1 2, e1 29 (.ireturn) 1 0], 30)]
set_option maxRecDepth 100000 in
def K_X1_init : List XB := [(0, [true, true, true], [e1 0 (.aload_n 0) 1 0, ei 1 (.invokespecial 3) 3 0 0 1 9, e1 4 (.aload_n 0) 1 0, ec 5 (.sipush 384) 3 384, e1 8 (.newarray .int) 2 1, e3 10 (.putfield 9) 3 11 2 2, e1 13 (.aload_n 0) 1 0, ec 14 (.bipush 64) 2 64, e1 16 (.newarray .int) 2 1, e3 18 (.putfield 15) 3 11 3 2, e1 21 (.aload_n 0) 1 0, ec 22 (.bipush 64) 2 64, e1 24 (.newarray .int) 2 1, e3 26 (.putfield 18) 3 11 4 2, e1 29 (.aload_n 0) 1 0, ec 30 (.bipush 64) 2 64, e1 32 (.newarray .long) 2 2, e3 34 (.putfield 21) 3 11 5 2, e1 37 (.aload_n 0) 1 0, ec 38 (.bipush 64) 2 64, e1 40 (.newarray .long) 2 2, e3 42 (.putfield 25) 3 11 6 2, e1 45 (.aload_n 0) 1 0, ec 46 (.bipush 64) 2 64, e1 48 (.newarray .int) 2 1, e3 50 (.putfield 28) 3 11 7 2, e1 53 (.aload_n 0) 1 0, ec 54 (.bipush 64) 2 64, e1 56 (.newarray .int) 2 1, e3 58 (.putfield 31) 3 11 8 2, e1 61 (.aload_n 0) 1 0, ec 62 (.bipush 64) 2 64, e1 64 (.newarray .int) 2 1, e3 66 (.putfield 34) 3 11 9 2, e1 69 (.aload_n 0) 1 0, ec 70 (.bipush 64) 2 64, e1 72 (.newarray .int) 2 1, e3 74 (.putfield 37) 3 11 10 2, e1 77 (.aload_n 0) 1 0, ec 78 (.bipush 16) 2 16, e1 80 (.newarray .int) 2 1, e3 82 (.putfield 40) 3 11 11 2, e1 85 (.aload_n 0) 1 0, ec 86 (.bipush 16) 2 16, e1 88 (.newarray .int) 2 1, e3 90 (.putfield 43) 3 11 12 2, e1 93 (.aload_n 0) 1 0, ec 94 (.bipush 16) 2 16, e1 96 (.newarray .boolean) 2 3, e3 98 (.putfield 46) 3 11 13 2, e1 101 (.aload_n 0) 1 0, ec 102 (.bipush 16) 2 16, e1 104 (.newarray .int) 2 1, e3 106 (.putfield 50) 3 11 14 2, e1 109 (.aload_n 0) 1 0, e1 110 (.aload_n 1) 1 1, e3 111 (.putfield 53) 3 11 0 2, e1 114 (.aload_n 0) 1 0, e1 115 (.aload_n 2) 1 2, e3 116 (.putfield 57) 3 11 1 2, e0 119 (.return_) 1], 120)]
set_option maxRecDepth 100000 in
def K_X1_begin : List XB := [(0, [true, true], [e1 0 (.aload_n 0) 1 0, e3 1 (.getfield 15) 3 11 3 2, e1 4 (.iload_n 1) 1 1, ec 5 (.iconst 0) 1 0, e0 6 (.iastore) 1, e1 7 (.aload_n 0) 1 0, e3 8 (.getfield 18) 3 11 4 2, e1 11 (.iload_n 1) 1 1, ec 12 (.bipush (-9)) 2 (-9), e0 14 (.iastore) 1, e1 15 (.aload_n 0) 1 0, e3 16 (.getfield 21) 3 11 5 2, e1 19 (.iload_n 1) 1 1, ec 20 (.lconst 0) 1 0, e0 21 (.lastore) 1, e1 22 (.aload_n 0) 1 0, e3 23 (.getfield 25) 3 11 6 2, e1 26 (.iload_n 1) 1 1, ec 27 (.lconst 0) 1 0, e0 28 (.lastore) 1, e1 29 (.aload_n 0) 1 0, e3 30 (.getfield 28) 3 11 7 2, e1 33 (.iload_n 1) 1 1, ec 34 (.bipush (-9)) 2 (-9), e0 36 (.iastore) 1, e1 37 (.aload_n 0) 1 0, e3 38 (.getfield 31) 3 11 8 2, e1 41 (.iload_n 1) 1 1, ec 42 (.iconst 0) 1 0, e0 43 (.iastore) 1, e1 44 (.aload_n 0) 1 0, e3 45 (.getfield 34) 3 11 9 2, e1 48 (.iload_n 1) 1 1, ec 49 (.iconst 0) 1 0, e0 50 (.iastore) 1, e1 51 (.aload_n 0) 1 0, e3 52 (.getfield 37) 3 11 10 2, e1 55 (.iload_n 1) 1 1, ec 56 (.bipush (-9)) 2 (-9), e0 58 (.iastore) 1, e0 59 (.return_) 1], 60)]
set_option maxRecDepth 100000 in
def K_X1_homeAt : List XB := [(0, [true, true, true], [e1 0 (.iload_n 2) 1 2, e1 1 (.aload_n 0) 1 0, e3 2 (.getfield 15) 3 11 3 2, e1 5 (.iload_n 1) 1 1, e0 6 (.iaload) 1, ei 7 (.invokestatic 61) 3 0 123 2 0, e1 10 (.ifCond .eq 17) 3 27, e1 13 (.aload_n 0) 1 0, e3 14 (.getfield 9) 3 11 2 2, e1 17 (.iload_n 1) 1 1, ec 18 (.bipush 6) 2 6, e0 20 (.imul) 1, e1 21 (.iload_n 2) 1 2, e0 22 (.iadd) 1, e0 23 (.iaload) 1, e1 24 (.goto 5) 3 29], 27),
  (27, [false, false, false], [ec 27 (.bipush (-9)) 2 (-9)], 29),
  (29, [false, false, false], [e1 29 (.ireturn) 1 0], 30)]
set_option maxRecDepth 100000 in
def K_X1_isLaid : List XB := [(0, [true, true], [e1 0 (.aload_n 0) 1 0, e3 1 (.getfield 15) 3 11 3 2, e1 4 (.iload_n 1) 1 1, e0 5 (.iaload) 1, e1 6 (.ifCond .le 7) 3 13, ec 9 (.iconst 1) 1 1, e1 10 (.goto 4) 3 14], 13),
  (13, [false, false], [ec 13 (.iconst 0) 1 0], 14),
  (14, [false, false], [e1 14 (.ireturn) 1 1], 15)]
set_option maxRecDepth 100000 in
def K_X1_liesIn : List XB := [(0, [true, true, true, false], [ec 0 (.iconst 0) 1 0, e1 1 (.istore_n 3) 1 3], 2),
  (2, [true, true, true, true], [e1 2 (.iload_n 3) 1 3, e1 3 (.aload_n 0) 1 0, e3 4 (.getfield 15) 3 11 3 2, e1 7 (.iload_n 1) 1 1, e0 8 (.iaload) 1, e1 9 (.if_icmp .ge 26) 3 35, e1 12 (.aload_n 0) 1 0, e3 13 (.getfield 9) 3 11 2 2, e1 16 (.iload_n 1) 1 1, ec 17 (.bipush 6) 2 6, e0 19 (.imul) 1, e1 20 (.iload_n 3) 1 3, e0 21 (.iadd) 1, e0 22 (.iaload) 1, e1 23 (.iload_n 2) 1 2, e1 24 (.if_icmp .ne 5) 3 29, ec 27 (.iconst 1) 1 1, e1 28 (.ireturn) 1 1], 29),
  (29, [true, true, true, true], [ek 29 (.iinc 3 1) 3 1 3, e1 32 (.goto (-30)) 3 2], 35),
  (35, [false, false, false, false], [ec 35 (.iconst 0) 1 0, e1 36 (.ireturn) 1 1], 37)]
set_option maxRecDepth 100000 in
def K_X1_hasAllHomes : List XB := [(0, [true, true], [e1 0 (.aload_n 0) 1 0, e3 1 (.getfield 53) 3 11 0 2, e3 4 (.getfield 65) 3 18 2 2, e1 7 (.iload_n 1) 1 1, e0 8 (.iaload) 1, ec 9 (.iconst 3) 1 3, e1 10 (.if_icmp .ne 18) 3 28, e1 13 (.aload_n 0) 1 0, e3 14 (.getfield 15) 3 11 3 2, e1 17 (.iload_n 1) 1 1, e0 18 (.iaload) 1, ec 19 (.bipush 6) 2 6, e1 21 (.if_icmp .lt 7) 3 28, ec 24 (.iconst 1) 1 1, e1 25 (.goto 4) 3 29], 28),
  (28, [false, false], [ec 28 (.iconst 0) 1 0], 29),
  (29, [false, false], [e1 29 (.ireturn) 1 1], 30)]
set_option maxRecDepth 100000 in
def K_X1_isWithin : List XB := [(0, [true, true, true, false, false], [e1 0 (.iload_n 1) 1 1, e1 1 (.istore_n 3) 1 3, ec 2 (.iconst 0) 1 0, e1 3 (.istore 4) 2 4], 5),
  (5, [true, false, true, true, true], [e1 5 (.iload_n 3) 1 3, e1 6 (.ifCond .lt 30) 3 36, e1 9 (.iload 4) 2 4, ec 11 (.bipush 64) 2 64, e1 13 (.if_icmp .ge 23) 3 36, e1 16 (.iload_n 3) 1 3, e1 17 (.iload_n 2) 1 2, e1 18 (.if_icmp .ne 5) 3 23, ec 21 (.iconst 1) 1 1, e1 22 (.ireturn) 1 1], 23),
  (23, [true, false, true, true, true], [e1 23 (.aload_n 0) 1 0, e1 24 (.iload_n 3) 1 3, ec 25 (.iconst 0) 1 0, ei 26 (.invokevirtual 70) 3 11 8 3 0, e1 29 (.istore_n 3) 1 3, ek 30 (.iinc 4 1) 3 1 4, e1 33 (.goto (-28)) 3 5], 36),
  (36, [false, false, false, false, false], [ec 36 (.iconst 0) 1 0, e1 37 (.ireturn) 1 1], 38)]
set_option maxRecDepth 100000 in
def K_X1_lay : List XB := [(0, [true, true, true, true], [e1 0 (.aload_n 0) 1 0, e3 1 (.getfield 9) 3 11 2 2, e1 4 (.iload_n 1) 1 1, ec 5 (.bipush 6) 2 6, e0 7 (.imul) 1, e1 8 (.aload_n 0) 1 0, e3 9 (.getfield 15) 3 11 3 2, e1 12 (.iload_n 1) 1 1, e0 13 (.iaload) 1, e0 14 (.iadd) 1, e1 15 (.iload_n 2) 1 2, e0 16 (.iastore) 1, e1 17 (.aload_n 0) 1 0, e3 18 (.getfield 15) 3 11 3 2, e1 21 (.iload_n 1) 1 1, e0 22 (.dup2) 1, e0 23 (.iaload) 1, ec 24 (.iconst 1) 1 1, e0 25 (.iadd) 1, e0 26 (.iastore) 1, e1 27 (.aload_n 0) 1 0, e3 28 (.getfield 18) 3 11 4 2, e1 31 (.iload_n 1) 1 1, e1 32 (.iload_n 3) 1 3, e0 33 (.iastore) 1, e1 34 (.aload_n 0) 1 0, e3 35 (.getfield 53) 3 11 0 2, e3 38 (.getfield 65) 3 18 2 2, e1 41 (.iload_n 1) 1 1, e0 42 (.iaload) 1, ec 43 (.iconst 3) 1 3, e1 44 (.if_icmp .eq 13) 3 57, e1 47 (.aload_n 0) 1 0, e3 48 (.getfield 31) 3 11 8 2, e1 51 (.iload_n 2) 1 2, e0 52 (.dup2) 1, e0 53 (.iaload) 1, ec 54 (.iconst 1) 1 1, e0 55 (.iadd) 1, e0 56 (.iastore) 1], 57),
  (57, [false, false, false, false], [e0 57 (.return_) 1], 58)]
set_option maxRecDepth 100000 in
def K_X1_lift : List XB := [(0, [true, true], [e1 0 (.aload_n 0) 1 0, e3 1 (.getfield 31) 3 11 8 2, e1 4 (.aload_n 0) 1 0, e3 5 (.getfield 9) 3 11 2 2, e1 8 (.iload_n 1) 1 1, ec 9 (.bipush 6) 2 6, e0 11 (.imul) 1, e0 12 (.iaload) 1, e0 13 (.dup2) 1, e0 14 (.iaload) 1, ec 15 (.iconst 1) 1 1, e0 16 (.isub) 1, e0 17 (.iastore) 1, e1 18 (.aload_n 0) 1 0, e3 19 (.getfield 15) 3 11 3 2, e1 22 (.iload_n 1) 1 1, ec 23 (.iconst 0) 1 0, e0 24 (.iastore) 1, e1 25 (.aload_n 0) 1 0, e3 26 (.getfield 18) 3 11 4 2, e1 29 (.iload_n 1) 1 1, ec 30 (.bipush (-9)) 2 (-9), e0 32 (.iastore) 1, e0 33 (.return_) 1], 34)]
set_option maxRecDepth 100000 in
def K_X1_againstPut : List XB := [(0, [true, true, true, false], [e1 0 (.aload_n 0) 1 0, e3 1 (.getfield 53) 3 11 0 2, e1 4 (.iload_n 1) 1 1, ei 5 (.invokevirtual 74) 3 18 99 2 0, e1 8 (.istore_n 3) 1 3, e1 9 (.iload_n 3) 1 3, e1 10 (.ifCond .eq 18) 3 28, e1 13 (.aload_n 0) 1 0, e1 14 (.iload_n 1) 1 1, ei 15 (.invokevirtual 78) 3 11 9 2 0, e1 18 (.ifCond .eq 10) 3 28, e1 21 (.aload_n 0) 1 0, e3 22 (.getfield 18) 3 11 4 2, e1 25 (.iload_n 1) 1 1, e0 26 (.iaload) 1, e1 27 (.ireturn) 1 0], 28),
  (28, [true, true, true, true], [e1 28 (.aload_n 0) 1 0, e3 29 (.getfield 21) 3 11 5 2, e1 32 (.iload_n 1) 1 1, e0 33 (.laload) 1, e1 34 (.iload_n 2) 1 2, ei 35 (.invokestatic 81) 3 0 186 1 1, e0 38 (.land) 1, ec 39 (.lconst 0) 1 0, e0 40 (.lcmp) 1, e1 41 (.ifCond .eq 16) 3 57, e1 44 (.aload_n 0) 1 0, e3 45 (.getfield 57) 3 11 1 2, ec 48 (.iconst 1) 1 1, e1 49 (.iload_n 1) 1 1, e1 50 (.iload_n 2) 1 2, ec 51 (.bipush (-9)) 2 (-9), ei 53 (.invokevirtual 85) 3 14 65 5 0, e1 56 (.ireturn) 1 0], 57),
  (57, [true, true, true, true], [e1 57 (.aload_n 0) 1 0, e3 58 (.getfield 28) 3 11 7 2, e1 61 (.iload_n 1) 1 1, e0 62 (.iaload) 1, e1 63 (.ifCond .lt 26) 3 89, e1 66 (.aload_n 0) 1 0, e3 67 (.getfield 25) 3 11 6 2, e1 70 (.iload_n 1) 1 1, e0 71 (.laload) 1, e1 72 (.iload_n 2) 1 2, ei 73 (.invokestatic 81) 3 0 186 1 1, e0 76 (.land) 1, ec 77 (.lconst 0) 1 0, e0 78 (.lcmp) 1, e1 79 (.ifCond .ne 10) 3 89, e1 82 (.aload_n 0) 1 0, e3 83 (.getfield 28) 3 11 7 2, e1 86 (.iload_n 1) 1 1, e0 87 (.iaload) 1, e1 88 (.ireturn) 1 0], 89),
  (89, [true, true, true, true], [e1 89 (.iload_n 3) 1 3, e1 90 (.ifCond .eq 18) 3 108, e1 93 (.aload_n 0) 1 0, e1 94 (.iload_n 2) 1 2, ei 95 (.invokevirtual 91) 3 11 16 2 0, e1 98 (.ifCond .eq 10) 3 108, e1 101 (.aload_n 0) 1 0, e3 102 (.getfield 37) 3 11 10 2, e1 105 (.iload_n 2) 1 2, e0 106 (.iaload) 1, e1 107 (.ireturn) 1 0], 108),
  (108, [true, true, true, false], [e1 108 (.aload_n 0) 1 0, e1 109 (.iload_n 1) 1 1, e1 110 (.iload_n 2) 1 2, ei 111 (.invokevirtual 94) 3 11 17 3 0, e1 114 (.ireturn) 1 0], 115)]
set_option maxRecDepth 100000 in
def K_X1_isCrowded : List XB := [(0, [true, true], [e1 0 (.aload_n 0) 1 0, e1 1 (.iload_n 1) 1 1, ei 2 (.invokevirtual 97) 3 11 29 2 0, e1 5 (.ifCond .eq 22) 3 27, e1 8 (.aload_n 0) 1 0, e3 9 (.getfield 31) 3 11 8 2, e1 12 (.iload_n 1) 1 1, e0 13 (.iaload) 1, e1 14 (.aload_n 0) 1 0, e3 15 (.getfield 34) 3 11 9 2, e1 18 (.iload_n 1) 1 1, e0 19 (.iaload) 1, e1 20 (.if_icmp .lt 7) 3 27, ec 23 (.iconst 1) 1 1, e1 24 (.goto 4) 3 28], 27),
  (27, [false, false], [ec 27 (.iconst 0) 1 0], 28),
  (28, [false, false], [e1 28 (.ireturn) 1 1], 29)]
set_option maxRecDepth 100000 in
def K_X1_againstPairs : List XB := [(0, [true, true, true, false, false], [ec 0 (.iconst 0) 1 0, e1 1 (.istore_n 3) 1 3], 2),
  (2, [true, true, true, true, false], [e1 2 (.iload_n 3) 1 3, e1 3 (.aload_n 0) 1 0, e3 4 (.getfield 100) 3 11 15 0, e1 7 (.if_icmp .ge 63) 3 70, e1 10 (.aload_n 0) 1 0, e1 11 (.iload_n 3) 1 3, e1 12 (.iload_n 1) 1 1, ei 13 (.invokevirtual 104) 3 11 18 3 0, e1 16 (.istore 4) 2 4, e1 18 (.iload 4) 2 4, e1 20 (.ifCond .lt 44) 3 64, e1 23 (.aload_n 0) 1 0, e1 24 (.iload 4) 2 4, ei 26 (.invokevirtual 78) 3 11 9 2 0, e1 29 (.ifCond .eq 35) 3 64, e1 32 (.aload_n 0) 1 0, e1 33 (.iload 4) 2 4, ec 35 (.iconst 0) 1 0, ei 36 (.invokevirtual 70) 3 11 8 3 0, e1 39 (.iload_n 2) 1 2, e1 40 (.if_icmp .ne 7) 3 47, ec 43 (.iconst 1) 1 1, e1 44 (.goto 4) 3 48], 47),
  (47, [true, true, true, true, false], [ec 47 (.iconst 0) 1 0], 48),
  (48, [true, true, true, true, false], [e1 48 (.aload_n 0) 1 0, e3 49 (.getfield 46) 3 11 13 2, e1 52 (.iload_n 3) 1 3, e0 53 (.baload) 1, e1 54 (.if_icmp .eq 10) 3 64, e1 57 (.aload_n 0) 1 0, e3 58 (.getfield 50) 3 11 14 2, e1 61 (.iload_n 3) 1 3, e0 62 (.iaload) 1, e1 63 (.ireturn) 1 0], 64),
  (64, [true, true, true, true, false], [ek 64 (.iinc 3 1) 3 1 3, e1 67 (.goto (-65)) 3 2], 70),
  (70, [false, false, false, false, false], [ec 70 (.bipush (-9)) 2 (-9), e1 72 (.ireturn) 1 0], 73)]
set_option maxRecDepth 100000 in
def K_X1_partner : List XB := [(0, [true, true, true], [e1 0 (.aload_n 0) 1 0, e3 1 (.getfield 40) 3 11 11 2, e1 4 (.iload_n 1) 1 1, e0 5 (.iaload) 1, e1 6 (.iload_n 2) 1 2, e1 7 (.if_icmp .ne 10) 3 17, e1 10 (.aload_n 0) 1 0, e3 11 (.getfield 43) 3 11 12 2, e1 14 (.iload_n 1) 1 1, e0 15 (.iaload) 1, e1 16 (.ireturn) 1 0], 17),
  (17, [true, true, true], [e1 17 (.aload_n 0) 1 0, e3 18 (.getfield 43) 3 11 12 2, e1 21 (.iload_n 1) 1 1, e0 22 (.iaload) 1, e1 23 (.iload_n 2) 1 2, e1 24 (.if_icmp .ne 12) 3 36, e1 27 (.aload_n 0) 1 0, e3 28 (.getfield 40) 3 11 11 2, e1 31 (.iload_n 1) 1 1, e0 32 (.iaload) 1, e1 33 (.goto 5) 3 38], 36),
  (36, [false, false, false], [ec 36 (.bipush (-9)) 2 (-9)], 38),
  (38, [false, false, false], [e1 38 (.ireturn) 1 0], 39)]
set_option maxRecDepth 100000 in
def K_X1_againstBar : List XB := [(0, [true, true, true], [e1 0 (.aload_n 0) 1 0, e1 1 (.iload_n 1) 1 1, e1 2 (.iload_n 2) 1 2, ei 3 (.invokevirtual 107) 3 11 10 3 0, e1 6 (.ifCond .eq 16) 3 22, e1 9 (.aload_n 0) 1 0, e3 10 (.getfield 57) 3 11 1 2, ec 13 (.iconst 0) 1 0, e1 14 (.iload_n 1) 1 1, e1 15 (.iload_n 2) 1 2, ec 16 (.bipush (-9)) 2 (-9), ei 18 (.invokevirtual 85) 3 14 65 5 0, e1 21 (.ireturn) 1 0], 22),
  (22, [true, true, true], [e1 22 (.aload_n 0) 1 0, e3 23 (.getfield 28) 3 11 7 2, e1 26 (.iload_n 1) 1 1, e0 27 (.iaload) 1, e1 28 (.ifCond .lt 32) 3 60, e1 31 (.aload_n 0) 1 0, e3 32 (.getfield 25) 3 11 6 2, e1 35 (.iload_n 1) 1 1, e0 36 (.laload) 1, e1 37 (.iload_n 2) 1 2, ei 38 (.invokestatic 81) 3 0 186 1 1, ec 41 (.ldc2_w 110) 3 (-1), e0 44 (.lxor) 1, e0 45 (.land) 1, ec 46 (.lconst 0) 1 0, e0 47 (.lcmp) 1, e1 48 (.ifCond .ne 12) 3 60, e1 51 (.aload_n 0) 1 0, e3 52 (.getfield 28) 3 11 7 2, e1 55 (.iload_n 1) 1 1, e0 56 (.iaload) 1, e1 57 (.goto 5) 3 62], 60),
  (60, [false, false, false], [ec 60 (.bipush (-9)) 2 (-9)], 62),
  (62, [false, false, false], [e1 62 (.ireturn) 1 0], 63)]
set_option maxRecDepth 100000 in
def K_X1_shut : List XB := [(0, [true, true, true], [e1 0 (.aload_n 0) 1 0, e3 1 (.getfield 21) 3 11 5 2, e1 4 (.iload_n 1) 1 1, e0 5 (.dup2) 1, e0 6 (.laload) 1, e1 7 (.iload_n 2) 1 2, ei 8 (.invokestatic 81) 3 0 186 1 1, e0 11 (.lor) 1, e0 12 (.lastore) 1, e1 13 (.aload_n 0) 1 0, e3 14 (.getfield 25) 3 11 6 2, e1 17 (.iload_n 1) 1 1, e0 18 (.dup2) 1, e0 19 (.laload) 1, e1 20 (.iload_n 2) 1 2, ei 21 (.invokestatic 81) 3 0 186 1 1, ec 24 (.ldc2_w 110) 3 (-1), e0 27 (.lxor) 1, e0 28 (.land) 1, e0 29 (.lastore) 1, e0 30 (.return_) 1], 31)]
set_option maxRecDepth 100000 in
def K_X1_againstAmong : List XB := [(0, [true, true, true, false], [e1 0 (.aload_n 0) 1 0, e1 1 (.iload_n 1) 1 1, ei 2 (.invokevirtual 78) 3 11 9 2 0, e1 5 (.ifCond .eq 26) 3 31, e1 8 (.lload_n 2) 1 2, e1 9 (.aload_n 0) 1 0, e1 10 (.iload_n 1) 1 1, ec 11 (.iconst 0) 1 0, ei 12 (.invokevirtual 70) 3 11 8 3 0, ei 15 (.invokestatic 81) 3 0 186 1 1, e0 18 (.land) 1, ec 19 (.lconst 0) 1 0, e0 20 (.lcmp) 1, e1 21 (.ifCond .ne 10) 3 31, e1 24 (.aload_n 0) 1 0, e3 25 (.getfield 18) 3 11 4 2, e1 28 (.iload_n 1) 1 1, e0 29 (.iaload) 1, e1 30 (.ireturn) 1 0], 31),
  (31, [true, true, true, false], [e1 31 (.aload_n 0) 1 0, e3 32 (.getfield 28) 3 11 7 2, e1 35 (.iload_n 1) 1 1, e0 36 (.iaload) 1, e1 37 (.ifCond .lt 23) 3 60, e1 40 (.lload_n 2) 1 2, e1 41 (.aload_n 0) 1 0, e3 42 (.getfield 25) 3 11 6 2, e1 45 (.iload_n 1) 1 1, e0 46 (.laload) 1, e0 47 (.land) 1, ec 48 (.lconst 0) 1 0, e0 49 (.lcmp) 1, e1 50 (.ifCond .ne 10) 3 60, e1 53 (.aload_n 0) 1 0, e3 54 (.getfield 28) 3 11 7 2, e1 57 (.iload_n 1) 1 1, e0 58 (.iaload) 1, e1 59 (.ireturn) 1 0], 60),
  (60, [true, true, true, false], [e1 60 (.lload_n 2) 1 2, e1 61 (.aload_n 0) 1 0, e3 62 (.getfield 21) 3 11 5 2, e1 65 (.iload_n 1) 1 1, e0 66 (.laload) 1, ec 67 (.ldc2_w 110) 3 (-1), e0 70 (.lxor) 1, e0 71 (.land) 1, ec 72 (.lconst 0) 1 0, e0 73 (.lcmp) 1, e1 74 (.ifCond .ne 12) 3 86, e1 77 (.aload_n 0) 1 0, e1 78 (.iload_n 1) 1 1, e1 79 (.lload_n 2) 1 2, ei 80 (.invokevirtual 112) 3 11 22 3 0, e1 83 (.goto 5) 3 88], 86),
  (86, [false, false, false, false], [ec 86 (.bipush (-9)) 2 (-9)], 88),
  (88, [false, false, false, false], [e1 88 (.ireturn) 1 0], 89)]
set_option maxRecDepth 100000 in
def K_X1_earliestBarInto : List XB := [(0, [true, true, true, false, false], [ec 0 (.iconst 0) 1 0, e1 1 (.istore 4) 2 4], 3),
  (3, [true, true, true, false, true], [e1 3 (.iload 4) 2 4, e1 5 (.aload_n 0) 1 0, e3 6 (.getfield 57) 3 11 1 2, e3 9 (.getfield 116) 3 14 4 0, e1 12 (.if_icmp .ge 60) 3 72, e1 15 (.aload_n 0) 1 0, e3 16 (.getfield 57) 3 11 1 2, e3 19 (.getfield 119) 3 14 0 2, e1 22 (.iload 4) 2 4, e0 24 (.iaload) 1, ec 25 (.iconst 1) 1 1, e1 26 (.if_icmp .ne 40) 3 66, e1 29 (.aload_n 0) 1 0, e3 30 (.getfield 57) 3 11 1 2, e3 33 (.getfield 122) 3 14 1 2, e1 36 (.iload 4) 2 4, e0 38 (.iaload) 1, e1 39 (.iload_n 1) 1 1, e1 40 (.if_icmp .ne 26) 3 66, e1 43 (.lload_n 2) 1 2, e1 44 (.aload_n 0) 1 0, e3 45 (.getfield 57) 3 11 1 2, e3 48 (.getfield 125) 3 14 2 2, e1 51 (.iload 4) 2 4, e0 53 (.iaload) 1, ei 54 (.invokestatic 81) 3 0 186 1 1, e0 57 (.land) 1, ec 58 (.lconst 0) 1 0, e0 59 (.lcmp) 1, e1 60 (.ifCond .eq 6) 3 66, e1 63 (.iload 4) 2 4, e1 65 (.ireturn) 1 0], 66),
  (66, [true, true, true, false, true], [ek 66 (.iinc 4 1) 3 1 4, e1 69 (.goto (-66)) 3 3], 72),
  (72, [false, false, false, false, false], [ec 72 (.bipush (-9)) 2 (-9), e1 74 (.ireturn) 1 0], 75)]
set_option maxRecDepth 100000 in
def K_X1_narrow : List XB := [(0, [true, true, true, false, true, false, false], [e1 0 (.aload_n 0) 1 0, e3 1 (.getfield 28) 3 11 7 2, e1 4 (.iload_n 1) 1 1, e0 5 (.iaload) 1, e1 6 (.ifCond .lt 12) 3 18, e1 9 (.aload_n 0) 1 0, e3 10 (.getfield 25) 3 11 6 2, e1 13 (.iload_n 1) 1 1, e0 14 (.laload) 1, e1 15 (.goto 6) 3 21], 18),
  (18, [true, true, true, false, true, false, false], [ec 18 (.ldc2_w 110) 3 (-1)], 21),
  (21, [true, true, true, false, true, false, false], [e1 21 (.lstore 5) 2 5, e1 23 (.aload_n 0) 1 0, e3 24 (.getfield 25) 3 11 6 2, e1 27 (.iload_n 1) 1 1, e1 28 (.lload_n 2) 1 2, e1 29 (.lload 5) 2 5, e0 31 (.land) 1, e1 32 (.aload_n 0) 1 0, e3 33 (.getfield 21) 3 11 5 2, e1 36 (.iload_n 1) 1 1, e0 37 (.laload) 1, ec 38 (.ldc2_w 110) 3 (-1), e0 41 (.lxor) 1, e0 42 (.land) 1, e0 43 (.lastore) 1, e1 44 (.aload_n 0) 1 0, e3 45 (.getfield 28) 3 11 7 2, e1 48 (.iload_n 1) 1 1, e1 49 (.iload 4) 2 4, e0 51 (.iastore) 1, e0 52 (.return_) 1], 53)]
set_option maxRecDepth 100000 in
def K_X1_setOf : List XB := [(0, [true, true], [e1 0 (.aload_n 0) 1 0, e3 1 (.getfield 25) 3 11 6 2, e1 4 (.iload_n 1) 1 1, e0 5 (.laload) 1, e0 6 (.lreturn) 1], 7)]
set_option maxRecDepth 100000 in
def K_X1_isUnsettled : List XB := [(0, [true, true], [e1 0 (.aload_n 0) 1 0, e3 1 (.getfield 28) 3 11 7 2, e1 4 (.iload_n 1) 1 1, e0 5 (.iaload) 1, e1 6 (.ifCond .lt 15) 3 21, e1 9 (.aload_n 0) 1 0, e1 10 (.iload_n 1) 1 1, ei 11 (.invokevirtual 78) 3 11 9 2 0, e1 14 (.ifCond .ne 7) 3 21, ec 17 (.iconst 1) 1 1, e1 18 (.goto 4) 3 22], 21),
  (21, [false, false], [ec 21 (.iconst 0) 1 0], 22),
  (22, [false, false], [e1 22 (.ireturn) 1 1], 23)]
set_option maxRecDepth 100000 in
def K_X1_unsettled : List XB := [(0, [true, false, false], [ec 0 (.iconst 0) 1 0, e1 1 (.istore_n 1) 1 1, ec 2 (.iconst 0) 1 0, e1 3 (.istore_n 2) 1 2], 4),
  (4, [true, true, true], [e1 4 (.iload_n 2) 1 2, e1 5 (.aload_n 0) 1 0, e3 6 (.getfield 53) 3 11 0 2, e3 9 (.getfield 128) 3 18 7 0, e1 12 (.if_icmp .ge 20) 3 32, e1 15 (.aload_n 0) 1 0, e1 16 (.iload_n 2) 1 2, ei 17 (.invokevirtual 129) 3 11 25 2 0, e1 20 (.ifCond .eq 6) 3 26, ek 23 (.iinc 1 1) 3 1 1], 26),
  (26, [true, true, true], [ek 26 (.iinc 2 1) 3 1 2, e1 29 (.goto (-25)) 3 4], 32),
  (32, [false, true, false], [e1 32 (.iload_n 1) 1 1, e1 33 (.ireturn) 1 0], 34)]
set_option maxRecDepth 100000 in
def K_X1_againstPairing : List XB := [(0, [true, true, true, true, false], [ec 0 (.iconst 0) 1 0, e1 1 (.istore 4) 2 4], 3),
  (3, [true, true, true, true, true], [e1 3 (.iload 4) 2 4, e1 5 (.aload_n 0) 1 0, e3 6 (.getfield 100) 3 11 15 0, e1 9 (.if_icmp .ge 39) 3 48, e1 12 (.aload_n 0) 1 0, e1 13 (.iload 4) 2 4, e1 15 (.iload_n 1) 1 1, ei 16 (.invokevirtual 104) 3 11 18 3 0, e1 19 (.iload_n 2) 1 2, e1 20 (.if_icmp .ne 22) 3 42, e1 23 (.aload_n 0) 1 0, e3 24 (.getfield 46) 3 11 13 2, e1 27 (.iload 4) 2 4, e0 29 (.baload) 1, e1 30 (.iload_n 3) 1 3, e1 31 (.if_icmp .eq 11) 3 42, e1 34 (.aload_n 0) 1 0, e3 35 (.getfield 50) 3 11 14 2, e1 38 (.iload 4) 2 4, e0 40 (.iaload) 1, e1 41 (.ireturn) 1 0], 42),
  (42, [true, true, true, true, true], [ek 42 (.iinc 4 1) 3 1 4, e1 45 (.goto (-42)) 3 3], 48),
  (48, [true, true, true, true, false], [e1 48 (.aload_n 0) 1 0, e1 49 (.iload_n 1) 1 1, ei 50 (.invokevirtual 78) 3 11 9 2 0, e1 53 (.ifCond .eq 51) 3 104, e1 56 (.aload_n 0) 1 0, e1 57 (.iload_n 2) 1 2, ei 58 (.invokevirtual 78) 3 11 9 2 0, e1 61 (.ifCond .eq 43) 3 104, e1 64 (.aload_n 0) 1 0, e1 65 (.iload_n 1) 1 1, ec 66 (.iconst 0) 1 0, ei 67 (.invokevirtual 70) 3 11 8 3 0, e1 70 (.aload_n 0) 1 0, e1 71 (.iload_n 2) 1 2, ec 72 (.iconst 0) 1 0, ei 73 (.invokevirtual 70) 3 11 8 3 0, e1 76 (.if_icmp .ne 7) 3 83, ec 79 (.iconst 1) 1 1, e1 80 (.goto 4) 3 84], 83),
  (83, [true, true, true, true, false], [ec 83 (.iconst 0) 1 0], 84),
  (84, [true, true, true, true, false], [e1 84 (.iload_n 3) 1 3, e1 85 (.if_icmp .eq 19) 3 104, e1 88 (.aload_n 0) 1 0, e3 89 (.getfield 18) 3 11 4 2, e1 92 (.iload_n 1) 1 1, e0 93 (.iaload) 1, e1 94 (.aload_n 0) 1 0, e3 95 (.getfield 18) 3 11 4 2, e1 98 (.iload_n 2) 1 2, e0 99 (.iaload) 1, ei 100 (.invokestatic 132) 3 0 309 2 0, e1 103 (.ireturn) 1 0], 104),
  (104, [false, false, false, false, false], [ec 104 (.bipush (-9)) 2 (-9), e1 106 (.ireturn) 1 0], 107)]
set_option maxRecDepth 100000 in
def K_X1_addPair : List XB := [(0, [true, true, true, true, true], [e1 0 (.aload_n 0) 1 0, e3 1 (.getfield 40) 3 11 11 2, e1 4 (.aload_n 0) 1 0, e3 5 (.getfield 100) 3 11 15 0, e1 8 (.iload_n 1) 1 1, e0 9 (.iastore) 1, e1 10 (.aload_n 0) 1 0, e3 11 (.getfield 43) 3 11 12 2, e1 14 (.aload_n 0) 1 0, e3 15 (.getfield 100) 3 11 15 0, e1 18 (.iload_n 2) 1 2, e0 19 (.iastore) 1, e1 20 (.aload_n 0) 1 0, e3 21 (.getfield 46) 3 11 13 2, e1 24 (.aload_n 0) 1 0, e3 25 (.getfield 100) 3 11 15 0, e1 28 (.iload_n 3) 1 3, e0 29 (.bastore) 1, e1 30 (.aload_n 0) 1 0, e3 31 (.getfield 50) 3 11 14 2, e1 34 (.aload_n 0) 1 0, e3 35 (.getfield 100) 3 11 15 0, e1 38 (.iload 4) 2 4, e0 40 (.iastore) 1, e1 41 (.aload_n 0) 1 0, e0 42 (.dup) 1, e3 43 (.getfield 100) 3 11 15 0, ec 46 (.iconst 1) 1 1, e0 47 (.iadd) 1, e3 48 (.putfield 100) 3 11 15 0, e0 51 (.return_) 1], 52)]
set_option maxRecDepth 100000 in
def K_X1_hasMost : List XB := [(0, [true, true], [e1 0 (.aload_n 0) 1 0, e3 1 (.getfield 37) 3 11 10 2, e1 4 (.iload_n 1) 1 1, e0 5 (.iaload) 1, e1 6 (.ifCond .lt 7) 3 13, ec 9 (.iconst 1) 1 1, e1 10 (.goto 4) 3 14], 13),
  (13, [false, false], [ec 13 (.iconst 0) 1 0], 14),
  (14, [false, false], [e1 14 (.ireturn) 1 1], 15)]
set_option maxRecDepth 100000 in
def K_X1_tellMost : List XB := [(0, [true, true, true, true], [e1 0 (.aload_n 0) 1 0, e3 1 (.getfield 34) 3 11 9 2, e1 4 (.iload_n 1) 1 1, e1 5 (.iload_n 2) 1 2, e0 6 (.iastore) 1, e1 7 (.aload_n 0) 1 0, e3 8 (.getfield 37) 3 11 10 2, e1 11 (.iload_n 1) 1 1, e1 12 (.iload_n 3) 1 3, e0 13 (.iastore) 1, e0 14 (.return_) 1], 15)]
set_option maxRecDepth 100000 in
def K_X1_putBehind : List XB := [(0, [true, true, true, false, false], [ec 0 (.iconst 0) 1 0, e1 1 (.istore_n 3) 1 3, ec 2 (.iconst 0) 1 0, e1 3 (.istore 4) 2 4], 5),
  (5, [true, true, true, true, true], [e1 5 (.iload 4) 2 4, e1 7 (.aload_n 0) 1 0, e3 8 (.getfield 57) 3 11 1 2, e3 11 (.getfield 116) 3 14 4 0, e1 14 (.if_icmp .ge 69) 3 83, e1 17 (.aload_n 0) 1 0, e3 18 (.getfield 57) 3 11 1 2, e3 21 (.getfield 119) 3 14 0 2, e1 24 (.iload 4) 2 4, e0 26 (.iaload) 1, e1 27 (.ifCond .ne 50) 3 77, e1 30 (.aload_n 0) 1 0, e3 31 (.getfield 57) 3 11 1 2, e3 34 (.getfield 125) 3 14 2 2, e1 37 (.iload 4) 2 4, e0 39 (.iaload) 1, e1 40 (.iload_n 1) 1 1, e1 41 (.if_icmp .ne 36) 3 77, e1 44 (.aload_n 0) 1 0, e3 45 (.getfield 53) 3 11 0 2, e3 48 (.getfield 65) 3 18 2 2, e1 51 (.aload_n 0) 1 0, e3 52 (.getfield 57) 3 11 1 2, e3 55 (.getfield 122) 3 14 1 2, e1 58 (.iload 4) 2 4, e0 60 (.iaload) 1, e0 61 (.iaload) 1, ec 62 (.iconst 3) 1 3, e1 63 (.if_icmp .eq 14) 3 77, e1 66 (.iload_n 3) 1 3, e1 67 (.iload_n 2) 1 2, e1 68 (.if_icmp .ne 6) 3 74, e1 71 (.iload 4) 2 4, e1 73 (.ireturn) 1 0], 74),
  (74, [true, true, true, true, true], [ek 74 (.iinc 3 1) 3 1 3], 77),
  (77, [true, true, true, true, true], [ek 77 (.iinc 4 1) 3 1 4, e1 80 (.goto (-75)) 3 5], 83),
  (83, [false, false, false, false, false], [ec 83 (.bipush (-9)) 2 (-9), e1 85 (.ireturn) 1 0], 86)]
set_option maxRecDepth 100000 in
def K_X1_bulk : List XB := [(0, [true, true], [e1 0 (.aload_n 0) 1 0, e3 1 (.getfield 53) 3 11 0 2, e3 4 (.getfield 65) 3 18 2 2, e1 7 (.iload_n 1) 1 1, e0 8 (.iaload) 1, es 9 (.tableswitch 67 1 5 #[35, 41, 53, 55, 55]) 35 1 76 [44, 50, 62, 64, 64]], 44),
  (44, [true, true], [e1 44 (.aload_n 0) 1 0, e1 45 (.iload_n 1) 1 1, ei 46 (.invokevirtual 137) 3 11 34 2 0, e1 49 (.ireturn) 1 0], 50),
  (50, [true, true], [ec 50 (.iconst 2) 1 2, e1 51 (.aload_n 0) 1 0, e3 52 (.getfield 53) 3 11 0 2, e3 55 (.getfield 141) 3 18 3 2, e1 58 (.iload_n 1) 1 1, e0 59 (.iaload) 1, e0 60 (.imul) 1, e1 61 (.ireturn) 1 0], 62),
  (62, [false, false], [ec 62 (.iconst 0) 1 0, e1 63 (.ireturn) 1 0], 64),
  (64, [true, true], [e1 64 (.aload_n 0) 1 0, e1 65 (.iload_n 1) 1 1, ei 66 (.invokevirtual 144) 3 11 33 2 0, e1 69 (.aload_n 0) 1 0, e1 70 (.iload_n 1) 1 1, ei 71 (.invokevirtual 137) 3 11 34 2 0, e0 74 (.iadd) 1, e1 75 (.ireturn) 1 0], 76),
  (76, [true, true], [e1 76 (.aload_n 0) 1 0, e1 77 (.iload_n 1) 1 1, ei 78 (.invokevirtual 144) 3 11 33 2 0, e1 81 (.ireturn) 1 0], 82)]
set_option maxRecDepth 100000 in
def K_X1_bulkAlone : List XB := [(0, [true, true], [e1 0 (.aload_n 0) 1 0, e3 1 (.getfield 53) 3 11 0 2, e3 4 (.getfield 141) 3 18 3 2, e1 7 (.iload_n 1) 1 1, e0 8 (.iaload) 1, e1 9 (.aload_n 0) 1 0, e3 10 (.getfield 53) 3 11 0 2, e3 13 (.getfield 65) 3 18 2 2, e1 16 (.iload_n 1) 1 1, e0 17 (.iaload) 1, ec 18 (.iconst 5) 1 5, e1 19 (.if_icmp .ne 8) 3 27, ec 22 (.bipush 10) 2 10, e1 24 (.goto 4) 3 28], 27),
  (27, [false, false], [ec 27 (.iconst 0) 1 0], 28),
  (28, [false, false], [e0 28 (.iadd) 1, e1 29 (.ireturn) 1 0], 30)]
set_option maxRecDepth 100000 in
def K_X1_load : List XB := [(0, [true, true, false, false], [ec 0 (.iconst 0) 1 0, e1 1 (.istore_n 2) 1 2, ec 2 (.iconst 0) 1 0, e1 3 (.istore_n 3) 1 3], 4),
  (4, [true, true, true, true], [e1 4 (.iload_n 3) 1 3, e1 5 (.aload_n 0) 1 0, e3 6 (.getfield 53) 3 11 0 2, e3 9 (.getfield 128) 3 18 7 0, e1 12 (.if_icmp .ge 52) 3 64, e1 15 (.aload_n 0) 1 0, e3 16 (.getfield 53) 3 11 0 2, e3 19 (.getfield 65) 3 18 2 2, e1 22 (.iload_n 3) 1 3, e0 23 (.iaload) 1, ec 24 (.iconst 3) 1 3, e1 25 (.if_icmp .eq 33) 3 58, e1 28 (.aload_n 0) 1 0, e1 29 (.iload_n 3) 1 3, ei 30 (.invokevirtual 78) 3 11 9 2 0, e1 33 (.ifCond .eq 25) 3 58, e1 36 (.aload_n 0) 1 0, e1 37 (.aload_n 0) 1 0, e1 38 (.iload_n 3) 1 3, ec 39 (.iconst 0) 1 0, ei 40 (.invokevirtual 70) 3 11 8 3 0, e1 43 (.iload_n 1) 1 1, ei 44 (.invokevirtual 147) 3 11 12 3 0, e1 47 (.ifCond .eq 11) 3 58, e1 50 (.iload_n 2) 1 2, e1 51 (.aload_n 0) 1 0, e1 52 (.iload_n 3) 1 3, ei 53 (.invokevirtual 144) 3 11 33 2 0, e0 56 (.iadd) 1, e1 57 (.istore_n 2) 1 2], 58),
  (58, [true, true, true, true], [ek 58 (.iinc 3 1) 3 1 3, e1 61 (.goto (-57)) 3 4], 64),
  (64, [false, false, true, false], [e1 64 (.iload_n 2) 1 2, e1 65 (.ireturn) 1 0], 66)]
set_option maxRecDepth 100000 in
def K_X2_init : List XB := [(0, [true, true, true, true], [e1 0 (.aload_n 0) 1 0, ei 1 (.invokespecial 3) 3 0 0 1 9, e1 4 (.aload_n 0) 1 0, ec 5 (.bipush 8) 2 8, e1 7 (.newarray .int) 2 1, e3 9 (.putfield 9) 3 12 3 2, e1 12 (.aload_n 0) 1 0, ec 13 (.sipush 512) 3 512, e1 16 (.newarray .long) 2 2, e3 18 (.putfield 15) 3 12 4 2, e1 21 (.aload_n 0) 1 0, ec 22 (.bipush 64) 2 64, e1 24 (.newarray .long) 2 2, e3 26 (.putfield 19) 3 12 5 2, e1 29 (.aload_n 0) 1 0, e1 30 (.aload_n 1) 1 1, e3 31 (.putfield 22) 3 12 0 2, e1 34 (.aload_n 0) 1 0, e1 35 (.aload_n 2) 1 2, e3 36 (.putfield 26) 3 12 1 2, e1 39 (.aload_n 0) 1 0, e1 40 (.aload_n 3) 1 3, e3 41 (.putfield 30) 3 12 2 2, e0 44 (.return_) 1], 45)]
set_option maxRecDepth 100000 in
def K_X2_add : List XB := [(0, [true, true, false], [e1 0 (.aload_n 0) 1 0, e3 1 (.getfield 9) 3 12 3 2, e1 4 (.aload_n 0) 1 0, e3 5 (.getfield 34) 3 12 6 0, e1 8 (.iload_n 1) 1 1, e0 9 (.iastore) 1, ec 10 (.iconst 0) 1 0, e1 11 (.istore_n 2) 1 2], 12),
  (12, [true, true, true], [e1 12 (.iload_n 2) 1 2, ec 13 (.bipush 64) 2 64, e1 15 (.if_icmp .ge 36) 3 51, e1 18 (.aload_n 0) 1 0, e3 19 (.getfield 15) 3 12 4 2, e1 22 (.aload_n 0) 1 0, e3 23 (.getfield 34) 3 12 6 0, ec 26 (.bipush 64) 2 64, e0 28 (.imul) 1, e1 29 (.iload_n 2) 1 2, e0 30 (.iadd) 1, e1 31 (.iload_n 1) 1 1, ec 32 (.iconst 5) 1 5, e1 33 (.if_icmp .ne 10) 3 43, e1 36 (.iload_n 2) 1 2, ei 37 (.invokestatic 38) 3 0 186 1 1, e1 40 (.goto 4) 3 44], 43),
  (43, [true, true, true], [ec 43 (.lconst 0) 1 0], 44),
  (44, [true, true, true], [e0 44 (.lastore) 1, ek 45 (.iinc 2 1) 3 1 2, e1 48 (.goto (-36)) 3 12], 51),
  (51, [true, false, false], [e1 51 (.aload_n 0) 1 0, e0 52 (.dup) 1, e3 53 (.getfield 34) 3 12 6 0, e0 56 (.dup_x1) 1, ec 57 (.iconst 1) 1 1, e0 58 (.iadd) 1, e3 59 (.putfield 34) 3 12 6 0, e1 62 (.ireturn) 1 0], 63)]
set_option maxRecDepth 100000 in
def K_X2_has : List XB := [(0, [true, true], [e1 0 (.iload_n 1) 1 1, e1 1 (.aload_n 0) 1 0, e3 2 (.getfield 34) 3 12 6 0, ei 5 (.invokestatic 42) 3 0 123 2 0, e1 8 (.ireturn) 1 1], 9)]
set_option maxRecDepth 100000 in
def K_X2_rowOf : List XB := [(0, [true, true, true], [e1 0 (.aload_n 0) 1 0, e3 1 (.getfield 15) 3 12 4 2, e1 4 (.iload_n 1) 1 1, ec 5 (.bipush 64) 2 64, e0 7 (.imul) 1, e1 8 (.iload_n 2) 1 2, e0 9 (.iadd) 1, e0 10 (.laload) 1, e0 11 (.lreturn) 1], 12)]
set_option maxRecDepth 100000 in
def K_X2_holds : List XB := [(0, [true, true, true, true], [e1 0 (.aload_n 0) 1 0, e1 1 (.iload_n 1) 1 1, e1 2 (.iload_n 2) 1 2, ei 3 (.invokevirtual 46) 3 12 38 3 1, e1 6 (.iload_n 3) 1 3, ei 7 (.invokestatic 38) 3 0 186 1 1, e0 10 (.land) 1, ec 11 (.lconst 0) 1 0, e0 12 (.lcmp) 1, e1 13 (.ifCond .eq 7) 3 20, ec 16 (.iconst 1) 1 1, e1 17 (.goto 4) 3 21], 20),
  (20, [false, false, false, false], [ec 20 (.iconst 0) 1 0], 21),
  (21, [false, false, false, false], [e1 21 (.ireturn) 1 1], 22)]
set_option maxRecDepth 100000 in
def K_X2_join : List XB := [(0, [true, true, true, true, false], [e1 0 (.iload_n 1) 1 1, ec 1 (.bipush 64) 2 64, e0 3 (.imul) 1, e1 4 (.istore 4) 2 4, e1 6 (.aload_n 0) 1 0, e3 7 (.getfield 9) 3 12 3 2, e1 10 (.iload_n 1) 1 1, e0 11 (.iaload) 1, ec 12 (.iconst 5) 1 5, e1 13 (.if_icmp .ne 15) 3 28, e1 16 (.aload_n 0) 1 0, e3 17 (.getfield 15) 3 12 4 2, e1 20 (.iload 4) 2 4, e1 22 (.iload_n 2) 1 2, e1 23 (.iload_n 3) 1 3, ei 24 (.invokestatic 50) 3 0 41 4 3, e0 27 (.return_) 1], 28),
  (28, [true, true, true, true, true], [e1 28 (.aload_n 0) 1 0, e3 29 (.getfield 15) 3 12 4 2, e1 32 (.iload 4) 2 4, e1 34 (.iload_n 2) 1 2, e0 35 (.iadd) 1, e0 36 (.dup2) 1, e0 37 (.laload) 1, e1 38 (.iload_n 3) 1 3, ei 39 (.invokestatic 38) 3 0 186 1 1, e0 42 (.lor) 1, e0 43 (.lastore) 1, e1 44 (.aload_n 0) 1 0, e3 45 (.getfield 9) 3 12 3 2, e1 48 (.iload_n 1) 1 1, e0 49 (.iaload) 1, ec 50 (.iconst 4) 1 4, e1 51 (.if_icmp .ne 19) 3 70, e1 54 (.aload_n 0) 1 0, e3 55 (.getfield 15) 3 12 4 2, e1 58 (.iload 4) 2 4, e1 60 (.iload_n 3) 1 3, e0 61 (.iadd) 1, e0 62 (.dup2) 1, e0 63 (.laload) 1, e1 64 (.iload_n 2) 1 2, ei 65 (.invokestatic 38) 3 0 186 1 1, e0 68 (.lor) 1, e0 69 (.lastore) 1], 70),
  (70, [false, false, false, false, false], [e0 70 (.return_) 1], 71)]
set_option maxRecDepth 100000 in
def K_X2_merge : List XB := [(0, [true, true, true, true, false, false, false], [e1 0 (.aload_n 0) 1 0, e1 1 (.iload_n 1) 1 1, e1 2 (.iload_n 2) 1 2, e0 3 (.iadd) 1, e0 4 (.laload) 1, e1 5 (.aload_n 0) 1 0, e1 6 (.iload_n 1) 1 1, e1 7 (.iload_n 3) 1 3, e0 8 (.iadd) 1, e0 9 (.laload) 1, e0 10 (.lor) 1, e1 11 (.lstore 4) 2 4, ec 13 (.iconst 0) 1 0, e1 14 (.istore 6) 2 6], 16),
  (16, [true, true, false, false, true, false, true], [e1 16 (.iload 6) 2 6, ec 18 (.bipush 64) 2 64, e1 20 (.if_icmp .ge 30) 3 50, e1 23 (.lload 4) 2 4, e1 25 (.iload 6) 2 6, ei 27 (.invokestatic 38) 3 0 186 1 1, e0 30 (.land) 1, ec 31 (.lconst 0) 1 0, e0 32 (.lcmp) 1, e1 33 (.ifCond .eq 11) 3 44, e1 36 (.aload_n 0) 1 0, e1 37 (.iload_n 1) 1 1, e1 38 (.iload 6) 2 6, e0 40 (.iadd) 1, e1 41 (.lload 4) 2 4, e0 43 (.lastore) 1], 44),
  (44, [true, true, false, false, true, false, true], [ek 44 (.iinc 6 1) 3 1 6, e1 47 (.goto (-31)) 3 16], 50),
  (50, [false, false, false, false, false, false, false], [e0 50 (.return_) 1], 51)]
set_option maxRecDepth 100000 in
def K_X2_againstRelate : List XB := [(0, [true, true, true, true, false, false, false], [e1 0 (.aload_n 0) 1 0, e3 1 (.getfield 9) 3 12 3 2, e1 4 (.iload_n 1) 1 1, e0 5 (.iaload) 1, e1 6 (.istore 4) 2 4, e1 8 (.aload_n 0) 1 0, e1 9 (.iload_n 1) 1 1, e1 10 (.iload_n 2) 1 2, e1 11 (.iload_n 3) 1 3, ei 12 (.invokevirtual 54) 3 12 43 4 0, e1 15 (.istore 5) 2 5, e1 17 (.iload 5) 2 5, e1 19 (.ifCond .lt 6) 3 25, e1 22 (.iload 5) 2 5, e1 24 (.ireturn) 1 0], 25),
  (25, [true, true, true, true, true, false, false], [e1 25 (.iload 4) 2 4, e1 27 (.ifCond .eq 9) 3 36, e1 30 (.iload 4) 2 4, ec 32 (.iconst 2) 1 2, e1 33 (.if_icmp .ne 21) 3 54], 36),
  (36, [true, true, true, true, true, false, false], [e1 36 (.aload_n 0) 1 0, e1 37 (.iload_n 1) 1 1, e1 38 (.iload_n 2) 1 2, ec 39 (.bipush (-9)) 2 (-9), ei 41 (.invokevirtual 58) 3 12 44 4 0, e1 44 (.istore 6) 2 6, e1 46 (.iload 6) 2 6, e1 48 (.ifCond .lt 6) 3 54, e1 51 (.iload 6) 2 6, e1 53 (.ireturn) 1 0], 54),
  (54, [true, true, false, true, true, false, false], [e1 54 (.iload 4) 2 4, e1 56 (.ifCond .eq 9) 3 65, e1 59 (.iload 4) 2 4, ec 61 (.iconst 1) 1 1, e1 62 (.if_icmp .ne 14) 3 76], 65),
  (65, [true, true, false, true, false, false, false], [e1 65 (.aload_n 0) 1 0, e1 66 (.iload_n 1) 1 1, ec 67 (.bipush (-9)) 2 (-9), e1 69 (.iload_n 3) 1 3, ei 70 (.invokevirtual 58) 3 12 44 4 0, e1 73 (.goto 5) 3 78], 76),
  (76, [false, false, false, false, false, false, false], [ec 76 (.bipush (-9)) 2 (-9)], 78),
  (78, [false, false, false, false, false, false, false], [e1 78 (.ireturn) 1 0], 79)]
set_option maxRecDepth 100000 in
def K_X2_earliestDeny : List XB := [(0, [true, true, true, true, false, false, false, false, false, false, false, false, false, false], [e1 0 (.iload_n 2) 1 2, ei 1 (.invokestatic 38) 3 0 186 1 1, e1 4 (.lstore 4) 2 4, e1 6 (.iload_n 3) 1 3, ei 7 (.invokestatic 38) 3 0 186 1 1, e1 10 (.lstore 6) 2 6, e1 12 (.aload_n 0) 1 0, e3 13 (.getfield 9) 3 12 3 2, e1 16 (.iload_n 1) 1 1, e0 17 (.iaload) 1, ec 18 (.iconst 5) 1 5, e1 19 (.if_icmp .ne 19) 3 38, e1 22 (.aload_n 0) 1 0, e1 23 (.iload_n 1) 1 1, e1 24 (.iload_n 2) 1 2, ei 25 (.invokevirtual 46) 3 12 38 3 1, e1 28 (.lstore 4) 2 4, e1 30 (.aload_n 0) 1 0, e1 31 (.iload_n 1) 1 1, e1 32 (.iload_n 3) 1 3, ei 33 (.invokevirtual 46) 3 12 38 3 1, e1 36 (.lstore 6) 2 6], 38),
  (38, [true, true, false, false, true, false, true, false, false, false, false, false, false, false], [e1 38 (.aload_n 0) 1 0, e3 39 (.getfield 9) 3 12 3 2, e1 42 (.iload_n 1) 1 1, e0 43 (.iaload) 1, ec 44 (.iconst 5) 1 5, e1 45 (.if_icmp .eq 13) 3 58, e1 48 (.aload_n 0) 1 0, e3 49 (.getfield 9) 3 12 3 2, e1 52 (.iload_n 1) 1 1, e0 53 (.iaload) 1, ec 54 (.iconst 4) 1 4, e1 55 (.if_icmp .ne 7) 3 62], 58),
  (58, [true, true, false, false, true, false, true, false, false, false, false, false, false, false], [ec 58 (.iconst 1) 1 1, e1 59 (.goto 4) 3 63], 62),
  (62, [true, true, false, false, true, false, true, false, false, false, false, false, false, false], [ec 62 (.iconst 0) 1 0], 63),
  (63, [true, true, false, false, true, false, true, false, false, false, false, false, false, false], [e1 63 (.istore 8) 2 8, ec 65 (.iconst 0) 1 0, e1 66 (.istore 9) 2 9], 68),
  (68, [true, true, false, false, true, false, true, false, true, true, false, false, false, false], [e1 68 (.iload 9) 2 9, e1 70 (.aload_n 0) 1 0, e3 71 (.getfield 26) 3 12 1 2, e3 74 (.getfield 61) 3 14 4 0, e1 77 (.if_icmp .ge 116) 3 193, e1 80 (.aload_n 0) 1 0, e3 81 (.getfield 26) 3 12 1 2, e3 84 (.getfield 64) 3 14 0 2, e1 87 (.iload 9) 2 9, e0 89 (.iaload) 1, ec 90 (.bipush 7) 2 7, e1 92 (.if_icmp .ne 95) 3 187, e1 95 (.aload_n 0) 1 0, e3 96 (.getfield 26) 3 12 1 2, e3 99 (.getfield 67) 3 14 1 2, e1 102 (.iload 9) 2 9, e0 104 (.iaload) 1, e1 105 (.iload_n 1) 1 1, e1 106 (.if_icmp .ne 81) 3 187, e1 109 (.aload_n 0) 1 0, e3 110 (.getfield 26) 3 12 1 2, e3 113 (.getfield 70) 3 14 2 2, e1 116 (.iload 9) 2 9, e0 118 (.iaload) 1, ei 119 (.invokestatic 38) 3 0 186 1 1, e1 122 (.lstore 10) 2 10, e1 124 (.aload_n 0) 1 0, e3 125 (.getfield 26) 3 12 1 2, e3 128 (.getfield 73) 3 14 3 2, e1 131 (.iload 9) 2 9, e0 133 (.iaload) 1, ei 134 (.invokestatic 38) 3 0 186 1 1, e1 137 (.lstore 12) 2 12, e1 139 (.lload 10) 2 10, e1 141 (.lload 4) 2 4, e0 143 (.land) 1, ec 144 (.lconst 0) 1 0, e0 145 (.lcmp) 1, e1 146 (.ifCond .eq 13) 3 159, e1 149 (.lload 12) 2 12, e1 151 (.lload 6) 2 6, e0 153 (.land) 1, ec 154 (.lconst 0) 1 0, e0 155 (.lcmp) 1, e1 156 (.ifCond .ne 28) 3 184], 159),
  (159, [true, true, false, false, true, false, true, false, true, true, true, false, true, false], [e1 159 (.iload 8) 2 8, e1 161 (.ifCond .eq 26) 3 187, e1 164 (.lload 10) 2 10, e1 166 (.lload 6) 2 6, e0 168 (.land) 1, ec 169 (.lconst 0) 1 0, e0 170 (.lcmp) 1, e1 171 (.ifCond .eq 16) 3 187, e1 174 (.lload 12) 2 12, e1 176 (.lload 4) 2 4, e0 178 (.land) 1, ec 179 (.lconst 0) 1 0, e0 180 (.lcmp) 1, e1 181 (.ifCond .eq 6) 3 187], 184),
  (184, [false, false, false, false, false, false, false, false, false, true, false, false, false, false], [e1 184 (.iload 9) 2 9, e1 186 (.ireturn) 1 0], 187),
  (187, [true, true, false, false, true, false, true, false, true, true, false, false, false, false], [ek 187 (.iinc 9 1) 3 1 9, e1 190 (.goto (-122)) 3 68], 193),
  (193, [false, false, false, false, false, false, false, false, false, false, false, false, false, false], [ec 193 (.bipush (-9)) 2 (-9), e1 195 (.ireturn) 1 0], 196)]
set_option maxRecDepth 100000 in
def K_X2_earliestRelate : List XB := [(0, [true, true, true, true, false], [ec 0 (.iconst 0) 1 0, e1 1 (.istore 4) 2 4], 3),
  (3, [true, true, true, true, true], [e1 3 (.iload 4) 2 4, e1 5 (.aload_n 0) 1 0, e3 6 (.getfield 26) 3 12 1 2, e3 9 (.getfield 61) 3 14 4 0, e1 12 (.if_icmp .ge 81) 3 93, e1 15 (.aload_n 0) 1 0, e3 16 (.getfield 26) 3 12 1 2, e3 19 (.getfield 64) 3 14 0 2, e1 22 (.iload 4) 2 4, e0 24 (.iaload) 1, ec 25 (.bipush 6) 2 6, e1 27 (.if_icmp .ne 60) 3 87, e1 30 (.aload_n 0) 1 0, e3 31 (.getfield 26) 3 12 1 2, e3 34 (.getfield 67) 3 14 1 2, e1 37 (.iload 4) 2 4, e0 39 (.iaload) 1, e1 40 (.iload_n 1) 1 1, e1 41 (.if_icmp .ne 46) 3 87, e1 44 (.iload_n 2) 1 2, ec 45 (.bipush (-9)) 2 (-9), e1 47 (.if_icmp .eq 17) 3 64, e1 50 (.aload_n 0) 1 0, e3 51 (.getfield 26) 3 12 1 2, e3 54 (.getfield 70) 3 14 2 2, e1 57 (.iload 4) 2 4, e0 59 (.iaload) 1, e1 60 (.iload_n 2) 1 2, e1 61 (.if_icmp .ne 26) 3 87], 64),
  (64, [true, true, true, true, true], [e1 64 (.iload_n 3) 1 3, ec 65 (.bipush (-9)) 2 (-9), e1 67 (.if_icmp .eq 17) 3 84, e1 70 (.aload_n 0) 1 0, e3 71 (.getfield 26) 3 12 1 2, e3 74 (.getfield 73) 3 14 3 2, e1 77 (.iload 4) 2 4, e0 79 (.iaload) 1, e1 80 (.iload_n 3) 1 3, e1 81 (.if_icmp .ne 6) 3 87], 84),
  (84, [false, false, false, false, true], [e1 84 (.iload 4) 2 4, e1 86 (.ireturn) 1 0], 87),
  (87, [true, true, true, true, true], [ek 87 (.iinc 4 1) 3 1 4, e1 90 (.goto (-87)) 3 3], 93),
  (93, [false, false, false, false, false], [ec 93 (.bipush (-9)) 2 (-9), e1 95 (.ireturn) 1 0], 96)]
set_option maxRecDepth 100000 in
def K_X2_heldBy : List XB := [(0, [true, true, true, true, false], [e1 0 (.aload_n 0) 1 0, e3 1 (.getfield 9) 3 12 3 2, e1 4 (.iload_n 1) 1 1, e0 5 (.iaload) 1, ec 6 (.iconst 5) 1 5, e1 7 (.if_icmp .ne 11) 3 18, e1 10 (.aload_n 0) 1 0, e1 11 (.iload_n 1) 1 1, e1 12 (.iload_n 2) 1 2, e1 13 (.iload_n 3) 1 3, ei 14 (.invokevirtual 76) 3 12 46 4 0, e1 17 (.ireturn) 1 0], 18),
  (18, [true, true, true, true, false], [e1 18 (.aload_n 0) 1 0, e1 19 (.iload_n 1) 1 1, e1 20 (.iload_n 2) 1 2, e1 21 (.iload_n 3) 1 3, ei 22 (.invokevirtual 58) 3 12 44 4 0, e1 25 (.istore 4) 2 4, e1 27 (.iload 4) 2 4, e1 29 (.ifCond .lt 8) 3 37, e1 32 (.iload 4) 2 4, e1 34 (.goto 10) 3 44], 37),
  (37, [true, true, true, true, false], [e1 37 (.aload_n 0) 1 0, e1 38 (.iload_n 1) 1 1, e1 39 (.iload_n 3) 1 3, e1 40 (.iload_n 2) 1 2, ei 41 (.invokevirtual 58) 3 12 44 4 0], 44),
  (44, [false, false, false, false, false], [e1 44 (.ireturn) 1 0], 45)]
set_option maxRecDepth 100000 in
def K_X2_togetherBy : List XB := [(0, [true, true, true, true, false], [ec 0 (.iconst 0) 1 0, e1 1 (.istore 4) 2 4], 3),
  (3, [true, true, true, true, true], [e1 3 (.iload 4) 2 4, ec 5 (.bipush 64) 2 64, e1 7 (.if_icmp .ge 21) 3 28, e1 10 (.aload_n 0) 1 0, e3 11 (.getfield 19) 3 12 5 2, e1 14 (.iload 4) 2 4, e1 16 (.iload 4) 2 4, ei 18 (.invokestatic 38) 3 0 186 1 1, e0 21 (.lastore) 1, ek 22 (.iinc 4 1) 3 1 4, e1 25 (.goto (-22)) 3 3], 28),
  (28, [true, true, true, true, false], [ec 28 (.iconst 0) 1 0, e1 29 (.istore 4) 2 4], 31),
  (31, [true, true, true, true, true], [e1 31 (.iload 4) 2 4, e1 33 (.aload_n 0) 1 0, e3 34 (.getfield 26) 3 12 1 2, e3 37 (.getfield 61) 3 14 4 0, e1 40 (.if_icmp .ge 85) 3 125, e1 43 (.aload_n 0) 1 0, e3 44 (.getfield 26) 3 12 1 2, e3 47 (.getfield 64) 3 14 0 2, e1 50 (.iload 4) 2 4, e0 52 (.iaload) 1, ec 53 (.bipush 6) 2 6, e1 55 (.if_icmp .ne 64) 3 119, e1 58 (.aload_n 0) 1 0, e3 59 (.getfield 26) 3 12 1 2, e3 62 (.getfield 67) 3 14 1 2, e1 65 (.iload 4) 2 4, e0 67 (.iaload) 1, e1 68 (.iload_n 1) 1 1, e1 69 (.if_icmp .ne 50) 3 119, e1 72 (.aload_n 0) 1 0, e3 73 (.getfield 19) 3 12 5 2, ec 76 (.iconst 0) 1 0, e1 77 (.aload_n 0) 1 0, e3 78 (.getfield 26) 3 12 1 2, e3 81 (.getfield 70) 3 14 2 2, e1 84 (.iload 4) 2 4, e0 86 (.iaload) 1, e1 87 (.aload_n 0) 1 0, e3 88 (.getfield 26) 3 12 1 2, e3 91 (.getfield 73) 3 14 3 2, e1 94 (.iload 4) 2 4, e0 96 (.iaload) 1, ei 97 (.invokestatic 50) 3 0 41 4 3, e1 100 (.aload_n 0) 1 0, e3 101 (.getfield 19) 3 12 5 2, e1 104 (.iload_n 2) 1 2, e0 105 (.laload) 1, e1 106 (.iload_n 3) 1 3, ei 107 (.invokestatic 38) 3 0 186 1 1, e0 110 (.land) 1, ec 111 (.lconst 0) 1 0, e0 112 (.lcmp) 1, e1 113 (.ifCond .eq 6) 3 119, e1 116 (.iload 4) 2 4, e1 118 (.ireturn) 1 0], 119),
  (119, [true, true, true, true, true], [ek 119 (.iinc 4 1) 3 1 4, e1 122 (.goto (-91)) 3 31], 125),
  (125, [false, false, false, false, false], [ec 125 (.bipush (-9)) 2 (-9), e1 127 (.ireturn) 1 0], 128)]
set_option maxRecDepth 100000 in
def K_X2_walkFrom : List XB := [(0, [true, true, true, false, false, false, false, false], [e1 0 (.aload_n 0) 1 0, e3 1 (.getfield 30) 3 12 2 2, e1 4 (.iload_n 2) 1 2, ei 5 (.invokevirtual 79) 3 20 117 2 3, ec 8 (.iconst 0) 1 0, e1 9 (.istore_n 3) 1 3], 10),
  (10, [true, true, false, true, false, false, false, false], [e1 10 (.iload_n 3) 1 3, e1 11 (.aload_n 0) 1 0, e3 12 (.getfield 30) 3 12 2 2, e3 15 (.getfield 85) 3 20 3 0, e1 18 (.if_icmp .ge 76) 3 94, e1 21 (.aload_n 0) 1 0, e3 22 (.getfield 30) 3 12 2 2, e3 25 (.getfield 86) 3 20 2 2, e1 28 (.iload_n 3) 1 3, e0 29 (.iaload) 1, e1 30 (.istore 4) 2 4, e1 32 (.aload_n 0) 1 0, e1 33 (.iload_n 1) 1 1, e1 34 (.iload 4) 2 4, ei 36 (.invokevirtual 46) 3 12 38 3 1, e1 39 (.lstore 5) 2 5, ec 41 (.iconst 0) 1 0, e1 42 (.istore 7) 2 7], 44),
  (44, [true, true, false, true, true, true, false, true], [e1 44 (.iload 7) 2 7, e1 46 (.aload_n 0) 1 0, e3 47 (.getfield 22) 3 12 0 2, e3 50 (.getfield 89) 3 18 7 0, e1 53 (.if_icmp .ge 35) 3 88, e1 56 (.lload 5) 2 5, e1 58 (.iload 7) 2 7, ei 60 (.invokestatic 38) 3 0 186 1 1, e0 63 (.land) 1, ec 64 (.lconst 0) 1 0, e0 65 (.lcmp) 1, e1 66 (.ifCond .eq 16) 3 82, e1 69 (.aload_n 0) 1 0, e3 70 (.getfield 30) 3 12 2 2, e1 73 (.iload 4) 2 4, e1 75 (.iload 7) 2 7, e1 77 (.iload 7) 2 7, ei 79 (.invokevirtual 92) 3 20 118 4 3], 82),
  (82, [true, true, false, true, true, true, false, true], [ek 82 (.iinc 7 1) 3 1 7, e1 85 (.goto (-41)) 3 44], 88),
  (88, [true, true, false, true, false, false, false, false], [ek 88 (.iinc 3 1) 3 1 3, e1 91 (.goto (-81)) 3 10], 94),
  (94, [true, false, false, false, false, false, false, false], [e1 94 (.aload_n 0) 1 0, e3 95 (.getfield 30) 3 12 2 2, e0 98 (.areturn) 1], 99)]
set_option maxRecDepth 100000 in
def K_X2_couples : List XB := [(0, [true, true, false, false], [ec 0 (.iconst 0) 1 0, e1 1 (.istore_n 2) 1 2, ec 2 (.iconst 0) 1 0, e1 3 (.istore_n 3) 1 3], 4),
  (4, [true, true, true, true], [e1 4 (.iload_n 3) 1 3, e1 5 (.aload_n 0) 1 0, e3 6 (.getfield 22) 3 12 0 2, e3 9 (.getfield 89) 3 18 7 0, e1 12 (.if_icmp .ge 30) 3 42, e1 15 (.iload_n 2) 1 2, e1 16 (.aload_n 0) 1 0, e1 17 (.iload_n 1) 1 1, e1 18 (.iload_n 3) 1 3, ei 19 (.invokevirtual 46) 3 12 38 3 1, e1 22 (.iload_n 3) 1 3, ei 23 (.invokestatic 38) 3 0 186 1 1, ec 26 (.ldc2_w 96) 3 (-1), e0 29 (.lxor) 1, e0 30 (.land) 1, ei 31 (.invokestatic 98) 3 0 308 1 0, e0 34 (.iadd) 1, e1 35 (.istore_n 2) 1 2, ek 36 (.iinc 3 1) 3 1 3, e1 39 (.goto (-35)) 3 4], 42),
  (42, [false, false, true, false], [e1 42 (.iload_n 2) 1 2, e1 43 (.ireturn) 1 0], 44)]
set_option maxRecDepth 100000 in
def K_X3_init : List XB := [(0, [true, true, true], [e1 0 (.aload_n 0) 1 0, ei 1 (.invokespecial 3) 3 0 0 1 9, e1 4 (.aload_n 0) 1 0, ec 5 (.sipush 512) 3 512, e1 8 (.newarray .int) 2 1, e3 10 (.putfield 9) 3 13 2 2, e1 13 (.aload_n 0) 1 0, ec 14 (.sipush 512) 3 512, e1 17 (.newarray .int) 2 1, e3 19 (.putfield 15) 3 13 3 2, e1 22 (.aload_n 0) 1 0, ec 23 (.sipush 512) 3 512, e1 26 (.newarray .int) 2 1, e3 28 (.putfield 18) 3 13 4 2, e1 31 (.aload_n 0) 1 0, ec 32 (.sipush 512) 3 512, e1 35 (.newarray .int) 2 1, e3 37 (.putfield 21) 3 13 5 2, e1 40 (.aload_n 0) 1 0, ec 41 (.bipush 64) 2 64, e1 43 (.newarray .int) 2 1, e3 45 (.putfield 24) 3 13 6 2, e1 48 (.aload_n 0) 1 0, e1 49 (.aload_n 1) 1 1, e3 50 (.putfield 27) 3 13 0 2, e1 53 (.aload_n 0) 1 0, e1 54 (.aload_n 2) 1 2, e3 55 (.putfield 31) 3 13 1 2, e0 58 (.return_) 1], 59)]
set_option maxRecDepth 100000 in
def K_X3_begin : List XB := [(0, [true, true, false], [ec 0 (.iconst 0) 1 0, e1 1 (.istore_n 2) 1 2], 2),
  (2, [true, true, true], [e1 2 (.iload_n 2) 1 2, ec 3 (.bipush 8) 2 8, e1 5 (.if_icmp .ge 26) 3 31, e1 8 (.aload_n 0) 1 0, e1 9 (.iload_n 1) 1 1, ec 10 (.bipush 8) 2 8, e0 12 (.imul) 1, e1 13 (.iload_n 2) 1 2, e0 14 (.iadd) 1, ec 15 (.iconst 0) 1 0, ec 16 (.bipush (-9)) 2 (-9), ec 18 (.bipush (-9)) 2 (-9), ec 20 (.bipush (-9)) 2 (-9), ei 22 (.invokevirtual 35) 3 13 51 6 3, ek 25 (.iinc 2 1) 3 1 2, e1 28 (.goto (-26)) 3 2], 31),
  (31, [true, true, false], [e1 31 (.aload_n 0) 1 0, e3 32 (.getfield 24) 3 13 6 2, e1 35 (.iload_n 1) 1 1, ec 36 (.bipush (-9)) 2 (-9), e0 38 (.iastore) 1, e0 39 (.return_) 1], 40)]
set_option maxRecDepth 100000 in
def K_X3_write : List XB := [(0, [true, true, true, true, true, true], [e1 0 (.aload_n 0) 1 0, e3 1 (.getfield 9) 3 13 2 2, e1 4 (.iload_n 1) 1 1, e1 5 (.iload_n 2) 1 2, e0 6 (.iastore) 1, e1 7 (.aload_n 0) 1 0, e3 8 (.getfield 15) 3 13 3 2, e1 11 (.iload_n 1) 1 1, e1 12 (.iload_n 3) 1 3, e0 13 (.iastore) 1, e1 14 (.aload_n 0) 1 0, e3 15 (.getfield 18) 3 13 4 2, e1 18 (.iload_n 1) 1 1, e1 19 (.iload 4) 2 4, e0 21 (.iastore) 1, e1 22 (.aload_n 0) 1 0, e3 23 (.getfield 21) 3 13 5 2, e1 26 (.iload_n 1) 1 1, e1 27 (.iload 5) 2 5, e0 29 (.iastore) 1, e0 30 (.return_) 1], 31)]
set_option maxRecDepth 100000 in
def K_X3_sortOf : List XB := [(0, [true, true, true], [e1 0 (.aload_n 0) 1 0, e3 1 (.getfield 9) 3 13 2 2, e1 4 (.iload_n 1) 1 1, ec 5 (.bipush 8) 2 8, e0 7 (.imul) 1, e1 8 (.iload_n 2) 1 2, e0 9 (.iadd) 1, e0 10 (.iaload) 1, e1 11 (.ireturn) 1 0], 12)]
set_option maxRecDepth 100000 in
def K_X3_leadsTo : List XB := [(0, [true, true, true], [e1 0 (.aload_n 0) 1 0, e3 1 (.getfield 15) 3 13 3 2, e1 4 (.iload_n 1) 1 1, ec 5 (.bipush 8) 2 8, e0 7 (.imul) 1, e1 8 (.iload_n 2) 1 2, e0 9 (.iadd) 1, e0 10 (.iaload) 1, e1 11 (.ireturn) 1 0], 12)]
set_option maxRecDepth 100000 in
def K_X3_isTold : List XB := [(0, [true, true, true], [e1 0 (.aload_n 0) 1 0, e1 1 (.iload_n 1) 1 1, e1 2 (.iload_n 2) 1 2, ei 3 (.invokevirtual 39) 3 13 52 3 0, ec 6 (.iconst 2) 1 2, e1 7 (.if_icmp .lt 7) 3 14, ec 10 (.iconst 1) 1 1, e1 11 (.goto 4) 3 15], 14),
  (14, [false, false, false], [ec 14 (.iconst 0) 1 0], 15),
  (15, [false, false, false], [e1 15 (.ireturn) 1 1], 16)]
set_option maxRecDepth 100000 in
def K_X3_toldIn : List XB := [(0, [true, true, true], [e1 0 (.aload_n 0) 1 0, e3 1 (.getfield 21) 3 13 5 2, e1 4 (.iload_n 1) 1 1, ec 5 (.bipush 8) 2 8, e0 7 (.imul) 1, e1 8 (.iload_n 2) 1 2, e0 9 (.iadd) 1, e0 10 (.iaload) 1, e1 11 (.ireturn) 1 0], 12)]
set_option maxRecDepth 100000 in
def K_X3_opposite : List XB := [(0, [true], [e1 0 (.iload_n 0) 1 0, ec 1 (.iconst 1) 1 1, e0 2 (.ixor) 1, e1 3 (.ireturn) 1 0], 4)]
set_option maxRecDepth 100000 in
def K_X3_tellExit : List XB := [(0, [true, true, true, true, true], [e1 0 (.aload_n 0) 1 0, e1 1 (.iload_n 1) 1 1, ec 2 (.bipush 8) 2 8, e0 4 (.imul) 1, e1 5 (.iload_n 2) 1 2, e0 6 (.iadd) 1, e1 7 (.iload_n 3) 1 3, ec 8 (.bipush (-9)) 2 (-9), e1 10 (.if_icmp .ne 7) 3 17, ec 13 (.iconst 4) 1 4, e1 14 (.goto 4) 3 18], 17),
  (17, [true, true, true, true, true], [ec 17 (.iconst 2) 1 2], 18),
  (18, [true, true, true, true, true], [e1 18 (.iload_n 3) 1 3, ec 19 (.bipush (-9)) 2 (-9), e1 21 (.iload 4) 2 4, ei 23 (.invokevirtual 35) 3 13 51 6 3, e1 26 (.iload_n 3) 1 3, ec 27 (.bipush (-9)) 2 (-9), e1 29 (.if_icmp .eq 34) 3 63, e1 32 (.aload_n 0) 1 0, e1 33 (.iload_n 3) 1 3, e1 34 (.iload_n 2) 1 2, ei 35 (.invokestatic 43) 3 0 56 1 0, ei 38 (.invokevirtual 39) 3 13 52 3 0, e1 41 (.ifCond .ne 22) 3 63, e1 44 (.aload_n 0) 1 0, e1 45 (.iload_n 3) 1 3, ec 46 (.bipush 8) 2 8, e0 48 (.imul) 1, e1 49 (.iload_n 2) 1 2, ei 50 (.invokestatic 43) 3 0 56 1 0, e0 53 (.iadd) 1, ec 54 (.iconst 1) 1 1, e1 55 (.iload_n 1) 1 1, ec 56 (.bipush (-9)) 2 (-9), ec 58 (.bipush (-9)) 2 (-9), ei 60 (.invokevirtual 35) 3 13 51 6 3], 63),
  (63, [false, false, false, false, false], [e0 63 (.return_) 1], 64)]
set_option maxRecDepth 100000 in
def K_X3_againstDoor : List XB := [(0, [true, true, true, true, true, false], [e1 0 (.aload_n 0) 1 0, e3 1 (.getfield 24) 3 13 6 2, e1 4 (.iload_n 1) 1 1, e0 5 (.iaload) 1, e1 6 (.ifCond .lt 10) 3 16, e1 9 (.aload_n 0) 1 0, e3 10 (.getfield 24) 3 13 6 2, e1 13 (.iload_n 1) 1 1, e0 14 (.iaload) 1, e1 15 (.ireturn) 1 0], 16),
  (16, [true, false, true, true, true, false], [e1 16 (.aload_n 0) 1 0, e1 17 (.iload_n 2) 1 2, e1 18 (.iload_n 3) 1 3, ei 19 (.invokevirtual 47) 3 13 55 3 0, e1 22 (.istore 5) 2 5, e1 24 (.iload 5) 2 5, e1 26 (.ifCond .lt 8) 3 34, e1 29 (.iload 5) 2 5, e1 31 (.goto 13) 3 44], 34),
  (34, [true, false, false, true, true, false], [e1 34 (.aload_n 0) 1 0, e1 35 (.iload 4) 2 4, e1 37 (.iload_n 3) 1 3, ei 38 (.invokestatic 43) 3 0 56 1 0, ei 41 (.invokevirtual 47) 3 13 55 3 0], 44),
  (44, [false, false, false, false, false, false], [e1 44 (.ireturn) 1 0], 45)]
set_option maxRecDepth 100000 in
def K_X3_tellDoor : List XB := [(0, [true, true, true, true, true, true], [e1 0 (.aload_n 0) 1 0, e3 1 (.getfield 24) 3 13 6 2, e1 4 (.iload_n 1) 1 1, e1 5 (.iload 5) 2 5, e0 7 (.iastore) 1, e1 8 (.aload_n 0) 1 0, e1 9 (.iload_n 2) 1 2, ec 10 (.bipush 8) 2 8, e0 12 (.imul) 1, e1 13 (.iload_n 3) 1 3, e0 14 (.iadd) 1, ec 15 (.iconst 3) 1 3, e1 16 (.iload 4) 2 4, e1 18 (.iload_n 1) 1 1, e1 19 (.iload 5) 2 5, ei 21 (.invokevirtual 35) 3 13 51 6 3, e1 24 (.aload_n 0) 1 0, e1 25 (.iload 4) 2 4, ec 27 (.bipush 8) 2 8, e0 29 (.imul) 1, e1 30 (.iload_n 3) 1 3, ei 31 (.invokestatic 43) 3 0 56 1 0, e0 34 (.iadd) 1, ec 35 (.iconst 3) 1 3, e1 36 (.iload_n 2) 1 2, e1 37 (.iload_n 1) 1 1, e1 38 (.iload 5) 2 5, ei 40 (.invokevirtual 35) 3 13 51 6 3, e0 43 (.return_) 1], 44)]
set_option maxRecDepth 100000 in
def K_X3_isPassable : List XB := [(0, [true, true, true, true, false], [e1 0 (.aload_n 0) 1 0, e3 1 (.getfield 18) 3 13 4 2, e1 4 (.iload_n 1) 1 1, ec 5 (.bipush 8) 2 8, e0 7 (.imul) 1, e1 8 (.iload_n 2) 1 2, e0 9 (.iadd) 1, e0 10 (.iaload) 1, e1 11 (.istore 4) 2 4, e1 13 (.aload_n 0) 1 0, e1 14 (.iload_n 1) 1 1, e1 15 (.iload_n 2) 1 2, ei 16 (.invokevirtual 50) 3 13 53 3 0, e1 19 (.ifCond .lt 29) 3 48, e1 22 (.iload_n 3) 1 3, e1 23 (.ifCond .ne 21) 3 44, e1 26 (.iload 4) 2 4, e1 28 (.ifCond .lt 16) 3 44, e1 31 (.aload_n 0) 1 0, e3 32 (.getfield 27) 3 13 0 2, e3 35 (.getfield 53) 3 18 6 2, e1 38 (.iload 4) 2 4, e0 40 (.baload) 1, e1 41 (.ifCond .eq 7) 3 48], 44),
  (44, [false, false, false, false, false], [ec 44 (.iconst 1) 1 1, e1 45 (.goto 4) 3 49], 48),
  (48, [false, false, false, false, false], [ec 48 (.iconst 0) 1 0], 49),
  (49, [false, false, false, false, false], [e1 49 (.ireturn) 1 1], 50)]
set_option maxRecDepth 100000 in
def K_X3_walkFrom : List XB := [(0, [true, true, true, false, false, false], [e1 0 (.aload_n 0) 1 0, e3 1 (.getfield 31) 3 13 1 2, e1 4 (.iload_n 1) 1 1, ei 5 (.invokevirtual 59) 3 20 117 2 3, ec 8 (.iconst 0) 1 0, e1 9 (.istore_n 3) 1 3], 10),
  (10, [true, false, true, true, false, false], [e1 10 (.iload_n 3) 1 3, e1 11 (.aload_n 0) 1 0, e3 12 (.getfield 31) 3 13 1 2, e3 15 (.getfield 65) 3 20 3 0, e1 18 (.if_icmp .ge 67) 3 85, e1 21 (.aload_n 0) 1 0, e3 22 (.getfield 31) 3 13 1 2, e3 25 (.getfield 69) 3 20 2 2, e1 28 (.iload_n 3) 1 3, e0 29 (.iaload) 1, e1 30 (.istore 4) 2 4, ec 32 (.iconst 0) 1 0, e1 33 (.istore 5) 2 5], 35),
  (35, [true, false, true, true, true, true], [e1 35 (.iload 5) 2 5, ec 37 (.bipush 8) 2 8, e1 39 (.if_icmp .ge 40) 3 79, e1 42 (.aload_n 0) 1 0, e1 43 (.iload 4) 2 4, e1 45 (.iload 5) 2 5, e1 47 (.iload_n 2) 1 2, ei 48 (.invokevirtual 72) 3 13 60 4 0, e1 51 (.ifCond .eq 22) 3 73, e1 54 (.aload_n 0) 1 0, e3 55 (.getfield 31) 3 13 1 2, e1 58 (.iload 4) 2 4, e1 60 (.aload_n 0) 1 0, e1 61 (.iload 4) 2 4, e1 63 (.iload 5) 2 5, ei 65 (.invokevirtual 50) 3 13 53 3 0, e1 68 (.iload 5) 2 5, ei 70 (.invokevirtual 76) 3 20 118 4 3], 73),
  (73, [true, false, true, true, true, true], [ek 73 (.iinc 5 1) 3 1 5, e1 76 (.goto (-41)) 3 35], 79),
  (79, [true, false, true, true, false, false], [ek 79 (.iinc 3 1) 3 1 3, e1 82 (.goto (-72)) 3 10], 85),
  (85, [true, false, false, false, false, false], [e1 85 (.aload_n 0) 1 0, e3 86 (.getfield 31) 3 13 1 2, e0 89 (.areturn) 1], 90)]
set_option maxRecDepth 100000 in
def K_X4_init : List XB := [(0, [true], [e1 0 (.aload_n 0) 1 0, ei 1 (.invokespecial 3) 3 0 0 1 9, e1 4 (.aload_n 0) 1 0, ec 5 (.sipush 300) 3 300, e1 8 (.newarray .int) 2 1, e3 10 (.putfield 9) 3 14 0 2, e1 13 (.aload_n 0) 1 0, ec 14 (.sipush 300) 3 300, e1 17 (.newarray .int) 2 1, e3 19 (.putfield 15) 3 14 1 2, e1 22 (.aload_n 0) 1 0, ec 23 (.sipush 300) 3 300, e1 26 (.newarray .int) 2 1, e3 28 (.putfield 18) 3 14 2 2, e1 31 (.aload_n 0) 1 0, ec 32 (.sipush 300) 3 300, e1 35 (.newarray .int) 2 1, e3 37 (.putfield 21) 3 14 3 2, e0 40 (.return_) 1], 41)]
set_option maxRecDepth 100000 in
def K_X4_areFull : List XB := [(0, [true], [e1 0 (.aload_n 0) 1 0, e3 1 (.getfield 24) 3 14 4 0, ec 4 (.sipush 300) 3 300, e1 7 (.if_icmp .lt 7) 3 14, ec 10 (.iconst 1) 1 1, e1 11 (.goto 4) 3 15], 14),
  (14, [false], [ec 14 (.iconst 0) 1 0], 15),
  (15, [false], [e1 15 (.ireturn) 1 1], 16)]
set_option maxRecDepth 100000 in
def K_X4_add : List XB := [(0, [true, true, true, true, true], [e1 0 (.aload_n 0) 1 0, e3 1 (.getfield 9) 3 14 0 2, e1 4 (.aload_n 0) 1 0, e3 5 (.getfield 24) 3 14 4 0, e1 8 (.iload_n 1) 1 1, e0 9 (.iastore) 1, e1 10 (.aload_n 0) 1 0, e3 11 (.getfield 15) 3 14 1 2, e1 14 (.aload_n 0) 1 0, e3 15 (.getfield 24) 3 14 4 0, e1 18 (.iload_n 2) 1 2, e0 19 (.iastore) 1, e1 20 (.aload_n 0) 1 0, e3 21 (.getfield 18) 3 14 2 2, e1 24 (.aload_n 0) 1 0, e3 25 (.getfield 24) 3 14 4 0, e1 28 (.iload_n 3) 1 3, e0 29 (.iastore) 1, e1 30 (.aload_n 0) 1 0, e3 31 (.getfield 21) 3 14 3 2, e1 34 (.aload_n 0) 1 0, e3 35 (.getfield 24) 3 14 4 0, e1 38 (.iload 4) 2 4, e0 40 (.iastore) 1, e1 41 (.aload_n 0) 1 0, e0 42 (.dup) 1, e3 43 (.getfield 24) 3 14 4 0, e0 46 (.dup_x1) 1, ec 47 (.iconst 1) 1 1, e0 48 (.iadd) 1, e3 49 (.putfield 24) 3 14 4 0, e1 52 (.ireturn) 1 0], 53)]
set_option maxRecDepth 100000 in
def K_X4_earliest : List XB := [(0, [true, true, true, true, true, false], [ec 0 (.iconst 0) 1 0, e1 1 (.istore 5) 2 5], 3),
  (3, [true, true, true, true, true, true], [e1 3 (.iload 5) 2 5, e1 5 (.aload_n 0) 1 0, e3 6 (.getfield 24) 3 14 4 0, e1 9 (.if_icmp .ge 57) 3 66, e1 12 (.aload_n 0) 1 0, e3 13 (.getfield 9) 3 14 0 2, e1 16 (.iload 5) 2 5, e0 18 (.iaload) 1, e1 19 (.iload_n 1) 1 1, e1 20 (.if_icmp .ne 40) 3 60, e1 23 (.aload_n 0) 1 0, e3 24 (.getfield 15) 3 14 1 2, e1 27 (.iload 5) 2 5, e0 29 (.iaload) 1, e1 30 (.iload_n 2) 1 2, e1 31 (.if_icmp .ne 29) 3 60, e1 34 (.aload_n 0) 1 0, e3 35 (.getfield 18) 3 14 2 2, e1 38 (.iload 5) 2 5, e0 40 (.iaload) 1, e1 41 (.iload_n 3) 1 3, e1 42 (.if_icmp .ne 18) 3 60, e1 45 (.aload_n 0) 1 0, e3 46 (.getfield 21) 3 14 3 2, e1 49 (.iload 5) 2 5, e0 51 (.iaload) 1, e1 52 (.iload 4) 2 4, e1 54 (.if_icmp .ne 6) 3 60, e1 57 (.iload 5) 2 5, e1 59 (.ireturn) 1 0], 60),
  (60, [true, true, true, true, true, true], [ek 60 (.iinc 5 1) 3 1 5, e1 63 (.goto (-60)) 3 3], 66),
  (66, [false, false, false, false, false, false], [ec 66 (.bipush (-9)) 2 (-9), e1 68 (.ireturn) 1 0], 69)]
set_option maxRecDepth 100000 in
def K_X5_init : List XB := [(0, [true, true, true], [e1 0 (.aload_n 0) 1 0, ei 1 (.invokespecial 3) 3 0 0 1 9, e1 4 (.aload_n 0) 1 0, ec 5 (.bipush 7) 2 7, e1 7 (.newarray .int) 2 1, e3 9 (.putfield 9) 3 15 2 2, e1 12 (.aload_n 0) 1 0, e1 13 (.aload_n 1) 1 1, e3 14 (.putfield 15) 3 15 0 2, e1 17 (.aload_n 0) 1 0, e1 18 (.aload_n 2) 1 2, e3 19 (.putfield 19) 3 15 1 2, e0 22 (.return_) 1], 23)]
set_option maxRecDepth 100000 in
def K_X5_ways : List XB := [(0, [true, false, false], [ec 0 (.iconst 1) 1 1, e1 1 (.istore_n 1) 1 1, ec 2 (.iconst 0) 1 0, e1 3 (.istore_n 2) 1 2], 4),
  (4, [true, true, true], [e1 4 (.iload_n 2) 1 2, e1 5 (.aload_n 0) 1 0, e3 6 (.getfield 15) 3 15 0 2, e3 9 (.getfield 23) 3 18 7 0, e1 12 (.if_icmp .ge 41) 3 53, e1 15 (.iload_n 1) 1 1, ec 16 (.sipush 3000) 3 3000, e1 19 (.if_icmp .gt 34) 3 53, e1 22 (.aload_n 0) 1 0, e3 23 (.getfield 19) 3 15 1 2, e1 26 (.iload_n 2) 1 2, ei 27 (.invokevirtual 29) 3 11 25 2 0, e1 30 (.ifCond .eq 17) 3 47, e1 33 (.iload_n 1) 1 1, e1 34 (.aload_n 0) 1 0, e3 35 (.getfield 19) 3 15 1 2, e1 38 (.iload_n 2) 1 2, ei 39 (.invokevirtual 35) 3 11 24 2 1, ei 42 (.invokestatic 39) 3 0 308 1 0, e0 45 (.imul) 1, e1 46 (.istore_n 1) 1 1], 47),
  (47, [true, true, true], [ek 47 (.iinc 2 1) 3 1 2, e1 50 (.goto (-46)) 3 4], 53),
  (53, [false, true, false], [e1 53 (.iload_n 1) 1 1, e1 54 (.ireturn) 1 0], 55)]
set_option maxRecDepth 100000 in
def K_X5_thingAt : List XB := [(0, [true, true], [e1 0 (.aload_n 0) 1 0, e3 1 (.getfield 9) 3 15 2 2, e1 4 (.iload_n 1) 1 1, e0 5 (.iaload) 1, e1 6 (.ireturn) 1 0], 7)]
set_option maxRecDepth 100000 in
def K_X5_takeLeastWay : List XB := [(0, [true, true, false], [e1 0 (.aload_n 0) 1 0, ec 1 (.iconst 0) 1 0, e3 2 (.putfield 45) 3 15 3 0, ec 5 (.iconst 0) 1 0, e1 6 (.istore_n 2) 1 2], 7),
  (7, [true, true, true], [e1 7 (.iload_n 2) 1 2, e1 8 (.aload_n 0) 1 0, e3 9 (.getfield 15) 3 15 0 2, e3 12 (.getfield 23) 3 18 7 0, e1 15 (.if_icmp .ge 46) 3 61, e1 18 (.aload_n 0) 1 0, e3 19 (.getfield 45) 3 15 3 0, ec 22 (.bipush 7) 2 7, e1 24 (.if_icmp .ge 37) 3 61, e1 27 (.aload_n 0) 1 0, e3 28 (.getfield 19) 3 15 1 2, e1 31 (.iload_n 2) 1 2, ei 32 (.invokevirtual 29) 3 11 25 2 0, e1 35 (.ifCond .eq 20) 3 55, e1 38 (.aload_n 0) 1 0, e3 39 (.getfield 9) 3 15 2 2, e1 42 (.aload_n 0) 1 0, e0 43 (.dup) 1, e3 44 (.getfield 45) 3 15 3 0, e0 47 (.dup_x1) 1, ec 48 (.iconst 1) 1 1, e0 49 (.iadd) 1, e3 50 (.putfield 45) 3 15 3 0, e1 53 (.iload_n 2) 1 2, e0 54 (.iastore) 1], 55),
  (55, [true, true, true], [ek 55 (.iinc 2 1) 3 1 2, e1 58 (.goto (-51)) 3 7], 61),
  (61, [true, true, false], [e1 61 (.aload_n 0) 1 0, ec 62 (.iconst 0) 1 0, e1 63 (.iload_n 1) 1 1, ei 64 (.invokevirtual 46) 3 15 70 3 0, e1 67 (.ireturn) 1 1], 68)]
set_option maxRecDepth 100000 in
def K_X5_layFrom : List XB := [(0, [true, true, true, false, false, false, false], [e1 0 (.iload_n 1) 1 1, e1 1 (.aload_n 0) 1 0, e3 2 (.getfield 45) 3 15 3 0, e1 5 (.if_icmp .lt 5) 3 10, ec 8 (.iconst 1) 1 1, e1 9 (.ireturn) 1 1], 10),
  (10, [true, true, true, false, false, false, false], [e1 10 (.aload_n 0) 1 0, e3 11 (.getfield 9) 3 15 2 2, e1 14 (.iload_n 1) 1 1, e0 15 (.iaload) 1, e1 16 (.istore_n 3) 1 3, e1 17 (.aload_n 0) 1 0, e3 18 (.getfield 19) 3 15 1 2, e1 21 (.iload_n 3) 1 3, ei 22 (.invokevirtual 35) 3 11 24 2 1, e1 25 (.lstore 4) 2 4, ec 27 (.iconst 0) 1 0, e1 28 (.istore 6) 2 6], 30),
  (30, [true, true, true, true, true, false, true], [e1 30 (.iload 6) 2 6, e1 32 (.aload_n 0) 1 0, e3 33 (.getfield 15) 3 15 0 2, e3 36 (.getfield 23) 3 18 7 0, e1 39 (.if_icmp .ge 66) 3 105, e1 42 (.lload 4) 2 4, e1 44 (.iload 6) 2 6, ei 46 (.invokestatic 50) 3 0 186 1 1, e0 49 (.land) 1, ec 50 (.lconst 0) 1 0, e0 51 (.lcmp) 1, e1 52 (.ifCond .eq 47) 3 99, e1 55 (.aload_n 0) 1 0, e1 56 (.iload_n 3) 1 3, e1 57 (.iload 6) 2 6, ei 59 (.invokevirtual 53) 3 15 71 3 0, e1 62 (.ifCond .eq 37) 3 99, e1 65 (.aload_n 0) 1 0, e3 66 (.getfield 19) 3 15 1 2, e1 69 (.iload_n 3) 1 3, e1 70 (.iload 6) 2 6, e1 72 (.iload_n 2) 1 2, e1 73 (.iload_n 1) 1 1, e0 74 (.iadd) 1, ei 75 (.invokevirtual 56) 3 11 13 4 3, e1 78 (.aload_n 0) 1 0, e1 79 (.iload_n 1) 1 1, ec 80 (.iconst 1) 1 1, e0 81 (.iadd) 1, e1 82 (.iload_n 2) 1 2, ei 83 (.invokevirtual 46) 3 15 70 3 0, e1 86 (.ifCond .eq 5) 3 91, ec 89 (.iconst 1) 1 1, e1 90 (.ireturn) 1 1], 91),
  (91, [true, true, true, true, true, false, true], [e1 91 (.aload_n 0) 1 0, e3 92 (.getfield 19) 3 15 1 2, e1 95 (.iload_n 3) 1 3, ei 96 (.invokevirtual 60) 3 11 14 2 3], 99),
  (99, [true, true, true, true, true, false, true], [ek 99 (.iinc 6 1) 3 1 6, e1 102 (.goto (-72)) 3 30], 105),
  (105, [false, false, false, false, false, false, false], [ec 105 (.iconst 0) 1 0, e1 106 (.ireturn) 1 1], 107)]
set_option maxRecDepth 100000 in
def K_X5_lets : List XB := [(0, [true, true, true], [e1 0 (.aload_n 0) 1 0, e3 1 (.getfield 19) 3 15 1 2, e1 4 (.iload_n 2) 1 2, e1 5 (.iload_n 1) 1 1, ei 6 (.invokevirtual 64) 3 11 12 3 0, e1 9 (.ifCond .ne 30) 3 39, e1 12 (.aload_n 0) 1 0, e3 13 (.getfield 19) 3 15 1 2, e1 16 (.iload_n 2) 1 2, ei 17 (.invokevirtual 67) 3 11 16 2 0, e1 20 (.ifCond .ne 19) 3 39, e1 23 (.aload_n 0) 1 0, e3 24 (.getfield 19) 3 15 1 2, e1 27 (.iload_n 1) 1 1, e1 28 (.iload_n 2) 1 2, ei 29 (.invokevirtual 70) 3 11 17 3 0, e1 32 (.ifCond .ge 7) 3 39, ec 35 (.iconst 1) 1 1, e1 36 (.goto 4) 3 40], 39),
  (39, [false, false, false], [ec 39 (.iconst 0) 1 0], 40),
  (40, [false, false, false], [e1 40 (.ireturn) 1 1], 41)]
set_option maxRecDepth 100000 in
def K_X6_init : List XB := [(0, [true], [e1 0 (.aload_n 0) 1 0, ei 1 (.invokespecial 3) 3 0 0 1 9, e1 4 (.aload_n 0) 1 0, ec 5 (.bipush 16) 2 16, e1 7 (.newarray .int) 2 1, e3 9 (.putfield 9) 3 16 0 2, e0 12 (.return_) 1], 13)]
set_option maxRecDepth 100000 in
def K_X6_begin : List XB := [(0, [true, true, true, false], [e1 0 (.aload_n 0) 1 0, e1 1 (.iload_n 1) 1 1, e3 2 (.putfield 15) 3 16 1 0, e1 5 (.aload_n 0) 1 0, e1 6 (.iload_n 2) 1 2, e3 7 (.putfield 19) 3 16 2 0, ec 10 (.iconst 0) 1 0, e1 11 (.istore_n 3) 1 3], 12),
  (12, [true, false, false, true], [e1 12 (.iload_n 3) 1 3, ec 13 (.bipush 16) 2 16, e1 15 (.if_icmp .ge 17) 3 32, e1 18 (.aload_n 0) 1 0, e3 19 (.getfield 9) 3 16 0 2, e1 22 (.iload_n 3) 1 3, ec 23 (.bipush (-9)) 2 (-9), e0 25 (.iastore) 1, ek 26 (.iinc 3 1) 3 1 3, e1 29 (.goto (-17)) 3 12], 32),
  (32, [false, false, false, false], [e0 32 (.return_) 1], 33)]
set_option maxRecDepth 100000 in
def K_X6_spans : List XB := [(0, [true, true, true], [e1 0 (.iload_n 1) 1 1, e1 1 (.ifCond .lt 29) 3 30, e1 4 (.iload_n 2) 1 2, e1 5 (.ifCond .lt 25) 3 30, e1 8 (.iload_n 1) 1 1, e1 9 (.aload_n 0) 1 0, e3 10 (.getfield 19) 3 16 2 0, e1 13 (.if_icmp .gt 17) 3 30, e1 16 (.iload_n 2) 1 2, e1 17 (.aload_n 0) 1 0, e3 18 (.getfield 19) 3 16 2 0, e1 21 (.iload_n 1) 1 1, e0 22 (.isub) 1, e1 23 (.if_icmp .gt 7) 3 30, ec 26 (.iconst 1) 1 1, e1 27 (.goto 4) 3 31], 30),
  (30, [false, false, false], [ec 30 (.iconst 0) 1 0], 31),
  (31, [false, false, false], [e1 31 (.ireturn) 1 1], 32)]
set_option maxRecDepth 100000 in
def K_X7_init : List XB := [(0, [true], [e1 0 (.aload_n 0) 1 0, ei 1 (.invokespecial 3) 3 0 0 1 9, e1 4 (.aload_n 0) 1 0, ec 5 (.bipush 80) 2 80, e1 7 (.newarray .long) 2 2, e3 9 (.putfield 9) 3 17 0 2, e1 12 (.aload_n 0) 1 0, ec 13 (.bipush 80) 2 80, e1 15 (.newarray .boolean) 2 3, e3 17 (.putfield 15) 3 17 1 2, e1 20 (.aload_n 0) 1 0, ec 21 (.iconst 5) 1 5, e1 22 (.newarray .int) 2 1, e3 24 (.putfield 19) 3 17 2 2, e1 27 (.aload_n 0) 1 0, ec 28 (.bipush 16) 2 16, e1 30 (.newarray .int) 2 1, e3 32 (.putfield 23) 3 17 3 2, e0 35 (.return_) 1], 36)]
set_option maxRecDepth 100000 in
def K_X7_begin : List XB := [(0, [true, true, true, true, false, false], [e1 0 (.aload_n 0) 1 0, e1 1 (.iload_n 1) 1 1, e3 2 (.putfield 26) 3 17 4 0, e1 5 (.aload_n 0) 1 0, e1 6 (.iload_n 2) 1 2, e3 7 (.putfield 30) 3 17 5 0, e1 10 (.iload_n 3) 1 3, e1 11 (.istore 4) 2 4, ec 13 (.iconst 0) 1 0, e1 14 (.istore 5) 2 5], 16),
  (16, [true, false, true, false, true, true], [e1 16 (.iload 5) 2 5, e1 18 (.iload_n 2) 1 2, e1 19 (.if_icmp .ge 28) 3 47, e1 22 (.aload_n 0) 1 0, e3 23 (.getfield 19) 3 17 2 2, e1 26 (.iload 5) 2 5, e1 28 (.iload 4) 2 4, ec 30 (.bipush 10) 2 10, e0 32 (.irem) 1, e0 33 (.iastore) 1, e1 34 (.iload 4) 2 4, ec 36 (.bipush 10) 2 10, e0 38 (.idiv) 1, e1 39 (.istore 4) 2 4, ek 41 (.iinc 5 1) 3 1 5, e1 44 (.goto (-28)) 3 16], 47),
  (47, [true, false, false, false, false, false], [ec 47 (.iconst 0) 1 0, e1 48 (.istore 5) 2 5], 50),
  (50, [true, false, false, false, false, true], [e1 50 (.iload 5) 2 5, ec 52 (.bipush 80) 2 80, e1 54 (.if_icmp .ge 17) 3 71, e1 57 (.aload_n 0) 1 0, e3 58 (.getfield 15) 3 17 1 2, e1 61 (.iload 5) 2 5, ec 63 (.iconst 0) 1 0, e0 64 (.bastore) 1, ek 65 (.iinc 5 1) 3 1 5, e1 68 (.goto (-18)) 3 50], 71),
  (71, [false, false, false, false, false, false], [e0 71 (.return_) 1], 72)]
set_option maxRecDepth 100000 in
def K_X7_hasCell : List XB := [(0, [true, true, true], [e1 0 (.iload_n 1) 1 1, e1 1 (.aload_n 0) 1 0, e3 2 (.getfield 26) 3 17 4 0, ei 5 (.invokestatic 33) 3 0 123 2 0, e1 8 (.ifCond .eq 18) 3 26, e1 11 (.iload_n 2) 1 2, e1 12 (.aload_n 0) 1 0, e3 13 (.getfield 30) 3 17 5 0, ei 16 (.invokestatic 33) 3 0 123 2 0, e1 19 (.ifCond .eq 7) 3 26, ec 22 (.iconst 1) 1 1, e1 23 (.goto 4) 3 27], 26),
  (26, [false, false, false], [ec 26 (.iconst 0) 1 0], 27),
  (27, [false, false, false], [e1 27 (.ireturn) 1 1], 28)]
set_option maxRecDepth 100000 in
def K_X7_isBlank : List XB := [(0, [true, true, true], [e1 0 (.aload_n 0) 1 0, e3 1 (.getfield 15) 3 17 1 2, e1 4 (.iload_n 1) 1 1, ec 5 (.iconst 5) 1 5, e0 6 (.imul) 1, e1 7 (.iload_n 2) 1 2, e0 8 (.iadd) 1, e0 9 (.baload) 1, e1 10 (.ifCond .ne 7) 3 17, ec 13 (.iconst 1) 1 1, e1 14 (.goto 4) 3 18], 17),
  (17, [false, false, false], [ec 17 (.iconst 0) 1 0], 18),
  (18, [false, false, false], [e1 18 (.ireturn) 1 1], 19)]
set_option maxRecDepth 100000 in
def K_X7_told : List XB := [(0, [true, true, true], [e1 0 (.aload_n 0) 1 0, e3 1 (.getfield 9) 3 17 0 2, e1 4 (.iload_n 1) 1 1, ec 5 (.iconst 5) 1 5, e0 6 (.imul) 1, e1 7 (.iload_n 2) 1 2, e0 8 (.iadd) 1, e0 9 (.laload) 1, e0 10 (.lreturn) 1], 11)]
set_option maxRecDepth 100000 in
def K_X7_write : List XB := [(0, [true, true, true, true, false], [e1 0 (.aload_n 0) 1 0, e3 1 (.getfield 9) 3 17 0 2, e1 4 (.iload_n 1) 1 1, ec 5 (.iconst 5) 1 5, e0 6 (.imul) 1, e1 7 (.iload_n 2) 1 2, e0 8 (.iadd) 1, e1 9 (.aload_n 0) 1 0, e3 10 (.getfield 19) 3 17 2 2, e1 13 (.iload_n 2) 1 2, e0 14 (.iaload) 1, e1 15 (.lload_n 3) 1 3, ei 16 (.invokestatic 37) 3 0 187 2 1, e0 19 (.lastore) 1, e1 20 (.aload_n 0) 1 0, e3 21 (.getfield 15) 3 17 1 2, e1 24 (.iload_n 1) 1 1, ec 25 (.iconst 5) 1 5, e0 26 (.imul) 1, e1 27 (.iload_n 2) 1 2, e0 28 (.iadd) 1, ec 29 (.iconst 1) 1 1, e0 30 (.bastore) 1, e0 31 (.return_) 1], 32)]
set_option maxRecDepth 100000 in
def K_X7_wipe : List XB := [(0, [true, true, true, false], [e1 0 (.aload_n 0) 1 0, e3 1 (.getfield 15) 3 17 1 2, e1 4 (.iload_n 1) 1 1, ec 5 (.iconst 5) 1 5, e0 6 (.imul) 1, e1 7 (.iload_n 2) 1 2, e0 8 (.iadd) 1, e0 9 (.baload) 1, e1 10 (.istore_n 3) 1 3, e1 11 (.aload_n 0) 1 0, e3 12 (.getfield 15) 3 17 1 2, e1 15 (.iload_n 1) 1 1, ec 16 (.iconst 5) 1 5, e0 17 (.imul) 1, e1 18 (.iload_n 2) 1 2, e0 19 (.iadd) 1, ec 20 (.iconst 0) 1 0, e0 21 (.bastore) 1, e1 22 (.iload_n 3) 1 3, e1 23 (.ireturn) 1 1], 24)]
set_option maxRecDepth 100000 in
def K_X7_rowWith : List XB := [(0, [true, true, true, false, true, false], [e1 0 (.iload 4) 2 4, e1 2 (.istore 5) 2 5], 4),
  (4, [true, true, true, false, false, true], [e1 4 (.iload 5) 2 5, e1 6 (.aload_n 0) 1 0, e3 7 (.getfield 26) 3 17 4 0, e1 10 (.if_icmp .ge 34) 3 44, e1 13 (.aload_n 0) 1 0, e1 14 (.iload 5) 2 5, e1 16 (.iload_n 1) 1 1, ei 17 (.invokevirtual 41) 3 17 78 3 0, e1 20 (.ifCond .ne 18) 3 38, e1 23 (.aload_n 0) 1 0, e1 24 (.iload 5) 2 5, e1 26 (.iload_n 1) 1 1, ei 27 (.invokevirtual 44) 3 17 79 3 1, e1 30 (.lload_n 2) 1 2, e0 31 (.lcmp) 1, e1 32 (.ifCond .ne 6) 3 38, e1 35 (.iload 5) 2 5, e1 37 (.ireturn) 1 0], 38),
  (38, [true, true, true, false, false, true], [ek 38 (.iinc 5 1) 3 1 5, e1 41 (.goto (-37)) 3 4], 44),
  (44, [false, false, false, false, false, false], [ec 44 (.bipush (-9)) 2 (-9), e1 46 (.ireturn) 1 0], 47)]
set_option maxRecDepth 100000 in
def K_X7_order : List XB := [(0, [true, true, true, false, false], [ec 0 (.iconst 0) 1 0, e1 1 (.istore_n 3) 1 3], 2),
  (2, [true, true, true, true, false], [e1 2 (.iload_n 3) 1 3, e1 3 (.aload_n 0) 1 0, e3 4 (.getfield 26) 3 17 4 0, e1 7 (.if_icmp .ge 16) 3 23, e1 10 (.aload_n 0) 1 0, e3 11 (.getfield 23) 3 17 3 2, e1 14 (.iload_n 3) 1 3, e1 15 (.iload_n 3) 1 3, e0 16 (.iastore) 1, ek 17 (.iinc 3 1) 3 1 3, e1 20 (.goto (-18)) 3 2], 23),
  (23, [true, true, true, false, false], [ec 23 (.iconst 1) 1 1, e1 24 (.istore_n 3) 1 3], 25),
  (25, [true, true, true, true, false], [e1 25 (.iload_n 3) 1 3, e1 26 (.aload_n 0) 1 0, e3 27 (.getfield 26) 3 17 4 0, e1 30 (.if_icmp .ge 48) 3 78, e1 33 (.iload_n 3) 1 3, e1 34 (.istore 4) 2 4], 36),
  (36, [true, true, true, true, true], [e1 36 (.iload 4) 2 4, e1 38 (.ifCond .le 34) 3 72, e1 41 (.aload_n 0) 1 0, e1 42 (.iload 4) 2 4, e1 44 (.iload 4) 2 4, ec 46 (.iconst 1) 1 1, e0 47 (.isub) 1, e1 48 (.iload_n 1) 1 1, e1 49 (.iload_n 2) 1 2, ei 50 (.invokevirtual 48) 3 17 84 5 0, e1 53 (.ifCond .eq 19) 3 72, e1 56 (.aload_n 0) 1 0, e1 57 (.iload 4) 2 4, e1 59 (.iload 4) 2 4, ec 61 (.iconst 1) 1 1, e0 62 (.isub) 1, ei 63 (.invokevirtual 52) 3 17 85 3 3, ek 66 (.iinc 4 (-1)) 3 (-1) 4, e1 69 (.goto (-33)) 3 36], 72),
  (72, [true, true, true, true, false], [ek 72 (.iinc 3 1) 3 1 3, e1 75 (.goto (-50)) 3 25], 78),
  (78, [true, false, false, false, false], [ec 78 (.iconst 0) 1 0, e1 79 (.istore_n 3) 1 3, ec 80 (.iconst 0) 1 0, e1 81 (.istore 4) 2 4], 83),
  (83, [true, false, false, true, true], [e1 83 (.iload 4) 2 4, e1 85 (.aload_n 0) 1 0, e3 86 (.getfield 26) 3 17 4 0, e1 89 (.if_icmp .ge 24) 3 113, e1 92 (.aload_n 0) 1 0, e3 93 (.getfield 23) 3 17 3 2, e1 96 (.iload 4) 2 4, e0 98 (.iaload) 1, e1 99 (.iload 4) 2 4, e1 101 (.if_icmp .eq 6) 3 107, ek 104 (.iinc 3 1) 3 1 3], 107),
  (107, [true, false, false, true, true], [ek 107 (.iinc 4 1) 3 1 4, e1 110 (.goto (-27)) 3 83], 113),
  (113, [false, false, false, true, false], [e1 113 (.iload_n 3) 1 3, e1 114 (.ireturn) 1 0], 115)]
set_option maxRecDepth 100000 in
def K_X7_isAhead : List XB := [(0, [true, true, true, true, true], [e1 0 (.aload_n 0) 1 0, e1 1 (.iload_n 1) 1 1, e1 2 (.iload_n 3) 1 3, ei 3 (.invokevirtual 41) 3 17 78 3 0, e1 6 (.ifCond .eq 5) 3 11, ec 9 (.iconst 0) 1 0, e1 10 (.ireturn) 1 1], 11),
  (11, [true, true, true, true, true], [e1 11 (.aload_n 0) 1 0, e1 12 (.iload_n 2) 1 2, e1 13 (.iload_n 3) 1 3, ei 14 (.invokevirtual 41) 3 17 78 3 0, e1 17 (.ifCond .eq 5) 3 22, ec 20 (.iconst 1) 1 1, e1 21 (.ireturn) 1 1], 22),
  (22, [true, true, true, true, true], [e1 22 (.iload 4) 2 4, e1 24 (.ifCond .eq 27) 3 51, e1 27 (.aload_n 0) 1 0, e1 28 (.iload_n 1) 1 1, e1 29 (.iload_n 3) 1 3, ei 30 (.invokevirtual 44) 3 17 79 3 1, e1 33 (.aload_n 0) 1 0, e1 34 (.iload_n 2) 1 2, e1 35 (.iload_n 3) 1 3, ei 36 (.invokevirtual 44) 3 17 79 3 1, e0 39 (.lcmp) 1, e1 40 (.ifCond .le 7) 3 47, ec 43 (.iconst 1) 1 1, e1 44 (.goto 28) 3 72], 47),
  (47, [false, false, false, false, false], [ec 47 (.iconst 0) 1 0, e1 48 (.goto 24) 3 72], 51),
  (51, [true, true, true, true, false], [e1 51 (.aload_n 0) 1 0, e1 52 (.iload_n 1) 1 1, e1 53 (.iload_n 3) 1 3, ei 54 (.invokevirtual 44) 3 17 79 3 1, e1 57 (.aload_n 0) 1 0, e1 58 (.iload_n 2) 1 2, e1 59 (.iload_n 3) 1 3, ei 60 (.invokevirtual 44) 3 17 79 3 1, e0 63 (.lcmp) 1, e1 64 (.ifCond .ge 7) 3 71, ec 67 (.iconst 1) 1 1, e1 68 (.goto 4) 3 72], 71),
  (71, [false, false, false, false, false], [ec 71 (.iconst 0) 1 0], 72),
  (72, [false, false, false, false, false], [e1 72 (.ireturn) 1 1], 73)]
set_option maxRecDepth 100000 in
def K_X7_swap : List XB := [(0, [true, true, true, false, false, false, false, false, false, false], [e1 0 (.aload_n 0) 1 0, e3 1 (.getfield 23) 3 17 3 2, e1 4 (.iload_n 1) 1 1, e0 5 (.iaload) 1, e1 6 (.istore_n 3) 1 3, e1 7 (.aload_n 0) 1 0, e3 8 (.getfield 23) 3 17 3 2, e1 11 (.iload_n 1) 1 1, e1 12 (.aload_n 0) 1 0, e3 13 (.getfield 23) 3 17 3 2, e1 16 (.iload_n 2) 1 2, e0 17 (.iaload) 1, e0 18 (.iastore) 1, e1 19 (.aload_n 0) 1 0, e3 20 (.getfield 23) 3 17 3 2, e1 23 (.iload_n 2) 1 2, e1 24 (.iload_n 3) 1 3, e0 25 (.iastore) 1, ec 26 (.iconst 0) 1 0, e1 27 (.istore 4) 2 4], 29),
  (29, [true, true, true, false, true, false, false, false, false, false], [e1 29 (.iload 4) 2 4, e1 31 (.aload_n 0) 1 0, e3 32 (.getfield 30) 3 17 5 0, e1 35 (.if_icmp .ge 89) 3 124, e1 38 (.iload_n 1) 1 1, ec 39 (.iconst 5) 1 5, e0 40 (.imul) 1, e1 41 (.iload 4) 2 4, e0 43 (.iadd) 1, e1 44 (.istore 5) 2 5, e1 46 (.iload_n 2) 1 2, ec 47 (.iconst 5) 1 5, e0 48 (.imul) 1, e1 49 (.iload 4) 2 4, e0 51 (.iadd) 1, e1 52 (.istore 6) 2 6, e1 54 (.aload_n 0) 1 0, e3 55 (.getfield 9) 3 17 0 2, e1 58 (.iload 5) 2 5, e0 60 (.laload) 1, e1 61 (.lstore 7) 2 7, e1 63 (.aload_n 0) 1 0, e3 64 (.getfield 15) 3 17 1 2, e1 67 (.iload 5) 2 5, e0 69 (.baload) 1, e1 70 (.istore 9) 2 9, e1 72 (.aload_n 0) 1 0, e3 73 (.getfield 9) 3 17 0 2, e1 76 (.iload 5) 2 5, e1 78 (.aload_n 0) 1 0, e3 79 (.getfield 9) 3 17 0 2, e1 82 (.iload 6) 2 6, e0 84 (.laload) 1, e0 85 (.lastore) 1, e1 86 (.aload_n 0) 1 0, e3 87 (.getfield 15) 3 17 1 2, e1 90 (.iload 5) 2 5, e1 92 (.aload_n 0) 1 0, e3 93 (.getfield 15) 3 17 1 2, e1 96 (.iload 6) 2 6, e0 98 (.baload) 1, e0 99 (.bastore) 1, e1 100 (.aload_n 0) 1 0, e3 101 (.getfield 9) 3 17 0 2, e1 104 (.iload 6) 2 6, e1 106 (.lload 7) 2 7, e0 108 (.lastore) 1, e1 109 (.aload_n 0) 1 0, e3 110 (.getfield 15) 3 17 1 2, e1 113 (.iload 6) 2 6, e1 115 (.iload 9) 2 9, e0 117 (.bastore) 1, ek 118 (.iinc 4 1) 3 1 4, e1 121 (.goto (-92)) 3 29], 124),
  (124, [false, false, false, false, false, false, false, false, false, false], [e0 124 (.return_) 1], 125)]
set_option maxRecDepth 100000 in
def K_X7_sum : List XB := [(0, [true, true, false, false, false], [ec 0 (.lconst 0) 1 0, e1 1 (.lstore_n 2) 1 2, ec 2 (.iconst 0) 1 0, e1 3 (.istore 4) 2 4], 5),
  (5, [true, true, true, false, true], [e1 5 (.iload 4) 2 4, e1 7 (.aload_n 0) 1 0, e3 8 (.getfield 26) 3 17 4 0, e1 11 (.if_icmp .ge 29) 3 40, e1 14 (.aload_n 0) 1 0, e1 15 (.iload 4) 2 4, e1 17 (.iload_n 1) 1 1, ei 18 (.invokevirtual 41) 3 17 78 3 0, e1 21 (.ifCond .ne 13) 3 34, e1 24 (.lload_n 2) 1 2, e1 25 (.aload_n 0) 1 0, e1 26 (.iload 4) 2 4, e1 28 (.iload_n 1) 1 1, ei 29 (.invokevirtual 44) 3 17 79 3 1, e0 32 (.ladd) 1, e1 33 (.lstore_n 2) 1 2], 34),
  (34, [true, true, true, false, true], [ek 34 (.iinc 4 1) 3 1 4, e1 37 (.goto (-32)) 3 5], 40),
  (40, [false, false, true, false, false], [e1 40 (.lload_n 2) 1 2, e0 41 (.lreturn) 1], 42)]
set_option maxRecDepth 100000 in
def K_X7_filledIn : List XB := [(0, [true, true, false, false], [ec 0 (.iconst 0) 1 0, e1 1 (.istore_n 2) 1 2, ec 2 (.iconst 0) 1 0, e1 3 (.istore_n 3) 1 3], 4),
  (4, [true, true, true, true], [e1 4 (.iload_n 3) 1 3, e1 5 (.aload_n 0) 1 0, e3 6 (.getfield 26) 3 17 4 0, e1 9 (.if_icmp .ge 21) 3 30, e1 12 (.aload_n 0) 1 0, e1 13 (.iload_n 3) 1 3, e1 14 (.iload_n 1) 1 1, ei 15 (.invokevirtual 41) 3 17 78 3 0, e1 18 (.ifCond .ne 6) 3 24, ek 21 (.iinc 2 1) 3 1 2], 24),
  (24, [true, true, true, true], [ek 24 (.iinc 3 1) 3 1 3, e1 27 (.goto (-23)) 3 4], 30),
  (30, [false, false, true, false], [e1 30 (.iload_n 2) 1 2, e1 31 (.ireturn) 1 0], 32)]
set_option maxRecDepth 100000 in
def K_X8_init : List XB := [(0, [true, true], [e1 0 (.aload_n 0) 1 0, ei 1 (.invokespecial 3) 3 0 0 1 9, e1 4 (.aload_n 0) 1 0, ec 5 (.bipush 64) 2 64, e1 7 (.newarray .int) 2 1, e3 9 (.putfield 9) 3 18 1 2, e1 12 (.aload_n 0) 1 0, ec 13 (.bipush 64) 2 64, e1 15 (.newarray .int) 2 1, e3 17 (.putfield 15) 3 18 2 2, e1 20 (.aload_n 0) 1 0, ec 21 (.bipush 64) 2 64, e1 23 (.newarray .int) 2 1, e3 25 (.putfield 18) 3 18 3 2, e1 28 (.aload_n 0) 1 0, ec 29 (.bipush 64) 2 64, e1 31 (.newarray .int) 2 1, e3 33 (.putfield 21) 3 18 4 2, e1 36 (.aload_n 0) 1 0, ec 37 (.bipush 64) 2 64, e1 39 (.newarray .int) 2 1, e3 41 (.putfield 24) 3 18 5 2, e1 44 (.aload_n 0) 1 0, ec 45 (.bipush 64) 2 64, e1 47 (.newarray .boolean) 2 3, e3 49 (.putfield 27) 3 18 6 2, e1 52 (.aload_n 0) 1 0, e1 53 (.aload_n 1) 1 1, e3 54 (.putfield 31) 3 18 0 2, e0 57 (.return_) 1], 58)]
set_option maxRecDepth 100000 in
def K_X8_add : List XB := [(0, [true, true, true], [e1 0 (.aload_n 0) 1 0, e3 1 (.getfield 9) 3 18 1 2, e1 4 (.aload_n 0) 1 0, e3 5 (.getfield 35) 3 18 7 0, e1 8 (.iload_n 1) 1 1, e0 9 (.iastore) 1, e1 10 (.aload_n 0) 1 0, e3 11 (.getfield 15) 3 18 2 2, e1 14 (.aload_n 0) 1 0, e3 15 (.getfield 35) 3 18 7 0, e1 18 (.aload_n 0) 1 0, e3 19 (.getfield 31) 3 18 0 2, e1 22 (.iload_n 1) 1 1, ei 23 (.invokevirtual 39) 3 10 5 2 0, e0 26 (.iastore) 1, e1 27 (.aload_n 0) 1 0, e3 28 (.getfield 18) 3 18 3 2, e1 31 (.aload_n 0) 1 0, e3 32 (.getfield 35) 3 18 7 0, e1 35 (.iload_n 2) 1 2, e0 36 (.iastore) 1, e1 37 (.aload_n 0) 1 0, e3 38 (.getfield 21) 3 18 4 2, e1 41 (.aload_n 0) 1 0, e3 42 (.getfield 35) 3 18 7 0, e1 45 (.iload_n 2) 1 2, e0 46 (.iastore) 1, e1 47 (.aload_n 0) 1 0, e3 48 (.getfield 24) 3 18 5 2, e1 51 (.aload_n 0) 1 0, e3 52 (.getfield 35) 3 18 7 0, e1 55 (.iload_n 2) 1 2, e0 56 (.iastore) 1, e1 57 (.aload_n 0) 1 0, e3 58 (.getfield 27) 3 18 6 2, e1 61 (.aload_n 0) 1 0, e3 62 (.getfield 35) 3 18 7 0, ec 65 (.iconst 0) 1 0, e0 66 (.bastore) 1, e1 67 (.aload_n 0) 1 0, e0 68 (.dup) 1, e3 69 (.getfield 35) 3 18 7 0, e0 72 (.dup_x1) 1, ec 73 (.iconst 1) 1 1, e0 74 (.iadd) 1, e3 75 (.putfield 35) 3 18 7 0, e1 78 (.ireturn) 1 0], 79)]
set_option maxRecDepth 100000 in
def K_X8_has : List XB := [(0, [true, true, false], [e1 0 (.lload_n 1) 1 1, ec 1 (.lconst 0) 1 0, e0 2 (.lcmp) 1, e1 3 (.ifCond .lt 17) 3 20, e1 6 (.lload_n 1) 1 1, e1 7 (.aload_n 0) 1 0, e3 8 (.getfield 35) 3 18 7 0, e0 11 (.i2l) 1, e0 12 (.lcmp) 1, e1 13 (.ifCond .ge 7) 3 20, ec 16 (.iconst 1) 1 1, e1 17 (.goto 4) 3 21], 20),
  (20, [false, false, false], [ec 20 (.iconst 0) 1 0], 21),
  (21, [false, false, false], [e1 21 (.ireturn) 1 1], 22)]
set_option maxRecDepth 100000 in
def K_X8_all : List XB := [(0, [true], [e1 0 (.aload_n 0) 1 0, e3 1 (.getfield 35) 3 18 7 0, ec 4 (.bipush 64) 2 64, e1 6 (.if_icmp .lt 9) 3 15, ec 9 (.ldc2_w 45) 3 (-1), e1 12 (.goto 12) 3 24], 15),
  (15, [true], [e1 15 (.aload_n 0) 1 0, e3 16 (.getfield 35) 3 18 7 0, ei 19 (.invokestatic 47) 3 0 186 1 1, ec 22 (.lconst 1) 1 1, e0 23 (.lsub) 1], 24),
  (24, [false], [e0 24 (.lreturn) 1], 25)]
set_option maxRecDepth 100000 in
def K_X8_holders : List XB := [(0, [true, false, false, false], [ec 0 (.lconst 0) 1 0, e1 1 (.lstore_n 1) 1 1, ec 2 (.iconst 0) 1 0, e1 3 (.istore_n 3) 1 3], 4),
  (4, [true, true, false, true], [e1 4 (.iload_n 3) 1 3, e1 5 (.aload_n 0) 1 0, e3 6 (.getfield 35) 3 18 7 0, e1 9 (.if_icmp .ge 24) 3 33, e1 12 (.aload_n 0) 1 0, e1 13 (.iload_n 3) 1 3, ei 14 (.invokevirtual 51) 3 18 96 2 0, e1 17 (.ifCond .eq 10) 3 27, e1 20 (.lload_n 1) 1 1, e1 21 (.iload_n 3) 1 3, ei 22 (.invokestatic 47) 3 0 186 1 1, e0 25 (.lor) 1, e1 26 (.lstore_n 1) 1 1], 27),
  (27, [true, true, false, true], [ek 27 (.iinc 3 1) 3 1 3, e1 30 (.goto (-26)) 3 4], 33),
  (33, [false, true, false, false], [e1 33 (.lload_n 1) 1 1, e0 34 (.lreturn) 1], 35)]
set_option maxRecDepth 100000 in
def K_X8_isRoom : List XB := [(0, [true, true], [e1 0 (.aload_n 0) 1 0, e1 1 (.iload_n 1) 1 1, e0 2 (.i2l) 1, ei 3 (.invokevirtual 55) 3 18 90 2 0, e1 6 (.ifCond .eq 17) 3 23, e1 9 (.aload_n 0) 1 0, e3 10 (.getfield 15) 3 18 2 2, e1 13 (.iload_n 1) 1 1, e0 14 (.iaload) 1, ec 15 (.iconst 1) 1 1, e1 16 (.if_icmp .ne 7) 3 23, ec 19 (.iconst 1) 1 1, e1 20 (.goto 4) 3 24], 23),
  (23, [false, false], [ec 23 (.iconst 0) 1 0], 24),
  (24, [false, false], [e1 24 (.ireturn) 1 1], 25)]
set_option maxRecDepth 100000 in
def K_X8_haveRoom : List XB := [(0, [true, false], [ec 0 (.iconst 0) 1 0, e1 1 (.istore_n 1) 1 1], 2),
  (2, [true, true], [e1 2 (.iload_n 1) 1 1, e1 3 (.aload_n 0) 1 0, e3 4 (.getfield 35) 3 18 7 0, e1 7 (.if_icmp .ge 21) 3 28, e1 10 (.aload_n 0) 1 0, e3 11 (.getfield 15) 3 18 2 2, e1 14 (.iload_n 1) 1 1, e0 15 (.iaload) 1, ec 16 (.iconst 1) 1 1, e1 17 (.if_icmp .ne 5) 3 22, ec 20 (.iconst 1) 1 1, e1 21 (.ireturn) 1 1], 22),
  (22, [true, true], [ek 22 (.iinc 1 1) 3 1 1, e1 25 (.goto (-23)) 3 2], 28),
  (28, [false, false], [ec 28 (.iconst 0) 1 0, e1 29 (.ireturn) 1 1], 30)]
set_option maxRecDepth 100000 in
def K_X8_isCarrier : List XB := [(0, [true, true], [e1 0 (.aload_n 0) 1 0, e3 1 (.getfield 15) 3 18 2 2, e1 4 (.iload_n 1) 1 1, e0 5 (.iaload) 1, ec 6 (.iconst 4) 1 4, e1 7 (.if_icmp .eq 13) 3 20, e1 10 (.aload_n 0) 1 0, e3 11 (.getfield 15) 3 18 2 2, e1 14 (.iload_n 1) 1 1, e0 15 (.iaload) 1, ec 16 (.iconst 5) 1 5, e1 17 (.if_icmp .ne 7) 3 24], 20),
  (20, [false, false], [ec 20 (.iconst 1) 1 1, e1 21 (.goto 4) 3 25], 24),
  (24, [false, false], [ec 24 (.iconst 0) 1 0], 25),
  (25, [false, false], [e1 25 (.ireturn) 1 1], 26)]
set_option maxRecDepth 100000 in
def K_X8_isHolder : List XB := [(0, [true, true], [e1 0 (.aload_n 0) 1 0, e3 1 (.getfield 15) 3 18 2 2, e1 4 (.iload_n 1) 1 1, e0 5 (.iaload) 1, ec 6 (.iconst 1) 1 1, e1 7 (.if_icmp .eq 11) 3 18, e1 10 (.aload_n 0) 1 0, e1 11 (.iload_n 1) 1 1, ei 12 (.invokevirtual 59) 3 18 95 2 0, e1 15 (.ifCond .eq 7) 3 22], 18),
  (18, [false, false], [ec 18 (.iconst 1) 1 1, e1 19 (.goto 4) 3 23], 22),
  (22, [false, false], [ec 22 (.iconst 0) 1 0], 23),
  (23, [false, false], [e1 23 (.ireturn) 1 1], 24)]
set_option maxRecDepth 100000 in
def K_X8_hasLid : List XB := [(0, [true, true], [e1 0 (.aload_n 0) 1 0, e3 1 (.getfield 15) 3 18 2 2, e1 4 (.iload_n 1) 1 1, e0 5 (.iaload) 1, ec 6 (.iconst 2) 1 2, e1 7 (.if_icmp .eq 11) 3 18, e1 10 (.aload_n 0) 1 0, e1 11 (.iload_n 1) 1 1, ei 12 (.invokevirtual 59) 3 18 95 2 0, e1 15 (.ifCond .eq 7) 3 22], 18),
  (18, [false, false], [ec 18 (.iconst 1) 1 1, e1 19 (.goto 4) 3 23], 22),
  (22, [false, false], [ec 22 (.iconst 0) 1 0], 23),
  (23, [false, false], [e1 23 (.ireturn) 1 1], 24)]
set_option maxRecDepth 100000 in
def K_X8_isFixed : List XB := [(0, [true, true], [e1 0 (.aload_n 0) 1 0, e3 1 (.getfield 15) 3 18 2 2, e1 4 (.iload_n 1) 1 1, e0 5 (.iaload) 1, ec 6 (.iconst 1) 1 1, e1 7 (.if_icmp .eq 13) 3 20, e1 10 (.aload_n 0) 1 0, e3 11 (.getfield 15) 3 18 2 2, e1 14 (.iload_n 1) 1 1, e0 15 (.iaload) 1, ec 16 (.iconst 2) 1 2, e1 17 (.if_icmp .ne 7) 3 24], 20),
  (20, [false, false], [ec 20 (.iconst 1) 1 1, e1 21 (.goto 4) 3 25], 24),
  (24, [false, false], [ec 24 (.iconst 0) 1 0], 25),
  (25, [false, false], [e1 25 (.ireturn) 1 1], 26)]
set_option maxRecDepth 100000 in
def K_X8_liesInOne : List XB := [(0, [true, true], [e1 0 (.aload_n 0) 1 0, e1 1 (.iload_n 1) 1 1, ei 2 (.invokevirtual 62) 3 18 98 2 0, e1 5 (.ifCond .ne 17) 3 22, e1 8 (.aload_n 0) 1 0, e3 9 (.getfield 15) 3 18 2 2, e1 12 (.iload_n 1) 1 1, e0 13 (.iaload) 1, ec 14 (.iconst 3) 1 3, e1 15 (.if_icmp .eq 7) 3 22, ec 18 (.iconst 1) 1 1, e1 19 (.goto 4) 3 23], 22),
  (22, [false, false], [ec 22 (.iconst 0) 1 0], 23),
  (23, [false, false], [e1 23 (.ireturn) 1 1], 24)]
set_option maxRecDepth 100000 in
def K_X8_mayLieIn : List XB := [(0, [true, true, true], [e1 0 (.aload_n 0) 1 0, e1 1 (.iload_n 1) 1 1, ei 2 (.invokevirtual 62) 3 18 98 2 0, e1 5 (.ifCond .ne 36) 3 41, e1 8 (.aload_n 0) 1 0, e3 9 (.getfield 15) 3 18 2 2, e1 12 (.iload_n 1) 1 1, e0 13 (.iaload) 1, ec 14 (.iconst 3) 1 3, e1 15 (.if_icmp .ne 14) 3 29, e1 18 (.aload_n 0) 1 0, e1 19 (.iload_n 2) 1 2, ei 20 (.invokevirtual 65) 3 18 93 2 0, e1 23 (.ifCond .eq 18) 3 41, e1 26 (.goto 11) 3 37], 29),
  (29, [true, false, true], [e1 29 (.aload_n 0) 1 0, e1 30 (.iload_n 2) 1 2, ei 31 (.invokevirtual 51) 3 18 96 2 0, e1 34 (.ifCond .eq 7) 3 41], 37),
  (37, [false, false, false], [ec 37 (.iconst 1) 1 1, e1 38 (.goto 4) 3 42], 41),
  (41, [false, false, false], [ec 41 (.iconst 0) 1 0], 42),
  (42, [false, false, false], [e1 42 (.ireturn) 1 1], 43)]
set_option maxRecDepth 100000 in
def K_X8_worth : List XB := [(0, [true, true, false], [ec 0 (.iconst 3) 1 3, e1 1 (.aload_n 0) 1 0, e3 2 (.getfield 18) 3 18 3 2, e1 5 (.iload_n 1) 1 1, e0 6 (.iaload) 1, e0 7 (.imul) 1, ec 8 (.iconst 1) 1 1, e0 9 (.iadd) 1, e1 10 (.istore_n 2) 1 2, e1 11 (.aload_n 0) 1 0, e3 12 (.getfield 15) 3 18 2 2, e1 15 (.iload_n 1) 1 1, e0 16 (.iaload) 1, es 17 (.tableswitch 53 1 5 #[47, 35, 44, 53, 40]) 35 1 70 [64, 52, 61, 70, 57]], 52),
  (52, [false, false, true], [e1 52 (.iload_n 2) 1 2, ec 53 (.bipush 100) 2 100, e0 55 (.iadd) 1, e1 56 (.ireturn) 1 0], 57),
  (57, [false, false, true], [ec 57 (.iconst 2) 1 2, e1 58 (.iload_n 2) 1 2, e0 59 (.imul) 1, e1 60 (.ireturn) 1 0], 61),
  (61, [false, false, true], [e1 61 (.iload_n 2) 1 2, e0 62 (.ineg) 1, e1 63 (.ireturn) 1 0], 64),
  (64, [false, false, true], [e1 64 (.iload_n 2) 1 2, ec 65 (.sipush 1000) 3 1000, e0 68 (.iadd) 1, e1 69 (.ireturn) 1 0], 70),
  (70, [false, false, true], [e1 70 (.iload_n 2) 1 2, e1 71 (.ireturn) 1 0], 72)]
set_option maxRecDepth 100000 in
def K_X8_lid : List XB := [(0, [true, true], [e1 0 (.aload_n 0) 1 0, e3 1 (.getfield 15) 3 18 2 2, e1 4 (.iload_n 1) 1 1, e0 5 (.iaload) 1, ec 6 (.iconst 2) 1 2, e1 7 (.if_icmp .ne 28) 3 35, ec 10 (.bipush 10) 2 10, e1 12 (.aload_n 0) 1 0, e3 13 (.getfield 24) 3 18 5 2, e1 16 (.iload_n 1) 1 1, e0 17 (.iaload) 1, e0 18 (.imul) 1, e1 19 (.aload_n 0) 1 0, e3 20 (.getfield 27) 3 18 6 2, e1 23 (.iload_n 1) 1 1, e0 24 (.baload) 1, e1 25 (.ifCond .eq 7) 3 32, ec 28 (.iconst 1) 1 1, e1 29 (.goto 4) 3 33], 32),
  (32, [false, false], [ec 32 (.iconst 0) 1 0], 33),
  (33, [false, false], [e0 33 (.iadd) 1, e1 34 (.ireturn) 1 0], 35),
  (35, [true, true], [e1 35 (.aload_n 0) 1 0, e3 36 (.getfield 24) 3 18 5 2, e1 39 (.iload_n 1) 1 1, e0 40 (.iaload) 1, e1 41 (.aload_n 0) 1 0, e3 42 (.getfield 27) 3 18 6 2, e1 45 (.iload_n 1) 1 1, e0 46 (.baload) 1, e1 47 (.ifCond .eq 9) 3 56, ec 50 (.sipush 1000) 3 1000, e1 53 (.goto 4) 3 57], 56),
  (56, [false, false], [ec 56 (.iconst 0) 1 0], 57),
  (57, [false, false], [e0 57 (.iadd) 1, e1 58 (.ireturn) 1 0], 59)]
set_option maxRecDepth 100000 in
def K_X9_init : List XB := [(0, [true, true, true], [e1 0 (.aload_n 0) 1 0, ei 1 (.invokespecial 3) 3 0 0 1 9, e1 4 (.aload_n 0) 1 0, ec 5 (.bipush 12) 2 12, e1 7 (.newarray .int) 2 1, e3 9 (.putfield 9) 3 19 2 2, e1 12 (.aload_n 0) 1 0, ec 13 (.bipush 12) 2 12, e1 15 (.newarray .int) 2 1, e3 17 (.putfield 15) 3 19 3 2, e1 20 (.aload_n 0) 1 0, ec 21 (.bipush 12) 2 12, e1 23 (.newarray .int) 2 1, e3 25 (.putfield 18) 3 19 4 2, e1 28 (.aload_n 0) 1 0, ec 29 (.sipush 288) 3 288, e1 32 (.newarray .long) 2 2, e3 34 (.putfield 21) 3 19 5 2, e1 37 (.aload_n 0) 1 0, ec 38 (.sipush 288) 3 288, e1 41 (.newarray .boolean) 2 3, e3 43 (.putfield 25) 3 19 6 2, e1 46 (.aload_n 0) 1 0, ec 47 (.sipush 768) 3 768, e1 50 (.newarray .long) 2 2, e3 52 (.putfield 29) 3 19 7 2, e1 55 (.aload_n 0) 1 0, ec 56 (.sipush 768) 3 768, e1 59 (.newarray .int) 2 1, e3 61 (.putfield 32) 3 19 8 2, e1 64 (.aload_n 0) 1 0, e1 65 (.aload_n 1) 1 1, e3 66 (.putfield 35) 3 19 0 2, e1 69 (.aload_n 0) 1 0, e1 70 (.aload_n 2) 1 2, e3 71 (.putfield 39) 3 19 1 2, e0 74 (.return_) 1], 75)]
set_option maxRecDepth 100000 in
def K_X9_add : List XB := [(0, [true, true, true, true, false], [e1 0 (.aload_n 0) 1 0, e3 1 (.getfield 9) 3 19 2 2, e1 4 (.aload_n 0) 1 0, e3 5 (.getfield 43) 3 19 9 0, e1 8 (.iload_n 1) 1 1, e0 9 (.iastore) 1, e1 10 (.aload_n 0) 1 0, e3 11 (.getfield 15) 3 19 3 2, e1 14 (.aload_n 0) 1 0, e3 15 (.getfield 43) 3 19 9 0, e1 18 (.iload_n 2) 1 2, e0 19 (.iastore) 1, e1 20 (.aload_n 0) 1 0, e3 21 (.getfield 18) 3 19 4 2, e1 24 (.aload_n 0) 1 0, e3 25 (.getfield 43) 3 19 9 0, e1 28 (.iload_n 3) 1 3, e0 29 (.iastore) 1, ec 30 (.iconst 0) 1 0, e1 31 (.istore 4) 2 4], 33),
  (33, [true, false, false, false, true], [e1 33 (.iload 4) 2 4, ec 35 (.bipush 24) 2 24, e1 37 (.if_icmp .ge 25) 3 62, e1 40 (.aload_n 0) 1 0, e3 41 (.getfield 25) 3 19 6 2, e1 44 (.aload_n 0) 1 0, e3 45 (.getfield 43) 3 19 9 0, ec 48 (.bipush 24) 2 24, e0 50 (.imul) 1, e1 51 (.iload 4) 2 4, e0 53 (.iadd) 1, ec 54 (.iconst 0) 1 0, e0 55 (.bastore) 1, ek 56 (.iinc 4 1) 3 1 4, e1 59 (.goto (-26)) 3 33], 62),
  (62, [true, false, false, false, false], [ec 62 (.iconst 0) 1 0, e1 63 (.istore 4) 2 4], 65),
  (65, [true, false, false, false, true], [e1 65 (.iload 4) 2 4, ec 67 (.bipush 64) 2 64, e1 69 (.if_icmp .ge 49) 3 118, e1 72 (.aload_n 0) 1 0, e3 73 (.getfield 29) 3 19 7 2, e1 76 (.aload_n 0) 1 0, e3 77 (.getfield 43) 3 19 9 0, ec 80 (.bipush 64) 2 64, e0 82 (.imul) 1, e1 83 (.iload 4) 2 4, e0 85 (.iadd) 1, e1 86 (.aload_n 0) 1 0, e1 87 (.aload_n 0) 1 0, e3 88 (.getfield 43) 3 19 9 0, ei 91 (.invokevirtual 47) 3 19 106 2 1, e0 94 (.lastore) 1, e1 95 (.aload_n 0) 1 0, e3 96 (.getfield 32) 3 19 8 2, e1 99 (.aload_n 0) 1 0, e3 100 (.getfield 43) 3 19 9 0, ec 103 (.bipush 64) 2 64, e0 105 (.imul) 1, e1 106 (.iload 4) 2 4, e0 108 (.iadd) 1, ec 109 (.bipush (-9)) 2 (-9), e0 111 (.iastore) 1, ek 112 (.iinc 4 1) 3 1 4, e1 115 (.goto (-50)) 3 65], 118),
  (118, [true, false, false, false, false], [e1 118 (.aload_n 0) 1 0, e0 119 (.dup) 1, e3 120 (.getfield 43) 3 19 9 0, e0 123 (.dup_x1) 1, ec 124 (.iconst 1) 1 1, e0 125 (.iadd) 1, e3 126 (.putfield 43) 3 19 9 0, e1 129 (.ireturn) 1 0], 130)]
set_option maxRecDepth 100000 in
def K_X9_has : List XB := [(0, [true, true], [e1 0 (.iload_n 1) 1 1, e1 1 (.aload_n 0) 1 0, e3 2 (.getfield 43) 3 19 9 0, ei 5 (.invokestatic 51) 3 0 123 2 0, e1 8 (.ireturn) 1 1], 9)]
set_option maxRecDepth 100000 in
def K_X9_emptyCell : List XB := [(0, [true, true], [e1 0 (.aload_n 0) 1 0, e3 1 (.getfield 15) 3 19 3 2, e1 4 (.iload_n 1) 1 1, e0 5 (.iaload) 1, ec 6 (.bipush 8) 2 8, e1 8 (.if_icmp .ne 9) 3 17, ec 11 (.ldc2_w 55) 3 (-9), e1 14 (.goto 4) 3 18], 17),
  (17, [false, false], [ec 17 (.lconst 0) 1 0], 18),
  (18, [false, false], [e0 18 (.lreturn) 1], 19)]
set_option maxRecDepth 100000 in
def K_X9_knows : List XB := [(0, [true, true, true, false], [e1 0 (.aload_n 0) 1 0, e3 1 (.getfield 15) 3 19 3 2, e1 4 (.iload_n 1) 1 1, e0 5 (.iaload) 1, ec 6 (.bipush 8) 2 8, e1 8 (.if_icmp .ne 22) 3 30, e1 11 (.lload_n 2) 1 2, ec 12 (.ldc2_w 55) 3 (-9), e0 15 (.lcmp) 1, e1 16 (.ifCond .eq 14) 3 30, e1 19 (.aload_n 0) 1 0, e3 20 (.getfield 39) 3 19 1 2, e1 23 (.lload_n 2) 1 2, ei 24 (.invokevirtual 57) 3 18 90 2 0, e1 27 (.ifCond .eq 7) 3 34], 30),
  (30, [false, false, false, false], [ec 30 (.iconst 1) 1 1, e1 31 (.goto 4) 3 35], 34),
  (34, [false, false, false, false], [ec 34 (.iconst 0) 1 0], 35),
  (35, [false, false, false, false], [e1 35 (.ireturn) 1 1], 36)]
set_option maxRecDepth 100000 in
def K_X9_takes : List XB := [(0, [true, true, true, false], [e1 0 (.aload_n 0) 1 0, e3 1 (.getfield 15) 3 19 3 2, e1 4 (.iload_n 1) 1 1, e0 5 (.iaload) 1, ec 6 (.bipush 8) 2 8, e1 8 (.if_icmp .ne 40) 3 48, e1 11 (.aload_n 0) 1 0, e3 12 (.getfield 39) 3 19 1 2, e1 15 (.lload_n 2) 1 2, ei 16 (.invokevirtual 57) 3 18 90 2 0, e1 19 (.ifCond .eq 29) 3 48, e1 22 (.aload_n 0) 1 0, e3 23 (.getfield 35) 3 19 0 2, e1 26 (.aload_n 0) 1 0, e3 27 (.getfield 39) 3 19 1 2, e3 30 (.getfield 63) 3 18 2 2, e1 33 (.lload_n 2) 1 2, e0 34 (.l2i) 1, e0 35 (.iaload) 1, e1 36 (.aload_n 0) 1 0, e3 37 (.getfield 18) 3 19 4 2, e1 40 (.iload_n 1) 1 1, e0 41 (.iaload) 1, ei 42 (.invokevirtual 66) 3 10 4 3 0, e1 45 (.ifCond .eq 7) 3 52], 48),
  (48, [false, false, false, false], [ec 48 (.iconst 1) 1 1, e1 49 (.goto 4) 3 53], 52),
  (52, [false, false, false, false], [ec 52 (.iconst 0) 1 0], 53),
  (53, [false, false, false, false], [e1 53 (.ireturn) 1 1], 54)]
set_option maxRecDepth 100000 in
def K_X9_isFor : List XB := [(0, [true, true, true], [e1 0 (.aload_n 0) 1 0, e3 1 (.getfield 35) 3 19 0 2, e1 4 (.aload_n 0) 1 0, e3 5 (.getfield 39) 3 19 1 2, e3 8 (.getfield 71) 3 18 1 2, e1 11 (.iload_n 1) 1 1, e0 12 (.iaload) 1, e1 13 (.aload_n 0) 1 0, e3 14 (.getfield 9) 3 19 2 2, e1 17 (.iload_n 2) 1 2, e0 18 (.iaload) 1, ei 19 (.invokevirtual 66) 3 10 4 3 0, e1 22 (.ireturn) 1 1], 23)]
set_option maxRecDepth 100000 in
def K_X9_tellUsual : List XB := [(0, [true, true, true, true, false], [e1 0 (.aload_n 0) 1 0, e3 1 (.getfield 21) 3 19 5 2, e1 4 (.iload_n 2) 1 2, ec 5 (.bipush 24) 2 24, e0 7 (.imul) 1, e1 8 (.iload_n 1) 1 1, e0 9 (.iadd) 1, e1 10 (.aload_n 0) 1 0, e3 11 (.getfield 15) 3 19 3 2, e1 14 (.iload_n 2) 1 2, e0 15 (.iaload) 1, e1 16 (.lload_n 3) 1 3, ei 17 (.invokestatic 74) 3 0 187 2 1, e0 20 (.lastore) 1, e1 21 (.aload_n 0) 1 0, e3 22 (.getfield 25) 3 19 6 2, e1 25 (.iload_n 2) 1 2, ec 26 (.bipush 24) 2 24, e0 28 (.imul) 1, e1 29 (.iload_n 1) 1 1, e0 30 (.iadd) 1, ec 31 (.iconst 1) 1 1, e0 32 (.bastore) 1, e0 33 (.return_) 1], 34)]
set_option maxRecDepth 100000 in
def K_X9_tellGiven : List XB := [(0, [true, true, true, true, false, true], [e1 0 (.aload_n 0) 1 0, e3 1 (.getfield 29) 3 19 7 2, e1 4 (.iload_n 2) 1 2, ec 5 (.bipush 64) 2 64, e0 7 (.imul) 1, e1 8 (.iload_n 1) 1 1, e0 9 (.iadd) 1, e1 10 (.aload_n 0) 1 0, e3 11 (.getfield 15) 3 19 3 2, e1 14 (.iload_n 2) 1 2, e0 15 (.iaload) 1, e1 16 (.lload_n 3) 1 3, ei 17 (.invokestatic 74) 3 0 187 2 1, e0 20 (.lastore) 1, e1 21 (.aload_n 0) 1 0, e3 22 (.getfield 32) 3 19 8 2, e1 25 (.iload_n 2) 1 2, ec 26 (.bipush 64) 2 64, e0 28 (.imul) 1, e1 29 (.iload_n 1) 1 1, e0 30 (.iadd) 1, e1 31 (.iload 5) 2 5, e0 33 (.iastore) 1, e0 34 (.return_) 1], 35)]
set_option maxRecDepth 100000 in
def K_X9_givenBy : List XB := [(0, [true, true, true], [e1 0 (.aload_n 0) 1 0, e3 1 (.getfield 32) 3 19 8 2, e1 4 (.iload_n 2) 1 2, ec 5 (.bipush 64) 2 64, e0 7 (.imul) 1, e1 8 (.iload_n 1) 1 1, e0 9 (.iadd) 1, e0 10 (.iaload) 1, e1 11 (.ireturn) 1 0], 12)]
set_option maxRecDepth 100000 in
def K_X9_givenCell : List XB := [(0, [true, true, true], [e1 0 (.aload_n 0) 1 0, e3 1 (.getfield 29) 3 19 7 2, e1 4 (.iload_n 2) 1 2, ec 5 (.bipush 64) 2 64, e0 7 (.imul) 1, e1 8 (.iload_n 1) 1 1, e0 9 (.iadd) 1, e0 10 (.laload) 1, e0 11 (.lreturn) 1], 12)]
set_option maxRecDepth 100000 in
def K_X9_isGivenOtherwise : List XB := [(0, [true, true, true, true, false], [e1 0 (.aload_n 0) 1 0, e1 1 (.iload_n 1) 1 1, e1 2 (.iload_n 2) 1 2, ei 3 (.invokevirtual 78) 3 19 112 3 0, e1 6 (.ifCond .lt 27) 3 33, e1 9 (.aload_n 0) 1 0, e1 10 (.iload_n 1) 1 1, e1 11 (.iload_n 2) 1 2, ei 12 (.invokevirtual 82) 3 19 113 3 1, e1 15 (.aload_n 0) 1 0, e3 16 (.getfield 15) 3 19 3 2, e1 19 (.iload_n 2) 1 2, e0 20 (.iaload) 1, e1 21 (.lload_n 3) 1 3, ei 22 (.invokestatic 74) 3 0 187 2 1, e0 25 (.lcmp) 1, e1 26 (.ifCond .eq 7) 3 33, ec 29 (.iconst 1) 1 1, e1 30 (.goto 4) 3 34], 33),
  (33, [false, false, false, false, false], [ec 33 (.iconst 0) 1 0], 34),
  (34, [false, false, false, false, false], [e1 34 (.ireturn) 1 1], 35)]
set_option maxRecDepth 100000 in
def K_X9_valueOf : List XB := [(0, [true, true, true, false, false], [e1 0 (.aload_n 0) 1 0, e1 1 (.iload_n 1) 1 1, e1 2 (.iload_n 2) 1 2, ei 3 (.invokevirtual 78) 3 19 112 3 0, e1 6 (.ifCond .lt 10) 3 16, e1 9 (.aload_n 0) 1 0, e1 10 (.iload_n 1) 1 1, e1 11 (.iload_n 2) 1 2, ei 12 (.invokevirtual 82) 3 19 113 3 1, e0 15 (.lreturn) 1], 16),
  (16, [true, true, true, false, false], [e1 16 (.aload_n 0) 1 0, e3 17 (.getfield 39) 3 19 1 2, e3 20 (.getfield 71) 3 18 1 2, e1 23 (.iload_n 1) 1 1, e0 24 (.iaload) 1, e1 25 (.istore_n 3) 1 3, ec 26 (.iconst 0) 1 0, e1 27 (.istore 4) 2 4], 29),
  (29, [true, false, true, true, true], [e1 29 (.iload_n 3) 1 3, e1 30 (.ifCond .lt 52) 3 82, e1 33 (.iload 4) 2 4, ec 35 (.bipush 24) 2 24, e1 37 (.if_icmp .ge 45) 3 82, e1 40 (.aload_n 0) 1 0, e3 41 (.getfield 25) 3 19 6 2, e1 44 (.iload_n 2) 1 2, ec 45 (.bipush 24) 2 24, e0 47 (.imul) 1, e1 48 (.iload_n 3) 1 3, e0 49 (.iadd) 1, e0 50 (.baload) 1, e1 51 (.ifCond .eq 15) 3 66, e1 54 (.aload_n 0) 1 0, e3 55 (.getfield 21) 3 19 5 2, e1 58 (.iload_n 2) 1 2, ec 59 (.bipush 24) 2 24, e0 61 (.imul) 1, e1 62 (.iload_n 3) 1 3, e0 63 (.iadd) 1, e0 64 (.laload) 1, e0 65 (.lreturn) 1], 66),
  (66, [true, false, true, true, true], [e1 66 (.aload_n 0) 1 0, e3 67 (.getfield 35) 3 19 0 2, e3 70 (.getfield 86) 3 10 0 2, e1 73 (.iload_n 3) 1 3, e0 74 (.iaload) 1, e1 75 (.istore_n 3) 1 3, ek 76 (.iinc 4 1) 3 1 4, e1 79 (.goto (-50)) 3 29], 82),
  (82, [true, false, true, false, false], [e1 82 (.aload_n 0) 1 0, e1 83 (.iload_n 2) 1 2, ei 84 (.invokevirtual 47) 3 19 106 2 1, e0 87 (.lreturn) 1], 88)]
set_option maxRecDepth 100000 in
def K_X10_init : List XB := [(0, [true], [e1 0 (.aload_n 0) 1 0, ei 1 (.invokespecial 3) 3 0 0 1 9, e1 4 (.aload_n 0) 1 0, ec 5 (.bipush 64) 2 64, e1 7 (.newarray .int) 2 1, e3 9 (.putfield 9) 3 20 0 2, e1 12 (.aload_n 0) 1 0, ec 13 (.bipush 64) 2 64, e1 15 (.newarray .int) 2 1, e3 17 (.putfield 15) 3 20 1 2, e1 20 (.aload_n 0) 1 0, ec 21 (.bipush 64) 2 64, e1 23 (.newarray .int) 2 1, e3 25 (.putfield 18) 3 20 2 2, e0 28 (.return_) 1], 29)]
set_option maxRecDepth 100000 in
def K_X10_begin : List XB := [(0, [true, true, false], [ec 0 (.iconst 0) 1 0, e1 1 (.istore_n 2) 1 2], 2),
  (2, [true, true, true], [e1 2 (.iload_n 2) 1 2, ec 3 (.bipush 64) 2 64, e1 5 (.if_icmp .ge 25) 3 30, e1 8 (.aload_n 0) 1 0, e3 9 (.getfield 9) 3 20 0 2, e1 12 (.iload_n 2) 1 2, ec 13 (.bipush (-9)) 2 (-9), e0 15 (.iastore) 1, e1 16 (.aload_n 0) 1 0, e3 17 (.getfield 15) 3 20 1 2, e1 20 (.iload_n 2) 1 2, ec 21 (.bipush (-9)) 2 (-9), e0 23 (.iastore) 1, ek 24 (.iinc 2 1) 3 1 2, e1 27 (.goto (-25)) 3 2], 30),
  (30, [true, true, false], [e1 30 (.aload_n 0) 1 0, e3 31 (.getfield 9) 3 20 0 2, e1 34 (.iload_n 1) 1 1, ec 35 (.iconst 0) 1 0, e0 36 (.iastore) 1, e1 37 (.aload_n 0) 1 0, e3 38 (.getfield 18) 3 20 2 2, ec 41 (.iconst 0) 1 0, e1 42 (.iload_n 1) 1 1, e0 43 (.iastore) 1, e1 44 (.aload_n 0) 1 0, ec 45 (.iconst 1) 1 1, e3 46 (.putfield 21) 3 20 3 0, e0 49 (.return_) 1], 50)]
set_option maxRecDepth 100000 in
def K_X10_step : List XB := [(0, [true, true, true, true], [e1 0 (.aload_n 0) 1 0, e3 1 (.getfield 9) 3 20 0 2, e1 4 (.iload_n 2) 1 2, e0 5 (.iaload) 1, ec 6 (.bipush (-9)) 2 (-9), e1 8 (.if_icmp .ne 68) 3 76, e1 11 (.aload_n 0) 1 0, e3 12 (.getfield 21) 3 20 3 0, ec 15 (.bipush 64) 2 64, e1 17 (.if_icmp .ge 59) 3 76, e1 20 (.aload_n 0) 1 0, e3 21 (.getfield 9) 3 20 0 2, e1 24 (.iload_n 2) 1 2, e1 25 (.aload_n 0) 1 0, e3 26 (.getfield 9) 3 20 0 2, e1 29 (.iload_n 1) 1 1, e0 30 (.iaload) 1, ec 31 (.iconst 1) 1 1, e0 32 (.iadd) 1, e0 33 (.iastore) 1, e1 34 (.aload_n 0) 1 0, e3 35 (.getfield 15) 3 20 1 2, e1 38 (.iload_n 2) 1 2, e1 39 (.aload_n 0) 1 0, e3 40 (.getfield 9) 3 20 0 2, e1 43 (.iload_n 1) 1 1, e0 44 (.iaload) 1, e1 45 (.ifCond .ne 7) 3 52, e1 48 (.iload_n 3) 1 3, e1 49 (.goto 9) 3 58], 52),
  (52, [true, true, true, false], [e1 52 (.aload_n 0) 1 0, e3 53 (.getfield 15) 3 20 1 2, e1 56 (.iload_n 1) 1 1, e0 57 (.iaload) 1], 58),
  (58, [true, false, true, false], [e0 58 (.iastore) 1, e1 59 (.aload_n 0) 1 0, e3 60 (.getfield 18) 3 20 2 2, e1 63 (.aload_n 0) 1 0, e0 64 (.dup) 1, e3 65 (.getfield 21) 3 20 3 0, e0 68 (.dup_x1) 1, ec 69 (.iconst 1) 1 1, e0 70 (.iadd) 1, e3 71 (.putfield 21) 3 20 3 0, e1 74 (.iload_n 2) 1 2, e0 75 (.iastore) 1], 76),
  (76, [false, false, false, false], [e0 76 (.return_) 1], 77)]
set_option maxRecDepth 100000 in
def K_X11_init : List XB := [(0, [true, false, false], [e1 0 (.aload_n 0) 1 0, ei 1 (.invokespecial 3) 3 0 0 1 9, e1 4 (.aload_n 0) 1 0, e1 5 (.new 9) 3 10, e0 8 (.dup) 1, ei 9 (.invokespecial 11) 3 10 0 1 3, e3 12 (.putfield 12) 3 21 0 2, e1 15 (.aload_n 0) 1 0, e1 16 (.new 16) 3 18, e0 19 (.dup) 1, e1 20 (.aload_n 0) 1 0, e3 21 (.getfield 12) 3 21 0 2, ei 24 (.invokespecial 18) 3 18 88 2 3, e3 27 (.putfield 21) 3 21 1 2, e1 30 (.aload_n 0) 1 0, e1 31 (.new 25) 3 19, e0 34 (.dup) 1, e1 35 (.aload_n 0) 1 0, e3 36 (.getfield 12) 3 21 0 2, e1 39 (.aload_n 0) 1 0, e3 40 (.getfield 21) 3 21 1 2, ei 43 (.invokespecial 27) 3 19 103 3 3, e3 46 (.putfield 30) 3 21 2 2, e1 49 (.aload_n 0) 1 0, e1 50 (.new 34) 3 14, e0 53 (.dup) 1, ei 54 (.invokespecial 36) 3 14 62 1 3, e3 57 (.putfield 37) 3 21 3 2, e1 60 (.aload_n 0) 1 0, e1 61 (.new 41) 3 11, e0 64 (.dup) 1, e1 65 (.aload_n 0) 1 0, e3 66 (.getfield 21) 3 21 1 2, e1 69 (.aload_n 0) 1 0, e3 70 (.getfield 37) 3 21 3 2, ei 73 (.invokespecial 43) 3 11 6 3 3, e3 76 (.putfield 46) 3 21 4 2, e1 79 (.aload_n 0) 1 0, e1 80 (.new 50) 3 15, e0 83 (.dup) 1, e1 84 (.aload_n 0) 1 0, e3 85 (.getfield 21) 3 21 1 2, e1 88 (.aload_n 0) 1 0, e3 89 (.getfield 46) 3 21 4 2, ei 92 (.invokespecial 52) 3 15 66 3 3, e3 95 (.putfield 55) 3 21 5 2, e1 98 (.new 59) 3 20, e0 101 (.dup) 1, ei 102 (.invokespecial 61) 3 20 116 1 3, e1 105 (.astore_n 1) 1 1, e1 106 (.aload_n 0) 1 0, e1 107 (.new 62) 3 12, e0 110 (.dup) 1, e1 111 (.aload_n 0) 1 0, e3 112 (.getfield 21) 3 21 1 2, e1 115 (.aload_n 0) 1 0, e3 116 (.getfield 37) 3 21 3 2, e1 119 (.aload_n 1) 1 1, ei 120 (.invokespecial 64) 3 12 35 4 3, e3 123 (.putfield 67) 3 21 6 2, e1 126 (.aload_n 0) 1 0, e1 127 (.new 71) 3 13, e0 130 (.dup) 1, e1 131 (.aload_n 0) 1 0, e3 132 (.getfield 21) 3 21 1 2, e1 135 (.aload_n 1) 1 1, ei 136 (.invokespecial 73) 3 13 49 3 3, e3 139 (.putfield 76) 3 21 7 2, e1 142 (.aload_n 0) 1 0, ec 143 (.bipush 10) 2 10, e1 145 (.anewarray 80) 3 5, e3 148 (.putfield 82) 3 21 8 2, ec 151 (.iconst 0) 1 0, e1 152 (.istore_n 2) 1 2], 153),
  (153, [true, false, true], [e1 153 (.iload_n 2) 1 2, ec 154 (.bipush 10) 2 10, e1 156 (.if_icmp .ge 22) 3 178, e1 159 (.aload_n 0) 1 0, e3 160 (.getfield 82) 3 21 8 2, e1 163 (.iload_n 2) 1 2, e1 164 (.new 80) 3 16, e0 167 (.dup) 1, ei 168 (.invokespecial 86) 3 16 72 1 3, e3 171 (.aastore) 1 5 16 0, ek 172 (.iinc 2 1) 3 1 2, e1 175 (.goto (-22)) 3 153], 178),
  (178, [true, false, false], [e1 178 (.aload_n 0) 1 0, ec 179 (.bipush 6) 2 6, e1 181 (.anewarray 87) 3 6, e3 184 (.putfield 89) 3 21 9 2, ec 187 (.iconst 0) 1 0, e1 188 (.istore_n 2) 1 2], 189),
  (189, [true, false, true], [e1 189 (.iload_n 2) 1 2, ec 190 (.bipush 6) 2 6, e1 192 (.if_icmp .ge 22) 3 214, e1 195 (.aload_n 0) 1 0, e3 196 (.getfield 89) 3 21 9 2, e1 199 (.iload_n 2) 1 2, e1 200 (.new 87) 3 17, e0 203 (.dup) 1, ei 204 (.invokespecial 93) 3 17 75 1 3, e3 207 (.aastore) 1 6 17 0, ek 208 (.iinc 2 1) 3 1 2, e1 211 (.goto (-22)) 3 189], 214),
  (214, [true, false, false], [e1 214 (.aload_n 0) 1 0, ec 215 (.bipush 16) 2 16, e1 217 (.newarray .int) 2 1, e3 219 (.putfield 94) 3 21 10 2, e1 222 (.aload_n 0) 1 0, ec 223 (.sipush 1490) 3 1490, e1 226 (.newarray .int) 2 1, e3 228 (.putfield 98) 3 21 11 2, e1 231 (.aload_n 0) 1 0, ei 232 (.invokevirtual 101) 3 21 120 1 3, e0 235 (.return_) 1], 236)]
set_option maxRecDepth 100000 in
def K_X11_beginAnew : List XB := [(0, [true], [e1 0 (.aload_n 0) 1 0, e3 1 (.getfield 12) 3 21 0 2, ei 4 (.invokevirtual 104) 3 10 1 1 3, e1 7 (.aload_n 0) 1 0, e3 8 (.getfield 21) 3 21 1 2, ec 11 (.iconst 0) 1 0, e3 12 (.putfield 107) 3 18 7 0, e1 15 (.aload_n 0) 1 0, e3 16 (.getfield 30) 3 21 2 2, ec 19 (.iconst 0) 1 0, e3 20 (.putfield 111) 3 19 9 0, e1 23 (.aload_n 0) 1 0, e3 24 (.getfield 37) 3 21 3 2, ec 27 (.iconst 0) 1 0, e3 28 (.putfield 112) 3 14 4 0, e1 31 (.aload_n 0) 1 0, e3 32 (.getfield 46) 3 21 4 2, ec 35 (.iconst 0) 1 0, e3 36 (.putfield 113) 3 11 15 0, e1 39 (.aload_n 0) 1 0, e3 40 (.getfield 67) 3 21 6 2, ec 43 (.iconst 0) 1 0, e3 44 (.putfield 116) 3 12 6 0, e1 47 (.aload_n 0) 1 0, ec 48 (.iconst 0) 1 0, e3 49 (.putfield 117) 3 21 12 0, e1 52 (.aload_n 0) 1 0, ec 53 (.iconst 0) 1 0, e3 54 (.putfield 120) 3 21 13 0, e1 57 (.aload_n 0) 1 0, ec 58 (.iconst 0) 1 0, e3 59 (.putfield 123) 3 21 14 0, e1 62 (.aload_n 0) 1 0, ec 63 (.iconst 0) 1 0, e3 64 (.putfield 126) 3 21 15 0, e1 67 (.aload_n 0) 1 0, ec 68 (.iconst 0) 1 0, e3 69 (.putfield 129) 3 21 16 0, e0 72 (.return_) 1], 73)]
set_option maxRecDepth 100000 in
def K_X11_faulted : List XB := [(0, [true, true], [e1 0 (.aload_n 0) 1 0, e1 1 (.iload_n 1) 1 1, e3 2 (.putfield 126) 3 21 15 0, ec 5 (.bipush (-10)) 2 (-10), e1 7 (.iload_n 1) 1 1, e0 8 (.isub) 1, e1 9 (.ireturn) 1 0], 10)]
set_option maxRecDepth 100000 in
def K_X11_against : List XB := [(0, [true], [ec 0 (.bipush (-100)) 2 (-100), e1 2 (.iload_n 0) 1 0, e0 3 (.isub) 1, e1 4 (.ireturn) 1 0], 5)]
set_option maxRecDepth 100000 in
def K_X11_inRange : List XB := [(0, [true, true], [e1 0 (.iload_n 0) 1 0, e1 1 (.ifCond .lt 12) 3 13, e1 4 (.iload_n 0) 1 0, e1 5 (.iload_n 1) 1 1, e1 6 (.if_icmp .ge 7) 3 13, ec 9 (.iconst 1) 1 1, e1 10 (.goto 4) 3 14], 13),
  (13, [false, false], [ec 13 (.iconst 0) 1 0], 14),
  (14, [false, false], [e1 14 (.ireturn) 1 1], 15)]
set_option maxRecDepth 100000 in
def K_X11_kind : List XB := [(0, [true, true], [e1 0 (.aload_n 0) 1 0, e3 1 (.getfield 12) 3 21 0 2, e1 4 (.iload_n 1) 1 1, ei 5 (.invokevirtual 132) 3 10 3 2 0, e1 8 (.ifCond .ne 5) 3 13, ec 11 (.iconst (-1)) 1 (-1), e1 12 (.ireturn) 1 0], 13),
  (13, [true, true], [e1 13 (.aload_n 0) 1 0, e3 14 (.getfield 12) 3 21 0 2, e3 17 (.getfield 136) 3 10 1 0, ec 20 (.bipush 24) 2 24, e1 22 (.if_icmp .lt 6) 3 28, ec 25 (.bipush (-4)) 2 (-4), e1 27 (.ireturn) 1 0], 28),
  (28, [true, true], [e1 28 (.aload_n 0) 1 0, e3 29 (.getfield 12) 3 21 0 2, e1 32 (.iload_n 1) 1 1, ei 33 (.invokevirtual 137) 3 10 2 2 0, e1 36 (.ireturn) 1 0], 37)]
set_option maxRecDepth 100000 in
def K_X11_is : List XB := [(0, [true, true, true], [e1 0 (.aload_n 0) 1 0, e3 1 (.getfield 12) 3 21 0 2, e1 4 (.iload_n 1) 1 1, ei 5 (.invokevirtual 132) 3 10 3 2 0, e1 8 (.ifCond .eq 14) 3 22, e1 11 (.aload_n 0) 1 0, e3 12 (.getfield 12) 3 21 0 2, e1 15 (.iload_n 2) 1 2, ei 16 (.invokevirtual 132) 3 10 3 2 0, e1 19 (.ifCond .ne 5) 3 24], 22),
  (22, [false, false, false], [ec 22 (.iconst (-1)) 1 (-1), e1 23 (.ireturn) 1 0], 24),
  (24, [true, true, true], [e1 24 (.aload_n 0) 1 0, e3 25 (.getfield 12) 3 21 0 2, e1 28 (.iload_n 1) 1 1, e1 29 (.iload_n 2) 1 2, ei 30 (.invokevirtual 141) 3 10 4 3 0, e1 33 (.ifCond .eq 7) 3 40, ec 36 (.iconst 1) 1 1, e1 37 (.goto 4) 3 41], 40),
  (40, [false, false, false], [ec 40 (.iconst 0) 1 0], 41),
  (41, [false, false, false], [e1 41 (.ireturn) 1 0], 42)]
set_option maxRecDepth 100000 in
def K_X11_property : List XB := [(0, [true, true, true, true], [e1 0 (.aload_n 0) 1 0, e3 1 (.getfield 12) 3 21 0 2, e1 4 (.iload_n 1) 1 1, ei 5 (.invokevirtual 132) 3 10 3 2 0, e1 8 (.ifCond .eq 20) 3 28, e1 11 (.iload_n 2) 1 2, ec 12 (.bipush 8) 2 8, e1 14 (.if_icmp .ne 16) 3 30, e1 17 (.aload_n 0) 1 0, e3 18 (.getfield 12) 3 21 0 2, e1 21 (.iload_n 3) 1 3, ei 22 (.invokevirtual 132) 3 10 3 2 0, e1 25 (.ifCond .ne 5) 3 30], 28),
  (28, [false, false, false, false], [ec 28 (.iconst (-1)) 1 (-1), e1 29 (.ireturn) 1 0], 30),
  (30, [true, true, true, true], [e1 30 (.iload_n 2) 1 2, ec 31 (.bipush 9) 2 9, ei 33 (.invokestatic 145) 3 0 123 2 0, e1 36 (.ifCond .ne 6) 3 42, ec 39 (.bipush (-2)) 2 (-2), e1 41 (.ireturn) 1 0], 42),
  (42, [true, true, true, true], [e1 42 (.aload_n 0) 1 0, e3 43 (.getfield 30) 3 21 2 2, e3 46 (.getfield 111) 3 19 9 0, ec 49 (.bipush 12) 2 12, e1 51 (.if_icmp .lt 6) 3 57, ec 54 (.bipush (-4)) 2 (-4), e1 56 (.ireturn) 1 0], 57),
  (57, [true, true, true, true], [e1 57 (.aload_n 0) 1 0, e3 58 (.getfield 30) 3 21 2 2, e1 61 (.iload_n 1) 1 1, e1 62 (.iload_n 2) 1 2, e1 63 (.iload_n 2) 1 2, ec 64 (.bipush 8) 2 8, e1 66 (.if_icmp .ne 14) 3 80, e1 69 (.aload_n 0) 1 0, e3 70 (.getfield 12) 3 21 0 2, e1 73 (.iload_n 3) 1 3, ei 74 (.invokevirtual 148) 3 10 5 2 0, e1 77 (.goto 5) 3 82], 80),
  (80, [false, false, false, false], [ec 80 (.bipush (-9)) 2 (-9)], 82),
  (82, [false, false, false, false], [ei 82 (.invokevirtual 151) 3 19 104 4 0, e1 85 (.ireturn) 1 0], 86)]
set_option maxRecDepth 100000 in
def K_X11_usual : List XB := [(0, [true, true, true, true, false], [e1 0 (.aload_n 0) 1 0, e3 1 (.getfield 12) 3 21 0 2, e1 4 (.iload_n 1) 1 1, ei 5 (.invokevirtual 132) 3 10 3 2 0, e1 8 (.ifCond .eq 26) 3 34, e1 11 (.aload_n 0) 1 0, e3 12 (.getfield 30) 3 21 2 2, e1 15 (.iload_n 2) 1 2, ei 16 (.invokevirtual 154) 3 19 105 2 0, e1 19 (.ifCond .eq 15) 3 34, e1 22 (.aload_n 0) 1 0, e3 23 (.getfield 30) 3 21 2 2, e1 26 (.iload_n 2) 1 2, e1 27 (.lload_n 3) 1 3, ei 28 (.invokevirtual 155) 3 19 107 3 0, e1 31 (.ifCond .ne 5) 3 36], 34),
  (34, [false, false, false, false, false], [ec 34 (.iconst (-1)) 1 (-1), e1 35 (.ireturn) 1 0], 36),
  (36, [true, true, true, true, false], [e1 36 (.aload_n 0) 1 0, e3 37 (.getfield 12) 3 21 0 2, e1 40 (.iload_n 1) 1 1, e1 41 (.aload_n 0) 1 0, e3 42 (.getfield 30) 3 21 2 2, e3 45 (.getfield 159) 3 19 2 2, e1 48 (.iload_n 2) 1 2, e0 49 (.iaload) 1, ei 50 (.invokevirtual 141) 3 10 4 3 0, e1 53 (.ifCond .ne 6) 3 59, ec 56 (.bipush (-3)) 2 (-3), e1 58 (.ireturn) 1 0], 59),
  (59, [true, true, true, true, false], [e1 59 (.aload_n 0) 1 0, e3 60 (.getfield 30) 3 21 2 2, e1 63 (.iload_n 2) 1 2, e1 64 (.lload_n 3) 1 3, ei 65 (.invokevirtual 162) 3 19 108 3 0, e1 68 (.ifCond .ne 9) 3 77, e1 71 (.aload_n 0) 1 0, ec 72 (.iconst 4) 1 4, ei 73 (.invokevirtual 165) 3 21 121 2 0, e1 76 (.ireturn) 1 0], 77),
  (77, [true, true, true, true, false], [e1 77 (.aload_n 0) 1 0, e3 78 (.getfield 30) 3 21 2 2, e1 81 (.iload_n 1) 1 1, e1 82 (.iload_n 2) 1 2, e1 83 (.lload_n 3) 1 3, ei 84 (.invokevirtual 168) 3 19 110 4 3, ec 87 (.iconst 1) 1 1, e1 88 (.ireturn) 1 0], 89)]
set_option maxRecDepth 100000 in
def K_X11_thing : List XB := [(0, [true, true, true, false], [e1 0 (.aload_n 0) 1 0, e3 1 (.getfield 12) 3 21 0 2, e1 4 (.iload_n 1) 1 1, ei 5 (.invokevirtual 132) 3 10 3 2 0, e1 8 (.ifCond .ne 5) 3 13, ec 11 (.iconst (-1)) 1 (-1), e1 12 (.ireturn) 1 0], 13),
  (13, [true, true, true, false], [e1 13 (.iload_n 2) 1 2, e1 14 (.ifCond .lt 10) 3 24, e1 17 (.iload_n 2) 1 2, ec 18 (.sipush 1000) 3 1000, e1 21 (.if_icmp .le 6) 3 27], 24),
  (24, [false, false, false, false], [ec 24 (.bipush (-2)) 2 (-2), e1 26 (.ireturn) 1 0], 27),
  (27, [true, true, true, false], [e1 27 (.aload_n 0) 1 0, e3 28 (.getfield 21) 3 21 1 2, e3 31 (.getfield 107) 3 18 7 0, ec 34 (.bipush 64) 2 64, e1 36 (.if_icmp .lt 6) 3 42, ec 39 (.bipush (-4)) 2 (-4), e1 41 (.ireturn) 1 0], 42),
  (42, [true, true, true, false], [e1 42 (.aload_n 0) 1 0, e3 43 (.getfield 21) 3 21 1 2, e1 46 (.iload_n 1) 1 1, e1 47 (.iload_n 2) 1 2, ei 48 (.invokevirtual 172) 3 18 89 3 0, e1 51 (.istore_n 3) 1 3, e1 52 (.aload_n 0) 1 0, e3 53 (.getfield 46) 3 21 4 2, e1 56 (.iload_n 3) 1 3, ei 57 (.invokevirtual 175) 3 11 7 2 3, e1 60 (.aload_n 0) 1 0, e3 61 (.getfield 76) 3 21 7 2, e1 64 (.iload_n 3) 1 3, ei 65 (.invokevirtual 178) 3 13 50 2 3, e1 68 (.iload_n 3) 1 3, e1 69 (.ireturn) 1 0], 70)]
set_option maxRecDepth 100000 in
def K_X11_put : List XB := [(0, [true, true, true, false, false], [e1 0 (.aload_n 0) 1 0, e3 1 (.getfield 21) 3 21 1 2, e1 4 (.iload_n 1) 1 1, e0 5 (.i2l) 1, ei 6 (.invokevirtual 179) 3 18 90 2 0, e1 9 (.ifCond .eq 15) 3 24, e1 12 (.aload_n 0) 1 0, e3 13 (.getfield 21) 3 21 1 2, e1 16 (.iload_n 2) 1 2, e0 17 (.i2l) 1, ei 18 (.invokevirtual 179) 3 18 90 2 0, e1 21 (.ifCond .ne 5) 3 26], 24),
  (24, [false, false, false, false, false], [ec 24 (.iconst (-1)) 1 (-1), e1 25 (.ireturn) 1 0], 26),
  (26, [true, true, true, false, false], [e1 26 (.aload_n 0) 1 0, e3 27 (.getfield 21) 3 21 1 2, e1 30 (.iload_n 1) 1 1, e1 31 (.iload_n 2) 1 2, ei 32 (.invokevirtual 182) 3 18 100 3 0, e1 35 (.ifCond .eq 27) 3 62, e1 38 (.aload_n 0) 1 0, e3 39 (.getfield 46) 3 21 4 2, e1 42 (.iload_n 2) 1 2, e1 43 (.iload_n 1) 1 1, ei 44 (.invokevirtual 185) 3 11 12 3 0, e1 47 (.ifCond .ne 15) 3 62, e1 50 (.aload_n 0) 1 0, e3 51 (.getfield 46) 3 21 4 2, e1 54 (.iload_n 1) 1 1, e1 55 (.iload_n 2) 1 2, ei 56 (.invokevirtual 188) 3 11 10 3 0, e1 59 (.ifCond .eq 6) 3 65], 62),
  (62, [false, false, false, false, false], [ec 62 (.bipush (-3)) 2 (-3), e1 64 (.ireturn) 1 0], 65),
  (65, [true, true, true, false, false], [e1 65 (.aload_n 0) 1 0, e3 66 (.getfield 37) 3 21 3 2, ei 69 (.invokevirtual 191) 3 14 63 1 0, e1 72 (.ifCond .ne 14) 3 86, e1 75 (.aload_n 0) 1 0, e3 76 (.getfield 46) 3 21 4 2, e1 79 (.iload_n 1) 1 1, ei 80 (.invokevirtual 195) 3 11 11 2 0, e1 83 (.ifCond .eq 6) 3 89], 86),
  (86, [false, false, false, false, false], [ec 86 (.bipush (-4)) 2 (-4), e1 88 (.ireturn) 1 0], 89),
  (89, [true, true, true, false, false], [e1 89 (.aload_n 0) 1 0, e3 90 (.getfield 46) 3 21 4 2, e1 93 (.iload_n 1) 1 1, e1 94 (.iload_n 2) 1 2, ei 95 (.invokevirtual 198) 3 11 15 3 0, e1 98 (.istore_n 3) 1 3, e1 99 (.iload_n 3) 1 3, e1 100 (.ifCond .lt 8) 3 108, e1 103 (.iload_n 3) 1 3, ei 104 (.invokestatic 201) 3 0 122 1 0, e1 107 (.ireturn) 1 0], 108),
  (108, [true, true, true, false, false], [e1 108 (.aload_n 0) 1 0, e3 109 (.getfield 37) 3 21 3 2, ec 112 (.iconst 0) 1 0, e1 113 (.iload_n 1) 1 1, e1 114 (.iload_n 2) 1 2, ec 115 (.bipush (-9)) 2 (-9), ei 117 (.invokevirtual 204) 3 14 64 5 0, e1 120 (.istore 4) 2 4, e1 122 (.aload_n 0) 1 0, e3 123 (.getfield 46) 3 21 4 2, e1 126 (.iload_n 1) 1 1, e1 127 (.iload_n 2) 1 2, e1 128 (.iload 4) 2 4, ei 130 (.invokevirtual 207) 3 11 13 4 3, e1 133 (.iload 4) 2 4, e1 135 (.ireturn) 1 0], 136)]
set_option maxRecDepth 100000 in
def K_X11_bar : List XB := [(0, [true, true, true, false], [e1 0 (.aload_n 0) 1 0, e3 1 (.getfield 21) 3 21 1 2, e1 4 (.iload_n 1) 1 1, e0 5 (.i2l) 1, ei 6 (.invokevirtual 179) 3 18 90 2 0, e1 9 (.ifCond .eq 15) 3 24, e1 12 (.aload_n 0) 1 0, e3 13 (.getfield 21) 3 21 1 2, e1 16 (.iload_n 2) 1 2, e0 17 (.i2l) 1, ei 18 (.invokevirtual 179) 3 18 90 2 0, e1 21 (.ifCond .ne 5) 3 26], 24),
  (24, [false, false, false, false], [ec 24 (.iconst (-1)) 1 (-1), e1 25 (.ireturn) 1 0], 26),
  (26, [true, true, true, false], [e1 26 (.aload_n 0) 1 0, e3 27 (.getfield 21) 3 21 1 2, e1 30 (.iload_n 1) 1 1, ei 31 (.invokevirtual 211) 3 18 98 2 0, e1 34 (.ifCond .ne 14) 3 48, e1 37 (.aload_n 0) 1 0, e3 38 (.getfield 21) 3 21 1 2, e1 41 (.iload_n 2) 1 2, ei 42 (.invokevirtual 214) 3 18 96 2 0, e1 45 (.ifCond .ne 6) 3 51], 48),
  (48, [false, false, false, false], [ec 48 (.bipush (-3)) 2 (-3), e1 50 (.ireturn) 1 0], 51),
  (51, [true, true, true, false], [e1 51 (.aload_n 0) 1 0, e3 52 (.getfield 37) 3 21 3 2, ei 55 (.invokevirtual 191) 3 14 63 1 0, e1 58 (.ifCond .eq 6) 3 64, ec 61 (.bipush (-4)) 2 (-4), e1 63 (.ireturn) 1 0], 64),
  (64, [true, true, true, false], [e1 64 (.aload_n 0) 1 0, e3 65 (.getfield 46) 3 21 4 2, e1 68 (.iload_n 1) 1 1, e1 69 (.iload_n 2) 1 2, ei 70 (.invokevirtual 217) 3 11 19 3 0, e1 73 (.istore_n 3) 1 3, e1 74 (.iload_n 3) 1 3, e1 75 (.ifCond .lt 8) 3 83, e1 78 (.iload_n 3) 1 3, ei 79 (.invokestatic 201) 3 0 122 1 0, e1 82 (.ireturn) 1 0], 83),
  (83, [true, true, true, false], [e1 83 (.aload_n 0) 1 0, e3 84 (.getfield 46) 3 21 4 2, e1 87 (.iload_n 1) 1 1, e1 88 (.iload_n 2) 1 2, ei 89 (.invokevirtual 220) 3 11 20 3 3, e1 92 (.aload_n 0) 1 0, e3 93 (.getfield 37) 3 21 3 2, ec 96 (.iconst 1) 1 1, e1 97 (.iload_n 1) 1 1, e1 98 (.iload_n 2) 1 2, ec 99 (.bipush (-9)) 2 (-9), ei 101 (.invokevirtual 204) 3 14 64 5 0, e1 104 (.ireturn) 1 0], 105)]
set_option maxRecDepth 100000 in
def K_X11_give : List XB := [(0, [true, true, true, true, false, false], [e1 0 (.aload_n 0) 1 0, e3 1 (.getfield 21) 3 21 1 2, e1 4 (.iload_n 1) 1 1, e0 5 (.i2l) 1, ei 6 (.invokevirtual 179) 3 18 90 2 0, e1 9 (.ifCond .eq 26) 3 35, e1 12 (.aload_n 0) 1 0, e3 13 (.getfield 30) 3 21 2 2, e1 16 (.iload_n 2) 1 2, ei 17 (.invokevirtual 154) 3 19 105 2 0, e1 20 (.ifCond .eq 15) 3 35, e1 23 (.aload_n 0) 1 0, e3 24 (.getfield 30) 3 21 2 2, e1 27 (.iload_n 2) 1 2, e1 28 (.lload_n 3) 1 3, ei 29 (.invokevirtual 155) 3 19 107 3 0, e1 32 (.ifCond .ne 5) 3 37], 35),
  (35, [false, false, false, false, false, false], [ec 35 (.iconst (-1)) 1 (-1), e1 36 (.ireturn) 1 0], 37),
  (37, [true, true, true, true, false, false], [e1 37 (.aload_n 0) 1 0, e3 38 (.getfield 30) 3 21 2 2, e1 41 (.iload_n 1) 1 1, e1 42 (.iload_n 2) 1 2, ei 43 (.invokevirtual 224) 3 19 109 3 0, e1 46 (.ifCond .ne 6) 3 52, ec 49 (.bipush (-3)) 2 (-3), e1 51 (.ireturn) 1 0], 52),
  (52, [true, true, true, true, false, false], [e1 52 (.aload_n 0) 1 0, e3 53 (.getfield 37) 3 21 3 2, ei 56 (.invokevirtual 191) 3 14 63 1 0, e1 59 (.ifCond .eq 6) 3 65, ec 62 (.bipush (-4)) 2 (-4), e1 64 (.ireturn) 1 0], 65),
  (65, [true, true, true, true, false, false], [e1 65 (.aload_n 0) 1 0, e3 66 (.getfield 30) 3 21 2 2, e1 69 (.iload_n 2) 1 2, e1 70 (.lload_n 3) 1 3, ei 71 (.invokevirtual 162) 3 19 108 3 0, e1 74 (.ifCond .ne 9) 3 83, e1 77 (.aload_n 0) 1 0, ec 78 (.iconst 4) 1 4, ei 79 (.invokevirtual 165) 3 21 121 2 0, e1 82 (.ireturn) 1 0], 83),
  (83, [true, true, true, true, false, false], [e1 83 (.aload_n 0) 1 0, e3 84 (.getfield 30) 3 21 2 2, e1 87 (.iload_n 1) 1 1, e1 88 (.iload_n 2) 1 2, e1 89 (.lload_n 3) 1 3, ei 90 (.invokevirtual 227) 3 19 114 4 0, e1 93 (.ifCond .eq 16) 3 109, e1 96 (.aload_n 0) 1 0, e3 97 (.getfield 30) 3 21 2 2, e1 100 (.iload_n 1) 1 1, e1 101 (.iload_n 2) 1 2, ei 102 (.invokevirtual 231) 3 19 112 3 0, ei 105 (.invokestatic 201) 3 0 122 1 0, e1 108 (.ireturn) 1 0], 109),
  (109, [true, true, true, true, false, false], [e1 109 (.aload_n 0) 1 0, e3 110 (.getfield 37) 3 21 3 2, ec 113 (.iconst 2) 1 2, e1 114 (.iload_n 1) 1 1, e1 115 (.iload_n 2) 1 2, ec 116 (.bipush (-9)) 2 (-9), ei 118 (.invokevirtual 204) 3 14 64 5 0, e1 121 (.istore 5) 2 5, e1 123 (.aload_n 0) 1 0, e3 124 (.getfield 30) 3 21 2 2, e1 127 (.iload_n 1) 1 1, e1 128 (.iload_n 2) 1 2, e1 129 (.lload_n 3) 1 3, e1 130 (.iload 5) 2 5, ei 132 (.invokevirtual 234) 3 19 111 5 3, e1 135 (.iload 5) 2 5, e1 137 (.ireturn) 1 0], 138)]
set_option maxRecDepth 100000 in
def K_X11_value : List XB := [(0, [true, true, true], [e1 0 (.aload_n 0) 1 0, e3 1 (.getfield 21) 3 21 1 2, e1 4 (.iload_n 1) 1 1, e0 5 (.i2l) 1, ei 6 (.invokevirtual 179) 3 18 90 2 0, e1 9 (.ifCond .eq 14) 3 23, e1 12 (.aload_n 0) 1 0, e3 13 (.getfield 30) 3 21 2 2, e1 16 (.iload_n 2) 1 2, ei 17 (.invokevirtual 154) 3 19 105 2 0, e1 20 (.ifCond .ne 7) 3 27], 23),
  (23, [false, false, false], [ec 23 (.ldc2_w 238) 3 (-1), e0 26 (.lreturn) 1], 27),
  (27, [true, true, true], [e1 27 (.aload_n 0) 1 0, e3 28 (.getfield 30) 3 21 2 2, e1 31 (.iload_n 1) 1 1, e1 32 (.iload_n 2) 1 2, ei 33 (.invokevirtual 224) 3 19 109 3 0, e1 36 (.ifCond .ne 7) 3 43, ec 39 (.ldc2_w 240) 3 (-3), e0 42 (.lreturn) 1], 43),
  (43, [true, true, true], [e1 43 (.aload_n 0) 1 0, e3 44 (.getfield 30) 3 21 2 2, e1 47 (.iload_n 1) 1 1, e1 48 (.iload_n 2) 1 2, ei 49 (.invokevirtual 242) 3 19 115 3 1, e0 52 (.lreturn) 1], 53)]
set_option maxRecDepth 100000 in
def K_X11_given : List XB := [(0, [true, true, true], [e1 0 (.aload_n 0) 1 0, e3 1 (.getfield 21) 3 21 1 2, e1 4 (.iload_n 1) 1 1, e0 5 (.i2l) 1, ei 6 (.invokevirtual 179) 3 18 90 2 0, e1 9 (.ifCond .eq 14) 3 23, e1 12 (.aload_n 0) 1 0, e3 13 (.getfield 30) 3 21 2 2, e1 16 (.iload_n 2) 1 2, ei 17 (.invokevirtual 154) 3 19 105 2 0, e1 20 (.ifCond .ne 5) 3 25], 23),
  (23, [false, false, false], [ec 23 (.iconst (-1)) 1 (-1), e1 24 (.ireturn) 1 0], 25),
  (25, [true, true, true], [e1 25 (.aload_n 0) 1 0, e3 26 (.getfield 30) 3 21 2 2, e1 29 (.iload_n 1) 1 1, e1 30 (.iload_n 2) 1 2, ei 31 (.invokevirtual 231) 3 19 112 3 0, e1 34 (.ireturn) 1 0], 35)]
set_option maxRecDepth 100000 in
def K_X11_peek : List XB := [(0, [true, true, true, true], [e1 0 (.aload_n 0) 1 0, e3 1 (.getfield 30) 3 21 2 2, e1 4 (.iload_n 1) 1 1, ei 5 (.invokevirtual 154) 3 19 105 2 0, e1 8 (.ifCond .ne 7) 3 15, ec 11 (.ldc2_w 238) 3 (-1), e0 14 (.lreturn) 1], 15),
  (15, [true, true, true, true], [e1 15 (.iload_n 2) 1 2, ec 16 (.bipush 9) 2 9, ei 18 (.invokestatic 145) 3 0 123 2 0, e1 21 (.ifCond .ne 7) 3 28, ec 24 (.ldc2_w 246) 3 (-2), e0 27 (.lreturn) 1], 28),
  (28, [true, true, true, true], [e1 28 (.iload_n 2) 1 2, e1 29 (.aload_n 0) 1 0, e3 30 (.getfield 30) 3 21 2 2, e3 33 (.getfield 248) 3 19 3 2, e1 36 (.iload_n 1) 1 1, e0 37 (.iaload) 1, e1 38 (.if_icmp .eq 10) 3 48, e1 41 (.aload_n 0) 1 0, ec 42 (.iconst 3) 1 3, ei 43 (.invokevirtual 165) 3 21 121 2 0, e0 46 (.i2l) 1, e0 47 (.lreturn) 1], 48),
  (48, [true, true, false, true], [e1 48 (.iload_n 3) 1 3, ec 49 (.bipush 64) 2 64, ei 51 (.invokestatic 145) 3 0 123 2 0, e1 54 (.ifCond .ne 10) 3 64, e1 57 (.aload_n 0) 1 0, ec 58 (.iconst 2) 1 2, ei 59 (.invokevirtual 165) 3 21 121 2 0, e0 62 (.i2l) 1, e0 63 (.lreturn) 1], 64),
  (64, [true, true, false, true], [e1 64 (.aload_n 0) 1 0, e3 65 (.getfield 30) 3 21 2 2, e1 68 (.iload_n 3) 1 3, e1 69 (.iload_n 1) 1 1, ei 70 (.invokevirtual 251) 3 19 113 3 1, e0 73 (.lreturn) 1], 74)]
set_option maxRecDepth 100000 in
def K_X11_place : List XB := [(0, [true, true, true], [e1 0 (.aload_n 0) 1 0, e3 1 (.getfield 21) 3 21 1 2, e1 4 (.iload_n 1) 1 1, e0 5 (.i2l) 1, ei 6 (.invokevirtual 179) 3 18 90 2 0, e1 9 (.ifCond .ne 5) 3 14, ec 12 (.iconst (-1)) 1 (-1), e1 13 (.ireturn) 1 0], 14),
  (14, [true, true, true], [e1 14 (.aload_n 0) 1 0, e3 15 (.getfield 46) 3 21 4 2, e1 18 (.iload_n 1) 1 1, e1 19 (.iload_n 2) 1 2, ei 20 (.invokevirtual 254) 3 11 8 3 0, e1 23 (.ireturn) 1 0], 24)]
set_option maxRecDepth 100000 in
def K_X11_says : List XB := [(0, [true, true, true], [e1 0 (.aload_n 0) 1 0, e3 1 (.getfield 21) 3 21 1 2, e1 4 (.iload_n 1) 1 1, e0 5 (.i2l) 1, ei 6 (.invokevirtual 179) 3 18 90 2 0, e1 9 (.ifCond .ne 5) 3 14, ec 12 (.iconst (-1)) 1 (-1), e1 13 (.ireturn) 1 0], 14),
  (14, [true, true, true], [e1 14 (.iload_n 2) 1 2, e1 15 (.ifCond .lt 8) 3 23, e1 18 (.iload_n 2) 1 2, ec 19 (.iconst 4) 1 4, e1 20 (.if_icmp .le 6) 3 26], 23),
  (23, [false, false, false], [ec 23 (.bipush (-2)) 2 (-2), e1 25 (.ireturn) 1 0], 26),
  (26, [true, true, true], [e1 26 (.aload_n 0) 1 0, e1 27 (.iload_n 1) 1 1, e1 28 (.iload_n 2) 1 2, ei 29 (.invokevirtual 257) 3 21 137 3 0, e1 32 (.ireturn) 1 0], 33)]
set_option maxRecDepth 100000 in
def K_X11_saying : List XB := [(0, [true, true, true], [e1 0 (.iload_n 2) 1 2, es 1 (.tableswitch 105 0 3 #[31, 40, 49, 77]) 31 0 106 [32, 41, 50, 78]], 32),
  (32, [true, true, false], [e1 32 (.aload_n 0) 1 0, e3 33 (.getfield 46) 3 21 4 2, e1 36 (.iload_n 1) 1 1, ei 37 (.invokevirtual 260) 3 11 32 2 0, e1 40 (.ireturn) 1 0], 41),
  (41, [true, true, false], [e1 41 (.aload_n 0) 1 0, e3 42 (.getfield 21) 3 21 1 2, e1 45 (.iload_n 1) 1 1, ei 46 (.invokevirtual 263) 3 18 101 2 0, e1 49 (.ireturn) 1 0], 50),
  (50, [true, true, false], [e1 50 (.aload_n 0) 1 0, e3 51 (.getfield 21) 3 21 1 2, e1 54 (.iload_n 1) 1 1, ei 55 (.invokevirtual 214) 3 18 96 2 0, e1 58 (.ifCond .eq 14) 3 72, e1 61 (.aload_n 0) 1 0, e3 62 (.getfield 46) 3 21 4 2, e1 65 (.iload_n 1) 1 1, ei 66 (.invokevirtual 266) 3 11 34 2 0, e1 69 (.goto 8) 3 77], 72),
  (72, [true, false, false], [e1 72 (.aload_n 0) 1 0, ec 73 (.iconst 3) 1 3, ei 74 (.invokevirtual 165) 3 21 121 2 0], 77),
  (77, [false, false, false], [e1 77 (.ireturn) 1 0], 78),
  (78, [true, true, false], [e1 78 (.aload_n 0) 1 0, e3 79 (.getfield 21) 3 21 1 2, e1 82 (.iload_n 1) 1 1, ei 83 (.invokevirtual 269) 3 18 97 2 0, e1 86 (.ifCond .eq 14) 3 100, e1 89 (.aload_n 0) 1 0, e3 90 (.getfield 21) 3 21 1 2, e1 93 (.iload_n 1) 1 1, ei 94 (.invokevirtual 272) 3 18 102 2 0, e1 97 (.goto 8) 3 105], 100),
  (100, [true, false, false], [e1 100 (.aload_n 0) 1 0, ec 101 (.iconst 3) 1 3, ei 102 (.invokevirtual 165) 3 21 121 2 0], 105),
  (105, [false, false, false], [e1 105 (.ireturn) 1 0], 106),
  (106, [true, true, false], [e1 106 (.aload_n 0) 1 0, e3 107 (.getfield 21) 3 21 1 2, e3 110 (.getfield 275) 3 18 2 2, e1 113 (.iload_n 1) 1 1, e0 114 (.iaload) 1, ec 115 (.iconst 5) 1 5, e1 116 (.if_icmp .ne 11) 3 127, e1 119 (.aload_n 0) 1 0, e1 120 (.iload_n 1) 1 1, ei 121 (.invokevirtual 278) 3 21 138 2 0, e1 124 (.goto 8) 3 132], 127),
  (127, [true, false, false], [e1 127 (.aload_n 0) 1 0, ec 128 (.iconst 3) 1 3, ei 129 (.invokevirtual 165) 3 21 121 2 0], 132),
  (132, [false, false, false], [e1 132 (.ireturn) 1 0], 133)]
set_option maxRecDepth 100000 in
def K_X11_stride : List XB := [(0, [true, true, false], [e1 0 (.aload_n 0) 1 0, e3 1 (.getfield 46) 3 21 4 2, e1 4 (.iload_n 1) 1 1, ei 5 (.invokevirtual 266) 3 11 34 2 0, e1 8 (.istore_n 2) 1 2, e1 9 (.iload_n 2) 1 2, e1 10 (.ifCond .ne 12) 3 22, e1 13 (.aload_n 0) 1 0, ec 14 (.bipush 6) 2 6, ei 16 (.invokevirtual 165) 3 21 121 2 0, e1 19 (.goto 8) 3 27], 22),
  (22, [false, false, true], [ec 22 (.sipush 1000) 3 1000, e1 25 (.iload_n 2) 1 2, e0 26 (.idiv) 1], 27),
  (27, [false, false, false], [e1 27 (.ireturn) 1 0], 28)]
set_option maxRecDepth 100000 in
def K_X11_follow : List XB := [(0, [true, true, true, true, false, false], [e1 0 (.aload_n 0) 1 0, e3 1 (.getfield 21) 3 21 1 2, e1 4 (.iload_n 1) 1 1, e0 5 (.i2l) 1, ei 6 (.invokevirtual 179) 3 18 90 2 0, e1 9 (.ifCond .eq 14) 3 23, e1 12 (.aload_n 0) 1 0, e3 13 (.getfield 30) 3 21 2 2, e1 16 (.iload_n 2) 1 2, ei 17 (.invokevirtual 154) 3 19 105 2 0, e1 20 (.ifCond .ne 5) 3 25], 23),
  (23, [false, false, false, false, false, false], [ec 23 (.iconst (-1)) 1 (-1), e1 24 (.ireturn) 1 0], 25),
  (25, [true, true, true, true, false, false], [e1 25 (.iload_n 3) 1 3, e1 26 (.ifCond .lt 8) 3 34, e1 29 (.iload_n 3) 1 3, ec 30 (.iconst 4) 1 4, e1 31 (.if_icmp .le 6) 3 37], 34),
  (34, [false, false, false, false, false, false], [ec 34 (.bipush (-2)) 2 (-2), e1 36 (.ireturn) 1 0], 37),
  (37, [true, true, true, true, false, false], [e1 37 (.aload_n 0) 1 0, e3 38 (.getfield 30) 3 21 2 2, e1 41 (.iload_n 1) 1 1, e1 42 (.iload_n 2) 1 2, ei 43 (.invokevirtual 224) 3 19 109 3 0, e1 46 (.ifCond .ne 6) 3 52, ec 49 (.bipush (-3)) 2 (-3), e1 51 (.ireturn) 1 0], 52),
  (52, [true, true, true, true, false, false], [e1 52 (.aload_n 0) 1 0, e3 53 (.getfield 30) 3 21 2 2, e3 56 (.getfield 248) 3 19 3 2, e1 59 (.iload_n 2) 1 2, e0 60 (.iaload) 1, ec 61 (.bipush 8) 2 8, e1 63 (.if_icmp .eq 9) 3 72, e1 66 (.aload_n 0) 1 0, ec 67 (.iconst 3) 1 3, ei 68 (.invokevirtual 165) 3 21 121 2 0, e1 71 (.ireturn) 1 0], 72),
  (72, [true, true, true, true, false, false], [e1 72 (.aload_n 0) 1 0, e3 73 (.getfield 30) 3 21 2 2, e1 76 (.iload_n 1) 1 1, e1 77 (.iload_n 2) 1 2, ei 78 (.invokevirtual 242) 3 19 115 3 1, e1 81 (.lstore 4) 2 4, e1 83 (.aload_n 0) 1 0, e3 84 (.getfield 21) 3 21 1 2, e1 87 (.lload 4) 2 4, ei 89 (.invokevirtual 179) 3 18 90 2 0, e1 92 (.ifCond .eq 14) 3 106, e1 95 (.aload_n 0) 1 0, e1 96 (.lload 4) 2 4, e0 98 (.l2i) 1, e1 99 (.iload_n 3) 1 3, ei 100 (.invokevirtual 257) 3 21 137 3 0, e1 103 (.goto 8) 3 111], 106),
  (106, [true, false, false, false, false, false], [e1 106 (.aload_n 0) 1 0, ec 107 (.iconst 1) 1 1, ei 108 (.invokevirtual 165) 3 21 121 2 0], 111),
  (111, [false, false, false, false, false, false], [e1 111 (.ireturn) 1 0], 112)]
set_option maxRecDepth 100000 in
def K_X11_mark : List XB := [(0, [true, true, true], [e1 0 (.aload_n 0) 1 0, e3 1 (.getfield 21) 3 21 1 2, e1 4 (.iload_n 1) 1 1, e0 5 (.i2l) 1, ei 6 (.invokevirtual 179) 3 18 90 2 0, e1 9 (.ifCond .ne 5) 3 14, ec 12 (.iconst (-1)) 1 (-1), e1 13 (.ireturn) 1 0], 14),
  (14, [true, true, true], [e1 14 (.iload_n 2) 1 2, e1 15 (.ifCond .eq 11) 3 26, e1 18 (.iload_n 2) 1 2, ec 19 (.iconst 1) 1 1, e1 20 (.if_icmp .eq 6) 3 26, ec 23 (.bipush (-2)) 2 (-2), e1 25 (.ireturn) 1 0], 26),
  (26, [true, true, true], [e1 26 (.iload_n 2) 1 2, ec 27 (.iconst 1) 1 1, e1 28 (.if_icmp .ne 20) 3 48, e1 31 (.aload_n 0) 1 0, e3 32 (.getfield 21) 3 21 1 2, e1 35 (.iload_n 1) 1 1, ei 36 (.invokevirtual 269) 3 18 97 2 0, e1 39 (.ifCond .ne 9) 3 48, e1 42 (.aload_n 0) 1 0, ec 43 (.iconst 3) 1 3, ei 44 (.invokevirtual 165) 3 21 121 2 0, e1 47 (.ireturn) 1 0], 48),
  (48, [true, true, true], [e1 48 (.iload_n 2) 1 2, e1 49 (.ifCond .ne 15) 3 64, e1 52 (.aload_n 0) 1 0, e3 53 (.getfield 21) 3 21 1 2, e3 56 (.getfield 281) 3 18 4 2, e1 59 (.iload_n 1) 1 1, e0 60 (.iaload) 1, e1 61 (.goto 12) 3 73], 64),
  (64, [true, true, false], [e1 64 (.aload_n 0) 1 0, e3 65 (.getfield 21) 3 21 1 2, e3 68 (.getfield 284) 3 18 5 2, e1 71 (.iload_n 1) 1 1, e0 72 (.iaload) 1], 73),
  (73, [false, false, false], [e1 73 (.ireturn) 1 0], 74)]
set_option maxRecDepth 100000 in
def K_X11_remark : List XB := [(0, [true, true, true, true, false, false], [e1 0 (.aload_n 0) 1 0, e3 1 (.getfield 21) 3 21 1 2, e1 4 (.iload_n 1) 1 1, e0 5 (.i2l) 1, ei 6 (.invokevirtual 179) 3 18 90 2 0, e1 9 (.ifCond .ne 5) 3 14, ec 12 (.iconst (-1)) 1 (-1), e1 13 (.ireturn) 1 0], 14),
  (14, [true, true, true, true, false, false], [e1 14 (.iload_n 2) 1 2, e1 15 (.ifCond .eq 8) 3 23, e1 18 (.iload_n 2) 1 2, ec 19 (.iconst 1) 1 1, e1 20 (.if_icmp .ne 14) 3 34], 23),
  (23, [true, true, true, true, false, false], [e1 23 (.iload_n 3) 1 3, e1 24 (.ifCond .lt 10) 3 34, e1 27 (.iload_n 3) 1 3, ec 28 (.sipush 1000) 3 1000, e1 31 (.if_icmp .le 6) 3 37], 34),
  (34, [false, false, false, false, false, false], [ec 34 (.bipush (-2)) 2 (-2), e1 36 (.ireturn) 1 0], 37),
  (37, [true, true, true, true, false, false], [e1 37 (.iload_n 2) 1 2, ec 38 (.iconst 1) 1 1, e1 39 (.if_icmp .ne 20) 3 59, e1 42 (.aload_n 0) 1 0, e3 43 (.getfield 21) 3 21 1 2, e1 46 (.iload_n 1) 1 1, ei 47 (.invokevirtual 269) 3 18 97 2 0, e1 50 (.ifCond .ne 9) 3 59, e1 53 (.aload_n 0) 1 0, ec 54 (.iconst 3) 1 3, ei 55 (.invokevirtual 165) 3 21 121 2 0, e1 58 (.ireturn) 1 0], 59),
  (59, [true, true, true, true, false, false], [e1 59 (.iload_n 2) 1 2, e1 60 (.ifCond .ne 13) 3 73, e1 63 (.aload_n 0) 1 0, e3 64 (.getfield 21) 3 21 1 2, e3 67 (.getfield 281) 3 18 4 2, e1 70 (.goto 10) 3 80], 73),
  (73, [true, true, false, true, false, false], [e1 73 (.aload_n 0) 1 0, e3 74 (.getfield 21) 3 21 1 2, e3 77 (.getfield 284) 3 18 5 2], 80),
  (80, [false, true, false, true, false, false], [e1 80 (.astore 4) 2 4, e1 82 (.aload 4) 2 4, e1 84 (.iload_n 1) 1 1, e0 85 (.iaload) 1, e1 86 (.istore 5) 2 5, e1 88 (.aload 4) 2 4, e1 90 (.iload_n 1) 1 1, e1 91 (.iload_n 3) 1 3, e0 92 (.iastore) 1, e1 93 (.iload 5) 2 5, e1 95 (.ireturn) 1 0], 96)]
set_option maxRecDepth 100000 in
def K_X11_open : List XB := [(0, [true, true, true, false], [e1 0 (.aload_n 0) 1 0, e3 1 (.getfield 21) 3 21 1 2, e1 4 (.iload_n 1) 1 1, e0 5 (.i2l) 1, ei 6 (.invokevirtual 179) 3 18 90 2 0, e1 9 (.ifCond .ne 5) 3 14, ec 12 (.iconst (-1)) 1 (-1), e1 13 (.ireturn) 1 0], 14),
  (14, [true, true, true, false], [e1 14 (.aload_n 0) 1 0, e3 15 (.getfield 21) 3 21 1 2, e1 18 (.iload_n 1) 1 1, ei 19 (.invokevirtual 269) 3 18 97 2 0, e1 22 (.ifCond .ne 9) 3 31, e1 25 (.aload_n 0) 1 0, ec 26 (.iconst 3) 1 3, ei 27 (.invokevirtual 165) 3 21 121 2 0, e1 30 (.ireturn) 1 0], 31),
  (31, [true, true, true, false], [e1 31 (.aload_n 0) 1 0, e3 32 (.getfield 21) 3 21 1 2, e3 35 (.getfield 287) 3 18 6 2, e1 38 (.iload_n 1) 1 1, e0 39 (.baload) 1, e1 40 (.ifCond .eq 7) 3 47, ec 43 (.iconst 1) 1 1, e1 44 (.goto 4) 3 48], 47),
  (47, [true, true, true, false], [ec 47 (.iconst 0) 1 0], 48),
  (48, [true, true, true, false], [e1 48 (.istore_n 3) 1 3, e1 49 (.aload_n 0) 1 0, e3 50 (.getfield 21) 3 21 1 2, e3 53 (.getfield 287) 3 18 6 2, e1 56 (.iload_n 1) 1 1, e1 57 (.iload_n 2) 1 2, e0 58 (.bastore) 1, e1 59 (.iload_n 3) 1 3, e1 60 (.ireturn) 1 0], 61)]
set_option maxRecDepth 100000 in
def K_X11_among : List XB := [(0, [true, true, true, false, false, false], [e1 0 (.aload_n 0) 1 0, e3 1 (.getfield 21) 3 21 1 2, e1 4 (.iload_n 1) 1 1, e0 5 (.i2l) 1, ei 6 (.invokevirtual 179) 3 18 90 2 0, e1 9 (.ifCond .eq 21) 3 30, e1 12 (.lload_n 2) 1 2, e1 13 (.aload_n 0) 1 0, e3 14 (.getfield 21) 3 21 1 2, ei 17 (.invokevirtual 291) 3 18 91 1 1, ec 20 (.ldc2_w 238) 3 (-1), e0 23 (.lxor) 1, e0 24 (.land) 1, ec 25 (.lconst 0) 1 0, e0 26 (.lcmp) 1, e1 27 (.ifCond .eq 5) 3 32], 30),
  (30, [false, false, false, false, false, false], [ec 30 (.iconst (-1)) 1 (-1), e1 31 (.ireturn) 1 0], 32),
  (32, [true, true, true, false, false, false], [e1 32 (.lload_n 2) 1 2, ec 33 (.lconst 0) 1 0, e0 34 (.lcmp) 1, e1 35 (.ifCond .ne 6) 3 41, ec 38 (.bipush (-2)) 2 (-2), e1 40 (.ireturn) 1 0], 41),
  (41, [true, true, true, false, false, false], [e1 41 (.aload_n 0) 1 0, e3 42 (.getfield 21) 3 21 1 2, e1 45 (.iload_n 1) 1 1, ei 46 (.invokevirtual 295) 3 18 99 2 0, e1 49 (.ifCond .eq 32) 3 81, e1 52 (.lload_n 2) 1 2, e1 53 (.iload_n 1) 1 1, ei 54 (.invokestatic 298) 3 0 186 1 1, e0 57 (.land) 1, ec 58 (.lconst 0) 1 0, e0 59 (.lcmp) 1, e1 60 (.ifCond .ne 21) 3 81, e1 63 (.lload_n 2) 1 2, e1 64 (.aload_n 0) 1 0, e3 65 (.getfield 21) 3 21 1 2, ei 68 (.invokevirtual 302) 3 18 92 1 1, ec 71 (.ldc2_w 238) 3 (-1), e0 74 (.lxor) 1, e0 75 (.land) 1, ec 76 (.lconst 0) 1 0, e0 77 (.lcmp) 1, e1 78 (.ifCond .eq 6) 3 84], 81),
  (81, [false, false, false, false, false, false], [ec 81 (.bipush (-3)) 2 (-3), e1 83 (.ireturn) 1 0], 84),
  (84, [true, true, true, false, false, false], [e1 84 (.aload_n 0) 1 0, e3 85 (.getfield 37) 3 21 3 2, ei 88 (.invokevirtual 191) 3 14 63 1 0, e1 91 (.ifCond .eq 6) 3 97, ec 94 (.bipush (-4)) 2 (-4), e1 96 (.ireturn) 1 0], 97),
  (97, [true, true, true, false, false, false], [e1 97 (.aload_n 0) 1 0, e3 98 (.getfield 46) 3 21 4 2, e1 101 (.iload_n 1) 1 1, e1 102 (.lload_n 2) 1 2, ei 103 (.invokevirtual 305) 3 11 21 3 0, e1 106 (.istore 4) 2 4, e1 108 (.iload 4) 2 4, e1 110 (.ifCond .lt 9) 3 119, e1 113 (.iload 4) 2 4, ei 115 (.invokestatic 201) 3 0 122 1 0, e1 118 (.ireturn) 1 0], 119),
  (119, [true, true, true, false, false, false], [e1 119 (.aload_n 0) 1 0, e3 120 (.getfield 37) 3 21 3 2, ec 123 (.iconst 3) 1 3, e1 124 (.iload_n 1) 1 1, e1 125 (.lload_n 2) 1 2, e0 126 (.l2i) 1, ec 127 (.bipush (-9)) 2 (-9), ei 129 (.invokevirtual 204) 3 14 64 5 0, e1 132 (.istore 5) 2 5, e1 134 (.aload_n 0) 1 0, e3 135 (.getfield 46) 3 21 4 2, e1 138 (.iload_n 1) 1 1, e1 139 (.lload_n 2) 1 2, e1 140 (.iload 5) 2 5, ei 142 (.invokevirtual 309) 3 11 23 4 3, e1 145 (.iload 5) 2 5, e1 147 (.ireturn) 1 0], 148)]
set_option maxRecDepth 100000 in
def K_X11_pair : List XB := [(0, [true, true, true, true, false, false], [e1 0 (.aload_n 0) 1 0, e3 1 (.getfield 21) 3 21 1 2, e1 4 (.iload_n 1) 1 1, e0 5 (.i2l) 1, ei 6 (.invokevirtual 179) 3 18 90 2 0, e1 9 (.ifCond .eq 15) 3 24, e1 12 (.aload_n 0) 1 0, e3 13 (.getfield 21) 3 21 1 2, e1 16 (.iload_n 2) 1 2, e0 17 (.i2l) 1, ei 18 (.invokevirtual 179) 3 18 90 2 0, e1 21 (.ifCond .ne 5) 3 26], 24),
  (24, [false, false, false, false, false, false], [ec 24 (.iconst (-1)) 1 (-1), e1 25 (.ireturn) 1 0], 26),
  (26, [true, true, true, true, false, false], [e1 26 (.iload_n 1) 1 1, e1 27 (.iload_n 2) 1 2, e1 28 (.if_icmp .eq 25) 3 53, e1 31 (.aload_n 0) 1 0, e3 32 (.getfield 21) 3 21 1 2, e1 35 (.iload_n 1) 1 1, ei 36 (.invokevirtual 295) 3 18 99 2 0, e1 39 (.ifCond .eq 14) 3 53, e1 42 (.aload_n 0) 1 0, e3 43 (.getfield 21) 3 21 1 2, e1 46 (.iload_n 2) 1 2, ei 47 (.invokevirtual 295) 3 18 99 2 0, e1 50 (.ifCond .ne 6) 3 56], 53),
  (53, [false, false, false, false, false, false], [ec 53 (.bipush (-3)) 2 (-3), e1 55 (.ireturn) 1 0], 56),
  (56, [true, true, true, true, false, false], [e1 56 (.aload_n 0) 1 0, e3 57 (.getfield 37) 3 21 3 2, ei 60 (.invokevirtual 191) 3 14 63 1 0, e1 63 (.ifCond .ne 15) 3 78, e1 66 (.aload_n 0) 1 0, e3 67 (.getfield 46) 3 21 4 2, e3 70 (.getfield 113) 3 11 15 0, ec 73 (.bipush 16) 2 16, e1 75 (.if_icmp .lt 6) 3 81], 78),
  (78, [false, false, false, false, false, false], [ec 78 (.bipush (-4)) 2 (-4), e1 80 (.ireturn) 1 0], 81),
  (81, [true, true, true, true, false, false], [e1 81 (.aload_n 0) 1 0, e3 82 (.getfield 46) 3 21 4 2, e1 85 (.iload_n 1) 1 1, e1 86 (.iload_n 2) 1 2, e1 87 (.iload_n 3) 1 3, ei 88 (.invokevirtual 313) 3 11 27 4 0, e1 91 (.istore 4) 2 4, e1 93 (.iload 4) 2 4, e1 95 (.ifCond .lt 9) 3 104, e1 98 (.iload 4) 2 4, ei 100 (.invokestatic 201) 3 0 122 1 0, e1 103 (.ireturn) 1 0], 104),
  (104, [true, true, true, true, false, false], [e1 104 (.aload_n 0) 1 0, e3 105 (.getfield 37) 3 21 3 2, ec 108 (.iconst 4) 1 4, e1 109 (.iload_n 1) 1 1, e1 110 (.iload_n 2) 1 2, ec 111 (.bipush (-9)) 2 (-9), ei 113 (.invokevirtual 204) 3 14 64 5 0, e1 116 (.istore 5) 2 5, e1 118 (.aload_n 0) 1 0, e3 119 (.getfield 46) 3 21 4 2, e1 122 (.iload_n 1) 1 1, e1 123 (.iload_n 2) 1 2, e1 124 (.iload_n 3) 1 3, e1 125 (.iload 5) 2 5, ei 127 (.invokevirtual 317) 3 11 28 5 3, e1 130 (.iload 5) 2 5, e1 132 (.ireturn) 1 0], 133)]
set_option maxRecDepth 100000 in
def K_X11_most : List XB := [(0, [true, true, true, false, false], [e1 0 (.aload_n 0) 1 0, e3 1 (.getfield 21) 3 21 1 2, e1 4 (.iload_n 1) 1 1, e0 5 (.i2l) 1, ei 6 (.invokevirtual 179) 3 18 90 2 0, e1 9 (.ifCond .ne 5) 3 14, ec 12 (.iconst (-1)) 1 (-1), e1 13 (.ireturn) 1 0], 14),
  (14, [true, true, true, false, false], [e1 14 (.iload_n 2) 1 2, e1 15 (.ifCond .lt 9) 3 24, e1 18 (.iload_n 2) 1 2, ec 19 (.bipush 64) 2 64, e1 21 (.if_icmp .le 6) 3 27], 24),
  (24, [false, false, false, false, false], [ec 24 (.bipush (-2)) 2 (-2), e1 26 (.ireturn) 1 0], 27),
  (27, [true, true, true, false, false], [e1 27 (.aload_n 0) 1 0, e3 28 (.getfield 21) 3 21 1 2, e1 31 (.iload_n 1) 1 1, ei 32 (.invokevirtual 214) 3 18 96 2 0, e1 35 (.ifCond .eq 14) 3 49, e1 38 (.aload_n 0) 1 0, e3 39 (.getfield 46) 3 21 4 2, e1 42 (.iload_n 1) 1 1, ei 43 (.invokevirtual 321) 3 11 29 2 0, e1 46 (.ifCond .eq 6) 3 52], 49),
  (49, [false, false, false, false, false], [ec 49 (.bipush (-3)) 2 (-3), e1 51 (.ireturn) 1 0], 52),
  (52, [true, true, true, false, false], [e1 52 (.aload_n 0) 1 0, e3 53 (.getfield 37) 3 21 3 2, ei 56 (.invokevirtual 191) 3 14 63 1 0, e1 59 (.ifCond .eq 6) 3 65, ec 62 (.bipush (-4)) 2 (-4), e1 64 (.ireturn) 1 0], 65),
  (65, [true, true, true, false, false], [e1 65 (.aload_n 0) 1 0, e3 66 (.getfield 46) 3 21 4 2, e1 69 (.iload_n 1) 1 1, e1 70 (.iload_n 2) 1 2, ei 71 (.invokevirtual 324) 3 11 31 3 0, e1 74 (.istore_n 3) 1 3, e1 75 (.iload_n 3) 1 3, e1 76 (.ifCond .lt 8) 3 84, e1 79 (.iload_n 3) 1 3, ei 80 (.invokestatic 201) 3 0 122 1 0, e1 83 (.ireturn) 1 0], 84),
  (84, [true, true, true, false, false], [e1 84 (.aload_n 0) 1 0, e3 85 (.getfield 37) 3 21 3 2, ec 88 (.iconst 5) 1 5, e1 89 (.iload_n 1) 1 1, e1 90 (.iload_n 2) 1 2, ec 91 (.bipush (-9)) 2 (-9), ei 93 (.invokevirtual 204) 3 14 64 5 0, e1 96 (.istore 4) 2 4, e1 98 (.aload_n 0) 1 0, e3 99 (.getfield 46) 3 21 4 2, e1 102 (.iload_n 1) 1 1, e1 103 (.iload_n 2) 1 2, e1 104 (.iload 4) 2 4, ei 106 (.invokevirtual 327) 3 11 30 4 3, e1 109 (.iload 4) 2 4, e1 111 (.ireturn) 1 0], 112)]
set_option maxRecDepth 100000 in
def K_X11_settle : List XB := [(0, [true, false, false, false], [e1 0 (.aload_n 0) 1 0, e3 1 (.getfield 46) 3 21 4 2, ei 4 (.invokevirtual 330) 3 11 26 1 0, e1 7 (.istore_n 1) 1 1, e1 8 (.iload_n 1) 1 1, ec 9 (.bipush 7) 2 7, e1 11 (.if_icmp .gt 16) 3 27, e1 14 (.aload_n 0) 1 0, e3 15 (.getfield 55) 3 21 5 2, ei 18 (.invokevirtual 334) 3 15 67 1 0, ec 21 (.sipush 3000) 3 3000, e1 24 (.if_icmp .le 6) 3 30], 27),
  (27, [false, false, false, false], [ec 27 (.bipush (-3)) 2 (-3), e1 29 (.ireturn) 1 0], 30),
  (30, [true, true, false, false], [e1 30 (.aload_n 0) 1 0, e3 31 (.getfield 37) 3 21 3 2, e3 34 (.getfield 112) 3 14 4 0, e1 37 (.iload_n 1) 1 1, e0 38 (.iadd) 1, ec 39 (.sipush 300) 3 300, e1 42 (.if_icmp .le 6) 3 48, ec 45 (.bipush (-4)) 2 (-4), e1 47 (.ireturn) 1 0], 48),
  (48, [true, true, false, false], [e1 48 (.aload_n 0) 1 0, e3 49 (.getfield 55) 3 21 5 2, e1 52 (.aload_n 0) 1 0, e3 53 (.getfield 37) 3 21 3 2, e3 56 (.getfield 112) 3 14 4 0, ei 59 (.invokevirtual 337) 3 15 69 2 0, e1 62 (.ifCond .ne 6) 3 68, ec 65 (.bipush (-5)) 2 (-5), e1 67 (.ireturn) 1 0], 68),
  (68, [true, true, false, false], [ec 68 (.iconst 0) 1 0, e1 69 (.istore_n 2) 1 2], 70),
  (70, [true, true, true, false], [e1 70 (.iload_n 2) 1 2, e1 71 (.iload_n 1) 1 1, e1 72 (.if_icmp .ge 39) 3 111, e1 75 (.aload_n 0) 1 0, e3 76 (.getfield 55) 3 21 5 2, e1 79 (.iload_n 2) 1 2, ei 80 (.invokevirtual 340) 3 15 68 2 0, e1 83 (.istore_n 3) 1 3, e1 84 (.aload_n 0) 1 0, e3 85 (.getfield 37) 3 21 3 2, ec 88 (.iconst 0) 1 0, e1 89 (.iload_n 3) 1 3, e1 90 (.aload_n 0) 1 0, e3 91 (.getfield 46) 3 21 4 2, e1 94 (.iload_n 3) 1 3, ec 95 (.iconst 0) 1 0, ei 96 (.invokevirtual 254) 3 11 8 3 0, ec 99 (.bipush (-9)) 2 (-9), ei 101 (.invokevirtual 204) 3 14 64 5 0, e0 104 (.pop) 1, ek 105 (.iinc 2 1) 3 1 2, e1 108 (.goto (-38)) 3 70], 111),
  (111, [false, true, false, false], [e1 111 (.iload_n 1) 1 1, e1 112 (.ireturn) 1 0], 113)]
set_option maxRecDepth 100000 in
def K_X11_set : List XB := [(0, [true, true], [e1 0 (.aload_n 0) 1 0, e3 1 (.getfield 21) 3 21 1 2, e1 4 (.iload_n 1) 1 1, e0 5 (.i2l) 1, ei 6 (.invokevirtual 179) 3 18 90 2 0, e1 9 (.ifCond .eq 14) 3 23, e1 12 (.aload_n 0) 1 0, e3 13 (.getfield 46) 3 21 4 2, e1 16 (.iload_n 1) 1 1, ei 17 (.invokevirtual 343) 3 11 24 2 1, e1 20 (.goto 4) 3 24], 23),
  (23, [false, false], [ec 23 (.lconst 0) 1 0], 24),
  (24, [false, false], [e0 24 (.lreturn) 1], 25)]
set_option maxRecDepth 100000 in
def K_X11_relation : List XB := [(0, [true, true], [e1 0 (.iload_n 1) 1 1, e1 1 (.ifCond .lt 8) 3 9, e1 4 (.iload_n 1) 1 1, ec 5 (.iconst 5) 1 5, e1 6 (.if_icmp .le 6) 3 12], 9),
  (9, [false, false], [ec 9 (.bipush (-2)) 2 (-2), e1 11 (.ireturn) 1 0], 12),
  (12, [true, true], [e1 12 (.aload_n 0) 1 0, e3 13 (.getfield 67) 3 21 6 2, e3 16 (.getfield 116) 3 12 6 0, ec 19 (.bipush 8) 2 8, e1 21 (.if_icmp .lt 6) 3 27, ec 24 (.bipush (-4)) 2 (-4), e1 26 (.ireturn) 1 0], 27),
  (27, [true, true], [e1 27 (.aload_n 0) 1 0, e3 28 (.getfield 67) 3 21 6 2, e1 31 (.iload_n 1) 1 1, ei 32 (.invokevirtual 346) 3 12 36 2 0, e1 35 (.ireturn) 1 0], 36)]
set_option maxRecDepth 100000 in
def K_X11_relate : List XB := [(0, [true, true, true, true, false], [e1 0 (.aload_n 0) 1 0, e1 1 (.iload_n 1) 1 1, e1 2 (.iload_n 2) 1 2, e1 3 (.iload_n 3) 1 3, ei 4 (.invokevirtual 347) 3 21 154 4 0, e1 7 (.ifCond .ne 5) 3 12, ec 10 (.iconst (-1)) 1 (-1), e1 11 (.ireturn) 1 0], 12),
  (12, [true, true, true, true, false], [e1 12 (.iload_n 2) 1 2, e1 13 (.iload_n 3) 1 3, e1 14 (.if_icmp .eq 16) 3 30, e1 17 (.aload_n 0) 1 0, e3 18 (.getfield 67) 3 21 6 2, e1 21 (.iload_n 1) 1 1, e1 22 (.iload_n 2) 1 2, e1 23 (.iload_n 3) 1 3, ei 24 (.invokevirtual 351) 3 12 39 4 0, e1 27 (.ifCond .eq 6) 3 33], 30),
  (30, [false, false, false, false, false], [ec 30 (.bipush (-3)) 2 (-3), e1 32 (.ireturn) 1 0], 33),
  (33, [true, true, true, true, false], [e1 33 (.aload_n 0) 1 0, e3 34 (.getfield 37) 3 21 3 2, ei 37 (.invokevirtual 191) 3 14 63 1 0, e1 40 (.ifCond .eq 6) 3 46, ec 43 (.bipush (-4)) 2 (-4), e1 45 (.ireturn) 1 0], 46),
  (46, [true, true, true, true, false], [e1 46 (.aload_n 0) 1 0, e3 47 (.getfield 67) 3 21 6 2, e1 50 (.iload_n 1) 1 1, e1 51 (.iload_n 2) 1 2, e1 52 (.iload_n 3) 1 3, ei 53 (.invokevirtual 354) 3 12 42 4 0, e1 56 (.istore 4) 2 4, e1 58 (.iload 4) 2 4, e1 60 (.ifCond .lt 9) 3 69, e1 63 (.iload 4) 2 4, ei 65 (.invokestatic 201) 3 0 122 1 0, e1 68 (.ireturn) 1 0], 69),
  (69, [true, true, true, true, false], [e1 69 (.aload_n 0) 1 0, e3 70 (.getfield 67) 3 21 6 2, e1 73 (.iload_n 1) 1 1, e1 74 (.iload_n 2) 1 2, e1 75 (.iload_n 3) 1 3, ei 76 (.invokevirtual 357) 3 12 40 4 3, e1 79 (.aload_n 0) 1 0, e3 80 (.getfield 37) 3 21 3 2, ec 83 (.bipush 6) 2 6, e1 85 (.iload_n 1) 1 1, e1 86 (.iload_n 2) 1 2, e1 87 (.iload_n 3) 1 3, ei 88 (.invokevirtual 204) 3 14 64 5 0, e1 91 (.ireturn) 1 0], 92)]
set_option maxRecDepth 100000 in
def K_X11_deny : List XB := [(0, [true, true, true, true], [e1 0 (.aload_n 0) 1 0, e1 1 (.iload_n 1) 1 1, e1 2 (.iload_n 2) 1 2, e1 3 (.iload_n 3) 1 3, ei 4 (.invokevirtual 347) 3 21 154 4 0, e1 7 (.ifCond .ne 5) 3 12, ec 10 (.iconst (-1)) 1 (-1), e1 11 (.ireturn) 1 0], 12),
  (12, [true, true, true, true], [e1 12 (.iload_n 2) 1 2, e1 13 (.iload_n 3) 1 3, e1 14 (.if_icmp .eq 18) 3 32, e1 17 (.aload_n 0) 1 0, e3 18 (.getfield 37) 3 21 3 2, ec 21 (.bipush 7) 2 7, e1 23 (.iload_n 1) 1 1, e1 24 (.iload_n 2) 1 2, e1 25 (.iload_n 3) 1 3, ei 26 (.invokevirtual 360) 3 14 65 5 0, e1 29 (.ifCond .lt 6) 3 35], 32),
  (32, [false, false, false, false], [ec 32 (.bipush (-3)) 2 (-3), e1 34 (.ireturn) 1 0], 35),
  (35, [true, true, true, true], [e1 35 (.aload_n 0) 1 0, e3 36 (.getfield 37) 3 21 3 2, ei 39 (.invokevirtual 191) 3 14 63 1 0, e1 42 (.ifCond .eq 6) 3 48, ec 45 (.bipush (-4)) 2 (-4), e1 47 (.ireturn) 1 0], 48),
  (48, [true, true, true, true], [e1 48 (.aload_n 0) 1 0, e3 49 (.getfield 67) 3 21 6 2, e1 52 (.iload_n 1) 1 1, e1 53 (.iload_n 2) 1 2, e1 54 (.iload_n 3) 1 3, ei 55 (.invokevirtual 351) 3 12 39 4 0, e1 58 (.ifCond .eq 17) 3 75, e1 61 (.aload_n 0) 1 0, e3 62 (.getfield 67) 3 21 6 2, e1 65 (.iload_n 1) 1 1, e1 66 (.iload_n 2) 1 2, e1 67 (.iload_n 3) 1 3, ei 68 (.invokevirtual 363) 3 12 45 4 0, ei 71 (.invokestatic 201) 3 0 122 1 0, e1 74 (.ireturn) 1 0], 75),
  (75, [true, true, true, true], [e1 75 (.aload_n 0) 1 0, e3 76 (.getfield 37) 3 21 3 2, ec 79 (.bipush 7) 2 7, e1 81 (.iload_n 1) 1 1, e1 82 (.iload_n 2) 1 2, e1 83 (.iload_n 3) 1 3, ei 84 (.invokevirtual 204) 3 14 64 5 0, e1 87 (.ireturn) 1 0], 88)]
set_option maxRecDepth 100000 in
def K_X11_related : List XB := [(0, [true, true, true, true], [e1 0 (.aload_n 0) 1 0, e1 1 (.iload_n 1) 1 1, e1 2 (.iload_n 2) 1 2, e1 3 (.iload_n 3) 1 3, ei 4 (.invokevirtual 347) 3 21 154 4 0, e1 7 (.ifCond .ne 5) 3 12, ec 10 (.iconst (-1)) 1 (-1), e1 11 (.ireturn) 1 0], 12),
  (12, [true, true, true, true], [e1 12 (.aload_n 0) 1 0, e3 13 (.getfield 67) 3 21 6 2, e1 16 (.iload_n 1) 1 1, e1 17 (.iload_n 2) 1 2, e1 18 (.iload_n 3) 1 3, ei 19 (.invokevirtual 351) 3 12 39 4 0, e1 22 (.ifCond .eq 7) 3 29, ec 25 (.iconst 1) 1 1, e1 26 (.goto 4) 3 30], 29),
  (29, [false, false, false, false], [ec 29 (.iconst 0) 1 0], 30),
  (30, [false, false, false, false], [e1 30 (.ireturn) 1 0], 31)]
set_option maxRecDepth 100000 in
def K_X11_along : List XB := [(0, [true, true, true, true], [e1 0 (.aload_n 0) 1 0, e1 1 (.iload_n 1) 1 1, e1 2 (.iload_n 2) 1 2, e1 3 (.iload_n 3) 1 3, ei 4 (.invokevirtual 347) 3 21 154 4 0, e1 7 (.ifCond .ne 5) 3 12, ec 10 (.iconst (-1)) 1 (-1), e1 11 (.ireturn) 1 0], 12),
  (12, [true, true, true, true], [e1 12 (.aload_n 0) 1 0, e3 13 (.getfield 67) 3 21 6 2, e1 16 (.iload_n 1) 1 1, e1 17 (.iload_n 2) 1 2, ei 18 (.invokevirtual 366) 3 12 47 3 2, e3 21 (.getfield 370) 3 20 0 2, e1 24 (.iload_n 3) 1 3, e0 25 (.iaload) 1, e1 26 (.ireturn) 1 0], 27)]
set_option maxRecDepth 100000 in
def K_X11_next : List XB := [(0, [true, true, true, true], [e1 0 (.aload_n 0) 1 0, e1 1 (.iload_n 1) 1 1, e1 2 (.iload_n 2) 1 2, e1 3 (.iload_n 3) 1 3, ei 4 (.invokevirtual 347) 3 21 154 4 0, e1 7 (.ifCond .ne 5) 3 12, ec 10 (.iconst (-1)) 1 (-1), e1 11 (.ireturn) 1 0], 12),
  (12, [true, true, true, true], [e1 12 (.aload_n 0) 1 0, e3 13 (.getfield 67) 3 21 6 2, e1 16 (.iload_n 1) 1 1, e1 17 (.iload_n 2) 1 2, ei 18 (.invokevirtual 366) 3 12 47 3 2, e3 21 (.getfield 373) 3 20 1 2, e1 24 (.iload_n 3) 1 3, e0 25 (.iaload) 1, e1 26 (.ireturn) 1 0], 27)]
set_option maxRecDepth 100000 in
def K_X11_areRelatable : List XB := [(0, [true, true, true, true], [e1 0 (.aload_n 0) 1 0, e3 1 (.getfield 67) 3 21 6 2, e1 4 (.iload_n 1) 1 1, ei 5 (.invokevirtual 376) 3 12 37 2 0, e1 8 (.ifCond .eq 31) 3 39, e1 11 (.aload_n 0) 1 0, e3 12 (.getfield 21) 3 21 1 2, e1 15 (.iload_n 2) 1 2, e0 16 (.i2l) 1, ei 17 (.invokevirtual 179) 3 18 90 2 0, e1 20 (.ifCond .eq 19) 3 39, e1 23 (.aload_n 0) 1 0, e3 24 (.getfield 21) 3 21 1 2, e1 27 (.iload_n 3) 1 3, e0 28 (.i2l) 1, ei 29 (.invokevirtual 179) 3 18 90 2 0, e1 32 (.ifCond .eq 7) 3 39, ec 35 (.iconst 1) 1 1, e1 36 (.goto 4) 3 40], 39),
  (39, [false, false, false, false], [ec 39 (.iconst 0) 1 0], 40),
  (40, [false, false, false, false], [e1 40 (.ireturn) 1 1], 41)]
set_option maxRecDepth 100000 in
def K_X11_exit : List XB := [(0, [true, true, true, true, false], [e1 0 (.aload_n 0) 1 0, e3 1 (.getfield 21) 3 21 1 2, e1 4 (.iload_n 1) 1 1, ei 5 (.invokevirtual 377) 3 18 93 2 0, e1 8 (.ifCond .eq 20) 3 28, e1 11 (.iload_n 3) 1 3, ec 12 (.bipush (-9)) 2 (-9), e1 14 (.if_icmp .eq 16) 3 30, e1 17 (.aload_n 0) 1 0, e3 18 (.getfield 21) 3 21 1 2, e1 21 (.iload_n 3) 1 3, ei 22 (.invokevirtual 377) 3 18 93 2 0, e1 25 (.ifCond .ne 5) 3 30], 28),
  (28, [false, false, false, false, false], [ec 28 (.iconst (-1)) 1 (-1), e1 29 (.ireturn) 1 0], 30),
  (30, [true, true, true, true, false], [e1 30 (.iload_n 2) 1 2, ec 31 (.bipush 8) 2 8, ei 33 (.invokestatic 145) 3 0 123 2 0, e1 36 (.ifCond .ne 6) 3 42, ec 39 (.bipush (-2)) 2 (-2), e1 41 (.ireturn) 1 0], 42),
  (42, [true, true, true, true, false], [e1 42 (.aload_n 0) 1 0, e3 43 (.getfield 76) 3 21 7 2, e1 46 (.iload_n 1) 1 1, e1 47 (.iload_n 2) 1 2, ei 48 (.invokevirtual 380) 3 13 54 3 0, e1 51 (.ifCond .eq 32) 3 83, e1 54 (.aload_n 0) 1 0, e3 55 (.getfield 76) 3 21 7 2, e1 58 (.iload_n 1) 1 1, e1 59 (.iload_n 2) 1 2, ei 60 (.invokevirtual 383) 3 13 52 3 0, ec 63 (.iconst 3) 1 3, e1 64 (.if_icmp .eq 19) 3 83, e1 67 (.aload_n 0) 1 0, e3 68 (.getfield 76) 3 21 7 2, e1 71 (.iload_n 1) 1 1, e1 72 (.iload_n 2) 1 2, ei 73 (.invokevirtual 386) 3 13 53 3 0, e1 76 (.iload_n 3) 1 3, e1 77 (.if_icmp .ne 6) 3 83, ec 80 (.bipush (-3)) 2 (-3), e1 82 (.ireturn) 1 0], 83),
  (83, [true, true, true, true, false], [e1 83 (.aload_n 0) 1 0, e3 84 (.getfield 37) 3 21 3 2, ei 87 (.invokevirtual 191) 3 14 63 1 0, e1 90 (.ifCond .eq 6) 3 96, ec 93 (.bipush (-4)) 2 (-4), e1 95 (.ireturn) 1 0], 96),
  (96, [true, true, true, true, false], [e1 96 (.aload_n 0) 1 0, e3 97 (.getfield 76) 3 21 7 2, e1 100 (.iload_n 1) 1 1, e1 101 (.iload_n 2) 1 2, ei 102 (.invokevirtual 380) 3 13 54 3 0, e1 105 (.ifCond .eq 16) 3 121, e1 108 (.aload_n 0) 1 0, e3 109 (.getfield 76) 3 21 7 2, e1 112 (.iload_n 1) 1 1, e1 113 (.iload_n 2) 1 2, ei 114 (.invokevirtual 389) 3 13 55 3 0, ei 117 (.invokestatic 201) 3 0 122 1 0, e1 120 (.ireturn) 1 0], 121),
  (121, [true, true, true, true, false], [e1 121 (.aload_n 0) 1 0, e3 122 (.getfield 37) 3 21 3 2, ec 125 (.bipush 8) 2 8, e1 127 (.iload_n 1) 1 1, e1 128 (.iload_n 2) 1 2, e1 129 (.iload_n 3) 1 3, ei 130 (.invokevirtual 204) 3 14 64 5 0, e1 133 (.istore 4) 2 4, e1 135 (.aload_n 0) 1 0, e3 136 (.getfield 76) 3 21 7 2, e1 139 (.iload_n 1) 1 1, e1 140 (.iload_n 2) 1 2, e1 141 (.iload_n 3) 1 3, e1 142 (.iload 4) 2 4, ei 144 (.invokevirtual 392) 3 13 57 5 3, e1 147 (.iload 4) 2 4, e1 149 (.ireturn) 1 0], 150)]
set_option maxRecDepth 100000 in
def K_X11_door : List XB := [(0, [true, true, true, true, true, false, false], [e1 0 (.aload_n 0) 1 0, e3 1 (.getfield 21) 3 21 1 2, e1 4 (.iload_n 1) 1 1, e0 5 (.i2l) 1, ei 6 (.invokevirtual 179) 3 18 90 2 0, e1 9 (.ifCond .eq 26) 3 35, e1 12 (.aload_n 0) 1 0, e3 13 (.getfield 21) 3 21 1 2, e1 16 (.iload_n 2) 1 2, ei 17 (.invokevirtual 377) 3 18 93 2 0, e1 20 (.ifCond .eq 15) 3 35, e1 23 (.aload_n 0) 1 0, e3 24 (.getfield 21) 3 21 1 2, e1 27 (.iload 4) 2 4, ei 29 (.invokevirtual 377) 3 18 93 2 0, e1 32 (.ifCond .ne 5) 3 37], 35),
  (35, [false, false, false, false, false, false, false], [ec 35 (.iconst (-1)) 1 (-1), e1 36 (.ireturn) 1 0], 37),
  (37, [true, true, true, true, true, false, false], [e1 37 (.iload_n 3) 1 3, ec 38 (.bipush 8) 2 8, ei 40 (.invokestatic 145) 3 0 123 2 0, e1 43 (.ifCond .ne 6) 3 49, ec 46 (.bipush (-2)) 2 (-2), e1 48 (.ireturn) 1 0], 49),
  (49, [true, true, true, true, true, false, false], [e1 49 (.aload_n 0) 1 0, e3 50 (.getfield 21) 3 21 1 2, e3 53 (.getfield 275) 3 18 2 2, e1 56 (.iload_n 1) 1 1, e0 57 (.iaload) 1, ec 58 (.iconst 2) 1 2, e1 59 (.if_icmp .ne 9) 3 68, e1 62 (.iload_n 2) 1 2, e1 63 (.iload 4) 2 4, e1 65 (.if_icmp .ne 6) 3 71], 68),
  (68, [false, false, false, false, false, false, false], [ec 68 (.bipush (-3)) 2 (-3), e1 70 (.ireturn) 1 0], 71),
  (71, [true, true, true, true, true, false, false], [e1 71 (.aload_n 0) 1 0, e3 72 (.getfield 37) 3 21 3 2, ei 75 (.invokevirtual 191) 3 14 63 1 0, e1 78 (.ifCond .eq 6) 3 84, ec 81 (.bipush (-4)) 2 (-4), e1 83 (.ireturn) 1 0], 84),
  (84, [true, true, true, true, true, false, false], [e1 84 (.aload_n 0) 1 0, e3 85 (.getfield 76) 3 21 7 2, e1 88 (.iload_n 1) 1 1, e1 89 (.iload_n 2) 1 2, e1 90 (.iload_n 3) 1 3, e1 91 (.iload 4) 2 4, ei 93 (.invokevirtual 396) 3 13 58 5 0, e1 96 (.istore 5) 2 5, e1 98 (.iload 5) 2 5, e1 100 (.ifCond .lt 9) 3 109, e1 103 (.iload 5) 2 5, ei 105 (.invokestatic 201) 3 0 122 1 0, e1 108 (.ireturn) 1 0], 109),
  (109, [true, true, true, true, true, false, false], [e1 109 (.aload_n 0) 1 0, e3 110 (.getfield 37) 3 21 3 2, ec 113 (.bipush 9) 2 9, e1 115 (.iload_n 1) 1 1, e1 116 (.iload_n 2) 1 2, e1 117 (.iload_n 3) 1 3, ei 118 (.invokevirtual 204) 3 14 64 5 0, e1 121 (.istore 6) 2 6, e1 123 (.aload_n 0) 1 0, e3 124 (.getfield 76) 3 21 7 2, e1 127 (.iload_n 1) 1 1, e1 128 (.iload_n 2) 1 2, e1 129 (.iload_n 3) 1 3, e1 130 (.iload 4) 2 4, e1 132 (.iload 6) 2 6, ei 134 (.invokevirtual 399) 3 13 59 6 3, e1 137 (.iload 6) 2 6, e1 139 (.ireturn) 1 0], 140)]
set_option maxRecDepth 100000 in
def K_X11_leads : List XB := [(0, [true, true, true], [e1 0 (.aload_n 0) 1 0, e3 1 (.getfield 21) 3 21 1 2, e1 4 (.iload_n 1) 1 1, ei 5 (.invokevirtual 377) 3 18 93 2 0, e1 8 (.ifCond .ne 5) 3 13, ec 11 (.iconst (-1)) 1 (-1), e1 12 (.ireturn) 1 0], 13),
  (13, [true, true, true], [e1 13 (.iload_n 2) 1 2, ec 14 (.bipush 8) 2 8, ei 16 (.invokestatic 145) 3 0 123 2 0, e1 19 (.ifCond .eq 15) 3 34, e1 22 (.aload_n 0) 1 0, e3 23 (.getfield 76) 3 21 7 2, e1 26 (.iload_n 1) 1 1, e1 27 (.iload_n 2) 1 2, ei 28 (.invokevirtual 386) 3 13 53 3 0, e1 31 (.goto 5) 3 36], 34),
  (34, [false, false, false], [ec 34 (.bipush (-2)) 2 (-2)], 36),
  (36, [false, false, false], [e1 36 (.ireturn) 1 0], 37)]
set_option maxRecDepth 100000 in
def K_X11_sort : List XB := [(0, [true, true, true], [e1 0 (.aload_n 0) 1 0, e3 1 (.getfield 21) 3 21 1 2, e1 4 (.iload_n 1) 1 1, ei 5 (.invokevirtual 377) 3 18 93 2 0, e1 8 (.ifCond .ne 5) 3 13, ec 11 (.iconst (-1)) 1 (-1), e1 12 (.ireturn) 1 0], 13),
  (13, [true, true, true], [e1 13 (.iload_n 2) 1 2, ec 14 (.bipush 8) 2 8, ei 16 (.invokestatic 145) 3 0 123 2 0, e1 19 (.ifCond .eq 15) 3 34, e1 22 (.aload_n 0) 1 0, e3 23 (.getfield 76) 3 21 7 2, e1 26 (.iload_n 1) 1 1, e1 27 (.iload_n 2) 1 2, ei 28 (.invokevirtual 383) 3 13 52 3 0, e1 31 (.goto 5) 3 36], 34),
  (34, [false, false, false], [ec 34 (.bipush (-2)) 2 (-2)], 36),
  (36, [false, false, false], [e1 36 (.ireturn) 1 0], 37)]
set_option maxRecDepth 100000 in
def K_X11_route : List XB := [(0, [true, true, true, true], [e1 0 (.aload_n 0) 1 0, e3 1 (.getfield 21) 3 21 1 2, e1 4 (.iload_n 1) 1 1, ei 5 (.invokevirtual 377) 3 18 93 2 0, e1 8 (.ifCond .eq 14) 3 22, e1 11 (.aload_n 0) 1 0, e3 12 (.getfield 21) 3 21 1 2, e1 15 (.iload_n 2) 1 2, ei 16 (.invokevirtual 377) 3 18 93 2 0, e1 19 (.ifCond .ne 5) 3 24], 22),
  (22, [false, false, false, false], [ec 22 (.iconst (-1)) 1 (-1), e1 23 (.ireturn) 1 0], 24),
  (24, [true, true, true, true], [e1 24 (.aload_n 0) 1 0, e3 25 (.getfield 76) 3 21 7 2, e1 28 (.iload_n 1) 1 1, e1 29 (.iload_n 3) 1 3, ei 30 (.invokevirtual 403) 3 13 61 3 2, e3 33 (.getfield 370) 3 20 0 2, e1 36 (.iload_n 2) 1 2, e0 37 (.iaload) 1, e1 38 (.ireturn) 1 0], 39)]
set_option maxRecDepth 100000 in
def K_X11_first : List XB := [(0, [true, true, true, true], [e1 0 (.aload_n 0) 1 0, e3 1 (.getfield 21) 3 21 1 2, e1 4 (.iload_n 1) 1 1, ei 5 (.invokevirtual 377) 3 18 93 2 0, e1 8 (.ifCond .eq 14) 3 22, e1 11 (.aload_n 0) 1 0, e3 12 (.getfield 21) 3 21 1 2, e1 15 (.iload_n 2) 1 2, ei 16 (.invokevirtual 377) 3 18 93 2 0, e1 19 (.ifCond .ne 5) 3 24], 22),
  (22, [false, false, false, false], [ec 22 (.iconst (-1)) 1 (-1), e1 23 (.ireturn) 1 0], 24),
  (24, [true, true, true, true], [e1 24 (.aload_n 0) 1 0, e3 25 (.getfield 76) 3 21 7 2, e1 28 (.iload_n 1) 1 1, e1 29 (.iload_n 3) 1 3, ei 30 (.invokevirtual 403) 3 13 61 3 2, e3 33 (.getfield 373) 3 20 1 2, e1 36 (.iload_n 2) 1 2, e0 37 (.iaload) 1, e1 38 (.ireturn) 1 0], 39)]
set_option maxRecDepth 100000 in
def K_X11_shelf : List XB := [(0, [true, true, true], [e1 0 (.aload_n 0) 1 0, e3 1 (.getfield 12) 3 21 0 2, e1 4 (.iload_n 1) 1 1, ei 5 (.invokevirtual 132) 3 10 3 2 0, e1 8 (.ifCond .ne 5) 3 13, ec 11 (.iconst (-1)) 1 (-1), e1 12 (.ireturn) 1 0], 13),
  (13, [true, true, true], [e1 13 (.iload_n 2) 1 2, ec 14 (.bipush 16) 2 16, e1 16 (.if_icmp .le 6) 3 22, ec 19 (.bipush (-2)) 2 (-2), e1 21 (.ireturn) 1 0], 22),
  (22, [true, true, true], [e1 22 (.aload_n 0) 1 0, e3 23 (.getfield 117) 3 21 12 0, ec 26 (.bipush 10) 2 10, e1 28 (.if_icmp .lt 6) 3 34, ec 31 (.bipush (-4)) 2 (-4), e1 33 (.ireturn) 1 0], 34),
  (34, [true, true, true], [e1 34 (.iload_n 2) 1 2, e1 35 (.ifCond .ge 9) 3 44, e1 38 (.aload_n 0) 1 0, ec 39 (.iconst 5) 1 5, ei 40 (.invokevirtual 165) 3 21 121 2 0, e1 43 (.ireturn) 1 0], 44),
  (44, [true, true, true], [e1 44 (.aload_n 0) 1 0, e3 45 (.getfield 82) 3 21 8 2, e1 48 (.aload_n 0) 1 0, e3 49 (.getfield 117) 3 21 12 0, e3 52 (.aaload) 1 5 16 0, e1 53 (.aload_n 0) 1 0, e3 54 (.getfield 12) 3 21 0 2, e1 57 (.iload_n 1) 1 1, ei 58 (.invokevirtual 148) 3 10 5 2 0, e1 61 (.iload_n 2) 1 2, ei 62 (.invokevirtual 406) 3 16 73 3 3, e1 65 (.aload_n 0) 1 0, e0 66 (.dup) 1, e3 67 (.getfield 117) 3 21 12 0, e0 70 (.dup_x1) 1, ec 71 (.iconst 1) 1 1, e0 72 (.iadd) 1, e3 73 (.putfield 117) 3 21 12 0, e1 76 (.ireturn) 1 0], 77)]
set_option maxRecDepth 100000 in
def K_X11_stand : List XB := [(0, [true, true, true, true, false], [e1 0 (.iload_n 1) 1 1, e1 1 (.aload_n 0) 1 0, e3 2 (.getfield 117) 3 21 12 0, ei 5 (.invokestatic 145) 3 0 123 2 0, e1 8 (.ifCond .eq 21) 3 29, e1 11 (.iload_n 3) 1 3, ec 12 (.bipush (-9)) 2 (-9), e1 14 (.if_icmp .eq 17) 3 31, e1 17 (.aload_n 0) 1 0, e3 18 (.getfield 21) 3 21 1 2, e1 21 (.iload_n 3) 1 3, e0 22 (.i2l) 1, ei 23 (.invokevirtual 179) 3 18 90 2 0, e1 26 (.ifCond .ne 5) 3 31], 29),
  (29, [false, false, false, false, false], [ec 29 (.iconst (-1)) 1 (-1), e1 30 (.ireturn) 1 0], 31),
  (31, [true, true, true, true, false], [e1 31 (.aload_n 0) 1 0, e3 32 (.getfield 82) 3 21 8 2, e1 35 (.iload_n 1) 1 1, e3 36 (.aaload) 1 5 16 0, e1 37 (.astore 4) 2 4, e1 39 (.iload_n 2) 1 2, e1 40 (.aload 4) 2 4, e3 42 (.getfield 408) 3 16 2 0, ei 45 (.invokestatic 145) 3 0 123 2 0, e1 48 (.ifCond .ne 9) 3 57, e1 51 (.aload_n 0) 1 0, ec 52 (.iconst 2) 1 2, ei 53 (.invokevirtual 165) 3 21 121 2 0, e1 56 (.ireturn) 1 0], 57),
  (57, [true, false, true, true, true], [e1 57 (.aload_n 0) 1 0, e1 58 (.aload 4) 2 4, e1 60 (.iload_n 3) 1 3, ei 61 (.invokevirtual 411) 3 21 163 3 0, e1 64 (.ifCond .ne 9) 3 73, e1 67 (.aload_n 0) 1 0, ec 68 (.iconst 4) 1 4, ei 69 (.invokevirtual 165) 3 21 121 2 0, e1 72 (.ireturn) 1 0], 73),
  (73, [false, false, true, true, true], [e1 73 (.aload 4) 2 4, e3 75 (.getfield 415) 3 16 0 2, e1 78 (.iload_n 2) 1 2, e1 79 (.iload_n 3) 1 3, e0 80 (.iastore) 1, ec 81 (.iconst 1) 1 1, e1 82 (.ireturn) 1 0], 83)]
set_option maxRecDepth 100000 in
def K_X11_shelfTakes : List XB := [(0, [true, true, true], [e1 0 (.iload_n 2) 1 2, ec 1 (.bipush (-9)) 2 (-9), e1 3 (.if_icmp .eq 26) 3 29, e1 6 (.aload_n 0) 1 0, e3 7 (.getfield 12) 3 21 0 2, e1 10 (.aload_n 0) 1 0, e3 11 (.getfield 21) 3 21 1 2, e3 14 (.getfield 275) 3 18 2 2, e1 17 (.iload_n 2) 1 2, e0 18 (.iaload) 1, e1 19 (.aload_n 1) 1 1, e3 20 (.getfield 418) 3 16 1 0, ei 23 (.invokevirtual 141) 3 10 4 3 0, e1 26 (.ifCond .eq 7) 3 33], 29),
  (29, [false, false, false], [ec 29 (.iconst 1) 1 1, e1 30 (.goto 4) 3 34], 33),
  (33, [false, false, false], [ec 33 (.iconst 0) 1 0], 34),
  (34, [false, false, false], [e1 34 (.ireturn) 1 1], 35)]
set_option maxRecDepth 100000 in
def K_X11_stands : List XB := [(0, [true, true, true], [e1 0 (.iload_n 1) 1 1, e1 1 (.aload_n 0) 1 0, e3 2 (.getfield 117) 3 21 12 0, ei 5 (.invokestatic 145) 3 0 123 2 0, e1 8 (.ifCond .ne 5) 3 13, ec 11 (.iconst (-1)) 1 (-1), e1 12 (.ireturn) 1 0], 13),
  (13, [true, true, true], [e1 13 (.iload_n 2) 1 2, e1 14 (.aload_n 0) 1 0, e3 15 (.getfield 82) 3 21 8 2, e1 18 (.iload_n 1) 1 1, e3 19 (.aaload) 1 5 16 0, e3 20 (.getfield 408) 3 16 2 0, ei 23 (.invokestatic 145) 3 0 123 2 0, e1 26 (.ifCond .eq 17) 3 43, e1 29 (.aload_n 0) 1 0, e3 30 (.getfield 82) 3 21 8 2, e1 33 (.iload_n 1) 1 1, e3 34 (.aaload) 1 5 16 0, e3 35 (.getfield 415) 3 16 0 2, e1 38 (.iload_n 2) 1 2, e0 39 (.iaload) 1, e1 40 (.goto 8) 3 48], 43),
  (43, [true, false, false], [e1 43 (.aload_n 0) 1 0, ec 44 (.iconst 2) 1 2, ei 45 (.invokevirtual 165) 3 21 121 2 0], 48),
  (48, [false, false, false], [e1 48 (.ireturn) 1 0], 49)]
set_option maxRecDepth 100000 in
def K_X11_haul : List XB := [(0, [true, true, true, true, true, true, false, false, false], [e1 0 (.iload_n 1) 1 1, e1 1 (.aload_n 0) 1 0, e3 2 (.getfield 117) 3 21 12 0, ei 5 (.invokestatic 145) 3 0 123 2 0, e1 8 (.ifCond .eq 14) 3 22, e1 11 (.iload_n 3) 1 3, e1 12 (.aload_n 0) 1 0, e3 13 (.getfield 117) 3 21 12 0, ei 16 (.invokestatic 145) 3 0 123 2 0, e1 19 (.ifCond .ne 5) 3 24], 22),
  (22, [false, false, false, false, false, false, false, false, false], [ec 22 (.iconst (-1)) 1 (-1), e1 23 (.ireturn) 1 0], 24),
  (24, [true, true, true, true, true, true, false, false, false], [e1 24 (.aload_n 0) 1 0, e3 25 (.getfield 82) 3 21 8 2, e1 28 (.iload_n 1) 1 1, e3 29 (.aaload) 1 5 16 0, e1 30 (.astore 6) 2 6, e1 32 (.aload_n 0) 1 0, e3 33 (.getfield 82) 3 21 8 2, e1 36 (.iload_n 3) 1 3, e3 37 (.aaload) 1 5 16 0, e1 38 (.astore 7) 2 7, e1 40 (.aload 6) 2 6, e1 42 (.iload_n 2) 1 2, e1 43 (.iload 5) 2 5, ei 45 (.invokevirtual 421) 3 16 74 3 0, e1 48 (.ifCond .eq 15) 3 63, e1 51 (.aload 7) 2 7, e1 53 (.iload 4) 2 4, e1 55 (.iload 5) 2 5, ei 57 (.invokevirtual 421) 3 16 74 3 0, e1 60 (.ifCond .ne 9) 3 69], 63),
  (63, [true, false, false, false, false, false, false, false, false], [e1 63 (.aload_n 0) 1 0, ec 64 (.iconst 2) 1 2, ei 65 (.invokevirtual 165) 3 21 121 2 0, e1 68 (.ireturn) 1 0], 69),
  (69, [true, false, true, false, true, true, true, true, false], [ec 69 (.iconst 0) 1 0, e1 70 (.istore 8) 2 8], 72),
  (72, [true, false, true, false, true, true, true, true, true], [e1 72 (.iload 8) 2 8, e1 74 (.iload 5) 2 5, e1 76 (.if_icmp .ge 26) 3 102, e1 79 (.aload_n 0) 1 0, e3 80 (.getfield 94) 3 21 10 2, e1 83 (.iload 8) 2 8, e1 85 (.aload 6) 2 6, e3 87 (.getfield 415) 3 16 0 2, e1 90 (.iload_n 2) 1 2, e1 91 (.iload 8) 2 8, e0 93 (.iadd) 1, e0 94 (.iaload) 1, e0 95 (.iastore) 1, ek 96 (.iinc 8 1) 3 1 8, e1 99 (.goto (-27)) 3 72], 102),
  (102, [true, false, false, false, true, true, false, true, false], [e1 102 (.aload_n 0) 1 0, ec 103 (.iconst 0) 1 0, e3 104 (.putfield 129) 3 21 16 0, ec 107 (.iconst 0) 1 0, e1 108 (.istore 8) 2 8], 110),
  (110, [true, false, false, false, true, true, false, true, true], [e1 110 (.iload 8) 2 8, e1 112 (.iload 5) 2 5, e1 114 (.if_icmp .ge 59) 3 173, e1 117 (.aload_n 0) 1 0, e1 118 (.aload 7) 2 7, e1 120 (.aload_n 0) 1 0, e3 121 (.getfield 94) 3 21 10 2, e1 124 (.iload 8) 2 8, e0 126 (.iaload) 1, ei 127 (.invokevirtual 411) 3 21 163 3 0, e1 130 (.ifCond .ne 9) 3 139, e1 133 (.aload_n 0) 1 0, ec 134 (.iconst 4) 1 4, ei 135 (.invokevirtual 165) 3 21 121 2 0, e1 138 (.ireturn) 1 0], 139),
  (139, [true, false, false, false, true, true, false, true, true], [e1 139 (.aload 7) 2 7, e3 141 (.getfield 415) 3 16 0 2, e1 144 (.iload 4) 2 4, e1 146 (.iload 8) 2 8, e0 148 (.iadd) 1, e1 149 (.aload_n 0) 1 0, e3 150 (.getfield 94) 3 21 10 2, e1 153 (.iload 8) 2 8, e0 155 (.iaload) 1, e0 156 (.iastore) 1, e1 157 (.aload_n 0) 1 0, e0 158 (.dup) 1, e3 159 (.getfield 129) 3 21 16 0, ec 162 (.iconst 1) 1 1, e0 163 (.iadd) 1, e3 164 (.putfield 129) 3 21 16 0, ek 167 (.iinc 8 1) 3 1 8, e1 170 (.goto (-60)) 3 110], 173),
  (173, [false, false, false, false, false, true, false, false, false], [e1 173 (.iload 5) 2 5, e1 175 (.ireturn) 1 0], 176)]
set_option maxRecDepth 100000 in
def K_X11_came : List XB := [(0, [true], [e1 0 (.aload_n 0) 1 0, e3 1 (.getfield 129) 3 21 16 0, e1 4 (.ireturn) 1 0], 5)]
set_option maxRecDepth 100000 in
def K_X11_table : List XB := [(0, [true, true, true, true], [e1 0 (.iload_n 1) 1 1, ec 1 (.iconst 1) 1 1, e1 2 (.if_icmp .lt 27) 3 29, e1 5 (.iload_n 1) 1 1, ec 6 (.bipush 16) 2 16, e1 8 (.if_icmp .gt 21) 3 29, e1 11 (.iload_n 2) 1 2, ec 12 (.iconst 1) 1 1, e1 13 (.if_icmp .lt 16) 3 29, e1 16 (.iload_n 2) 1 2, ec 17 (.iconst 5) 1 5, e1 18 (.if_icmp .gt 11) 3 29, e1 21 (.iload_n 3) 1 3, e1 22 (.iload_n 2) 1 2, ei 23 (.invokestatic 424) 3 0 168 2 0, e1 26 (.ifCond .ne 6) 3 32], 29),
  (29, [false, false, false, false], [ec 29 (.bipush (-2)) 2 (-2), e1 31 (.ireturn) 1 0], 32),
  (32, [true, true, true, true], [e1 32 (.aload_n 0) 1 0, e3 33 (.getfield 120) 3 21 13 0, ec 36 (.bipush 6) 2 6, e1 38 (.if_icmp .lt 6) 3 44, ec 41 (.bipush (-4)) 2 (-4), e1 43 (.ireturn) 1 0], 44),
  (44, [true, true, true, true], [e1 44 (.aload_n 0) 1 0, e3 45 (.getfield 89) 3 21 9 2, e1 48 (.aload_n 0) 1 0, e3 49 (.getfield 120) 3 21 13 0, e3 52 (.aaload) 1 6 17 0, e1 53 (.iload_n 1) 1 1, e1 54 (.iload_n 2) 1 2, e1 55 (.iload_n 3) 1 3, ei 56 (.invokevirtual 427) 3 17 76 4 3, e1 59 (.aload_n 0) 1 0, e0 60 (.dup) 1, e3 61 (.getfield 120) 3 21 13 0, e0 64 (.dup_x1) 1, ec 65 (.iconst 1) 1 1, e0 66 (.iadd) 1, e3 67 (.putfield 120) 3 21 13 0, e1 70 (.ireturn) 1 0], 71)]
set_option maxRecDepth 100000 in
def K_X11_areLanes : List XB := [(0, [true, true, false, false], [e1 0 (.iload_n 0) 1 0, e1 1 (.istore_n 2) 1 2, ec 2 (.iconst 0) 1 0, e1 3 (.istore_n 3) 1 3], 4),
  (4, [false, true, true, true], [e1 4 (.iload_n 3) 1 3, e1 5 (.iload_n 1) 1 1, e1 6 (.if_icmp .ge 29) 3 35, e1 9 (.iload_n 2) 1 2, e1 10 (.ifCond .lt 12) 3 22, e1 13 (.iload_n 2) 1 2, ec 14 (.bipush 10) 2 10, e0 16 (.irem) 1, ec 17 (.bipush 8) 2 8, e1 19 (.if_icmp .lt 5) 3 24], 22),
  (22, [false, false, false, false], [ec 22 (.iconst 0) 1 0, e1 23 (.ireturn) 1 1], 24),
  (24, [false, true, true, true], [e1 24 (.iload_n 2) 1 2, ec 25 (.bipush 10) 2 10, e0 27 (.idiv) 1, e1 28 (.istore_n 2) 1 2, ek 29 (.iinc 3 1) 3 1 3, e1 32 (.goto (-28)) 3 4], 35),
  (35, [false, false, true, false], [e1 35 (.iload_n 2) 1 2, e1 36 (.ifCond .ne 7) 3 43, ec 39 (.iconst 1) 1 1, e1 40 (.goto 4) 3 44], 43),
  (43, [false, false, false, false], [ec 43 (.iconst 0) 1 0], 44),
  (44, [false, false, false, false], [e1 44 (.ireturn) 1 1], 45)]
set_option maxRecDepth 100000 in
def K_X11_fill : List XB := [(0, [true, true, true, true, true, false], [e1 0 (.iload_n 1) 1 1, e1 1 (.aload_n 0) 1 0, e3 2 (.getfield 120) 3 21 13 0, ei 5 (.invokestatic 145) 3 0 123 2 0, e1 8 (.ifCond .ne 5) 3 13, ec 11 (.iconst (-1)) 1 (-1), e1 12 (.ireturn) 1 0], 13),
  (13, [true, true, true, true, true, false], [e1 13 (.aload_n 0) 1 0, e3 14 (.getfield 89) 3 21 9 2, e1 17 (.iload_n 1) 1 1, e3 18 (.aaload) 1 6 17 0, e1 19 (.iload_n 2) 1 2, e1 20 (.iload_n 3) 1 3, ei 21 (.invokevirtual 429) 3 17 77 3 0, e1 24 (.ifCond .ne 9) 3 33, e1 27 (.aload_n 0) 1 0, ec 28 (.iconst 2) 1 2, ei 29 (.invokevirtual 165) 3 21 121 2 0, e1 32 (.ireturn) 1 0], 33),
  (33, [true, true, true, true, true, false], [e1 33 (.aload_n 0) 1 0, e3 34 (.getfield 89) 3 21 9 2, e1 37 (.iload_n 1) 1 1, e3 38 (.aaload) 1 6 17 0, e1 39 (.iload_n 2) 1 2, e1 40 (.iload_n 3) 1 3, e1 41 (.lload 4) 2 4, ei 43 (.invokevirtual 432) 3 17 80 4 3, ec 46 (.iconst 1) 1 1, e1 47 (.ireturn) 1 0], 48)]
set_option maxRecDepth 100000 in
def K_X11_blank : List XB := [(0, [true, true, true, true], [e1 0 (.iload_n 1) 1 1, e1 1 (.aload_n 0) 1 0, e3 2 (.getfield 120) 3 21 13 0, ei 5 (.invokestatic 145) 3 0 123 2 0, e1 8 (.ifCond .ne 5) 3 13, ec 11 (.iconst (-1)) 1 (-1), e1 12 (.ireturn) 1 0], 13),
  (13, [true, true, true, true], [e1 13 (.aload_n 0) 1 0, e3 14 (.getfield 89) 3 21 9 2, e1 17 (.iload_n 1) 1 1, e3 18 (.aaload) 1 6 17 0, e1 19 (.iload_n 2) 1 2, e1 20 (.iload_n 3) 1 3, ei 21 (.invokevirtual 429) 3 17 77 3 0, e1 24 (.ifCond .ne 9) 3 33, e1 27 (.aload_n 0) 1 0, ec 28 (.iconst 2) 1 2, ei 29 (.invokevirtual 165) 3 21 121 2 0, e1 32 (.ireturn) 1 0], 33),
  (33, [true, true, true, true], [e1 33 (.aload_n 0) 1 0, e3 34 (.getfield 89) 3 21 9 2, e1 37 (.iload_n 1) 1 1, e3 38 (.aaload) 1 6 17 0, e1 39 (.iload_n 2) 1 2, e1 40 (.iload_n 3) 1 3, ei 41 (.invokevirtual 435) 3 17 81 3 0, e1 44 (.ifCond .eq 7) 3 51, ec 47 (.iconst 1) 1 1, e1 48 (.goto 4) 3 52], 51),
  (51, [false, false, false, false], [ec 51 (.iconst 0) 1 0], 52),
  (52, [false, false, false, false], [e1 52 (.ireturn) 1 0], 53)]
set_option maxRecDepth 100000 in
def K_X11_read : List XB := [(0, [true, true, true, true], [e1 0 (.iload_n 1) 1 1, e1 1 (.aload_n 0) 1 0, e3 2 (.getfield 120) 3 21 13 0, ei 5 (.invokestatic 145) 3 0 123 2 0, e1 8 (.ifCond .ne 7) 3 15, ec 11 (.ldc2_w 238) 3 (-1), e0 14 (.lreturn) 1], 15),
  (15, [true, true, true, true], [e1 15 (.aload_n 0) 1 0, e3 16 (.getfield 89) 3 21 9 2, e1 19 (.iload_n 1) 1 1, e3 20 (.aaload) 1 6 17 0, e1 21 (.iload_n 2) 1 2, e1 22 (.iload_n 3) 1 3, ei 23 (.invokevirtual 429) 3 17 77 3 0, e1 26 (.ifCond .ne 10) 3 36, e1 29 (.aload_n 0) 1 0, ec 30 (.iconst 2) 1 2, ei 31 (.invokevirtual 165) 3 21 121 2 0, e0 34 (.i2l) 1, e0 35 (.lreturn) 1], 36),
  (36, [true, true, true, true], [e1 36 (.aload_n 0) 1 0, e3 37 (.getfield 89) 3 21 9 2, e1 40 (.iload_n 1) 1 1, e3 41 (.aaload) 1 6 17 0, e1 42 (.iload_n 2) 1 2, e1 43 (.iload_n 3) 1 3, ei 44 (.invokevirtual 438) 3 17 78 3 0, e1 47 (.ifCond .eq 12) 3 59, e1 50 (.aload_n 0) 1 0, ec 51 (.iconst 1) 1 1, ei 52 (.invokevirtual 165) 3 21 121 2 0, e0 55 (.i2l) 1, e1 56 (.goto 14) 3 70], 59),
  (59, [true, true, true, true], [e1 59 (.aload_n 0) 1 0, e3 60 (.getfield 89) 3 21 9 2, e1 63 (.iload_n 1) 1 1, e3 64 (.aaload) 1 6 17 0, e1 65 (.iload_n 2) 1 2, e1 66 (.iload_n 3) 1 3, ei 67 (.invokevirtual 441) 3 17 79 3 1], 70),
  (70, [false, false, false, false], [e0 70 (.lreturn) 1], 71)]
set_option maxRecDepth 100000 in
def K_X11_choose : List XB := [(0, [true, true, true, true, false, true], [e1 0 (.iload_n 1) 1 1, e1 1 (.aload_n 0) 1 0, e3 2 (.getfield 120) 3 21 13 0, ei 5 (.invokestatic 145) 3 0 123 2 0, e1 8 (.ifCond .ne 5) 3 13, ec 11 (.iconst (-1)) 1 (-1), e1 12 (.ireturn) 1 0], 13),
  (13, [true, true, true, true, false, true], [e1 13 (.iload 5) 2 5, ec 15 (.bipush 16) 2 16, ei 17 (.invokestatic 145) 3 0 123 2 0, e1 20 (.ifCond .ne 6) 3 26, ec 23 (.bipush (-2)) 2 (-2), e1 25 (.ireturn) 1 0], 26),
  (26, [true, true, true, true, false, true], [e1 26 (.iload_n 2) 1 2, e1 27 (.aload_n 0) 1 0, e3 28 (.getfield 89) 3 21 9 2, e1 31 (.iload_n 1) 1 1, e3 32 (.aaload) 1 6 17 0, e3 33 (.getfield 444) 3 17 5 0, ei 36 (.invokestatic 145) 3 0 123 2 0, e1 39 (.ifCond .ne 9) 3 48, e1 42 (.aload_n 0) 1 0, ec 43 (.iconst 2) 1 2, ei 44 (.invokevirtual 165) 3 21 121 2 0, e1 47 (.ireturn) 1 0], 48),
  (48, [true, true, true, true, false, true], [e1 48 (.aload_n 0) 1 0, e3 49 (.getfield 89) 3 21 9 2, e1 52 (.iload_n 1) 1 1, e3 53 (.aaload) 1 6 17 0, e1 54 (.iload_n 2) 1 2, e1 55 (.lload_n 3) 1 3, e1 56 (.iload 5) 2 5, ei 58 (.invokevirtual 447) 3 17 82 4 0, e1 61 (.ireturn) 1 0], 62)]
set_option maxRecDepth 100000 in
def K_X11_rank : List XB := [(0, [true, true, true, true], [e1 0 (.iload_n 1) 1 1, e1 1 (.aload_n 0) 1 0, e3 2 (.getfield 120) 3 21 13 0, ei 5 (.invokestatic 145) 3 0 123 2 0, e1 8 (.ifCond .ne 5) 3 13, ec 11 (.iconst (-1)) 1 (-1), e1 12 (.ireturn) 1 0], 13),
  (13, [true, true, true, true], [e1 13 (.iload_n 2) 1 2, e1 14 (.aload_n 0) 1 0, e3 15 (.getfield 89) 3 21 9 2, e1 18 (.iload_n 1) 1 1, e3 19 (.aaload) 1 6 17 0, e3 20 (.getfield 444) 3 17 5 0, ei 23 (.invokestatic 145) 3 0 123 2 0, e1 26 (.ifCond .eq 17) 3 43, e1 29 (.aload_n 0) 1 0, e3 30 (.getfield 89) 3 21 9 2, e1 33 (.iload_n 1) 1 1, e3 34 (.aaload) 1 6 17 0, e1 35 (.iload_n 2) 1 2, e1 36 (.iload_n 3) 1 3, ei 37 (.invokevirtual 451) 3 17 83 3 0, e1 40 (.goto 8) 3 48], 43),
  (43, [true, false, false, false], [e1 43 (.aload_n 0) 1 0, ec 44 (.iconst 2) 1 2, ei 45 (.invokevirtual 165) 3 21 121 2 0], 48),
  (48, [false, false, false, false], [e1 48 (.ireturn) 1 0], 49)]
set_option maxRecDepth 100000 in
def K_X11_total : List XB := [(0, [true, true, true], [e1 0 (.iload_n 1) 1 1, e1 1 (.aload_n 0) 1 0, e3 2 (.getfield 120) 3 21 13 0, ei 5 (.invokestatic 145) 3 0 123 2 0, e1 8 (.ifCond .ne 7) 3 15, ec 11 (.ldc2_w 238) 3 (-1), e0 14 (.lreturn) 1], 15),
  (15, [true, true, true], [e1 15 (.iload_n 2) 1 2, e1 16 (.aload_n 0) 1 0, e3 17 (.getfield 89) 3 21 9 2, e1 20 (.iload_n 1) 1 1, e3 21 (.aaload) 1 6 17 0, e3 22 (.getfield 444) 3 17 5 0, ei 25 (.invokestatic 145) 3 0 123 2 0, e1 28 (.ifCond .eq 16) 3 44, e1 31 (.aload_n 0) 1 0, e3 32 (.getfield 89) 3 21 9 2, e1 35 (.iload_n 1) 1 1, e3 36 (.aaload) 1 6 17 0, e1 37 (.iload_n 2) 1 2, ei 38 (.invokevirtual 455) 3 17 86 2 1, e1 41 (.goto 9) 3 50], 44),
  (44, [true, false, false], [e1 44 (.aload_n 0) 1 0, ec 45 (.iconst 2) 1 2, ei 46 (.invokevirtual 165) 3 21 121 2 0, e0 49 (.i2l) 1], 50),
  (50, [false, false, false], [e0 50 (.lreturn) 1], 51)]
set_option maxRecDepth 100000 in
def K_X11_mean : List XB := [(0, [true, true, true, false], [e1 0 (.iload_n 1) 1 1, e1 1 (.aload_n 0) 1 0, e3 2 (.getfield 120) 3 21 13 0, ei 5 (.invokestatic 145) 3 0 123 2 0, e1 8 (.ifCond .ne 7) 3 15, ec 11 (.ldc2_w 238) 3 (-1), e0 14 (.lreturn) 1], 15),
  (15, [true, true, true, false], [e1 15 (.iload_n 2) 1 2, e1 16 (.aload_n 0) 1 0, e3 17 (.getfield 89) 3 21 9 2, e1 20 (.iload_n 1) 1 1, e3 21 (.aaload) 1 6 17 0, e3 22 (.getfield 444) 3 17 5 0, ei 25 (.invokestatic 145) 3 0 123 2 0, e1 28 (.ifCond .ne 10) 3 38, e1 31 (.aload_n 0) 1 0, ec 32 (.iconst 2) 1 2, ei 33 (.invokevirtual 165) 3 21 121 2 0, e0 36 (.i2l) 1, e0 37 (.lreturn) 1], 38),
  (38, [true, true, true, false], [e1 38 (.aload_n 0) 1 0, e3 39 (.getfield 89) 3 21 9 2, e1 42 (.iload_n 1) 1 1, e3 43 (.aaload) 1 6 17 0, e1 44 (.iload_n 2) 1 2, ei 45 (.invokevirtual 458) 3 17 87 2 0, e1 48 (.istore_n 3) 1 3, e1 49 (.iload_n 3) 1 3, e1 50 (.ifCond .ne 13) 3 63, e1 53 (.aload_n 0) 1 0, ec 54 (.bipush 6) 2 6, ei 56 (.invokevirtual 165) 3 21 121 2 0, e0 59 (.i2l) 1, e1 60 (.goto 16) 3 76], 63),
  (63, [true, true, true, true], [e1 63 (.aload_n 0) 1 0, e3 64 (.getfield 89) 3 21 9 2, e1 67 (.iload_n 1) 1 1, e3 68 (.aaload) 1 6 17 0, e1 69 (.iload_n 2) 1 2, ei 70 (.invokevirtual 455) 3 17 86 2 1, e1 73 (.iload_n 3) 1 3, e0 74 (.i2l) 1, e0 75 (.ldiv) 1], 76),
  (76, [false, false, false, false], [e0 76 (.lreturn) 1], 77)]
set_option maxRecDepth 100000 in
def K_X11_make : List XB := [(0, [true, false], [e1 0 (.aload_n 0) 1 0, e3 1 (.getfield 21) 3 21 1 2, ei 4 (.invokevirtual 461) 3 18 94 1 0, e1 7 (.ifCond .eq 13) 3 20, e1 10 (.aload_n 0) 1 0, e3 11 (.getfield 46) 3 21 4 2, ei 14 (.invokevirtual 330) 3 11 26 1 0, e1 17 (.ifCond .le 6) 3 23], 20),
  (20, [false, false], [ec 20 (.bipush (-3)) 2 (-3), e1 22 (.ireturn) 1 0], 23),
  (23, [true, false], [e1 23 (.aload_n 0) 1 0, ec 24 (.iconst 0) 1 0, e3 25 (.putfield 123) 3 21 14 0, e1 28 (.aload_n 0) 1 0, e1 29 (.aload_n 0) 1 0, e3 30 (.getfield 12) 3 21 0 2, e3 33 (.getfield 136) 3 10 1 0, ei 36 (.invokevirtual 464) 3 21 177 2 3, e1 39 (.aload_n 0) 1 0, e1 40 (.aload_n 0) 1 0, e3 41 (.getfield 21) 3 21 1 2, e3 44 (.getfield 107) 3 18 7 0, ei 47 (.invokevirtual 464) 3 21 177 2 3, ec 50 (.iconst 0) 1 0, e1 51 (.istore_n 1) 1 1], 52),
  (52, [true, true], [e1 52 (.iload_n 1) 1 1, e1 53 (.aload_n 0) 1 0, e3 54 (.getfield 21) 3 21 1 2, e3 57 (.getfield 107) 3 18 7 0, e1 60 (.if_icmp .ge 14) 3 74, e1 63 (.aload_n 0) 1 0, e1 64 (.iload_n 1) 1 1, ei 65 (.invokevirtual 467) 3 21 178 2 3, ek 68 (.iinc 1 1) 3 1 1, e1 71 (.goto (-19)) 3 52], 74),
  (74, [true, false], [ec 74 (.iconst 0) 1 0, e1 75 (.istore_n 1) 1 1], 76),
  (76, [true, true], [e1 76 (.iload_n 1) 1 1, e1 77 (.aload_n 0) 1 0, e3 78 (.getfield 21) 3 21 1 2, e3 81 (.getfield 107) 3 18 7 0, e1 84 (.if_icmp .ge 25) 3 109, e1 87 (.aload_n 0) 1 0, e3 88 (.getfield 21) 3 21 1 2, e1 91 (.iload_n 1) 1 1, ei 92 (.invokevirtual 377) 3 18 93 2 0, e1 95 (.ifCond .eq 8) 3 103, e1 98 (.aload_n 0) 1 0, e1 99 (.iload_n 1) 1 1, ei 100 (.invokevirtual 470) 3 21 179 2 3], 103),
  (103, [true, true], [ek 103 (.iinc 1 1) 3 1 1, e1 106 (.goto (-30)) 3 76], 109),
  (109, [true, false], [ec 109 (.iconst 0) 1 0, e1 110 (.istore_n 1) 1 1], 111),
  (111, [true, true], [e1 111 (.iload_n 1) 1 1, e1 112 (.aload_n 0) 1 0, e3 113 (.getfield 67) 3 21 6 2, e3 116 (.getfield 116) 3 12 6 0, e1 119 (.if_icmp .ge 34) 3 153, e1 122 (.aload_n 0) 1 0, e1 123 (.aload_n 0) 1 0, e3 124 (.getfield 67) 3 21 6 2, e3 127 (.getfield 473) 3 12 3 2, e1 130 (.iload_n 1) 1 1, e0 131 (.iaload) 1, ei 132 (.invokevirtual 464) 3 21 177 2 3, e1 135 (.aload_n 0) 1 0, e1 136 (.aload_n 0) 1 0, e3 137 (.getfield 67) 3 21 6 2, e1 140 (.iload_n 1) 1 1, ei 141 (.invokevirtual 476) 3 12 48 2 0, ei 144 (.invokevirtual 464) 3 21 177 2 3, ek 147 (.iinc 1 1) 3 1 1, e1 150 (.goto (-39)) 3 111], 153),
  (153, [true, false], [e1 153 (.aload_n 0) 1 0, e3 154 (.getfield 123) 3 21 14 0, e1 157 (.ireturn) 1 0], 158)]
set_option maxRecDepth 100000 in
def K_X11_addWord : List XB := [(0, [true, true], [e1 0 (.aload_n 0) 1 0, e3 1 (.getfield 123) 3 21 14 0, ec 4 (.sipush 1490) 3 1490, e1 7 (.if_icmp .ge 20) 3 27, e1 10 (.aload_n 0) 1 0, e3 11 (.getfield 98) 3 21 11 2, e1 14 (.aload_n 0) 1 0, e0 15 (.dup) 1, e3 16 (.getfield 123) 3 21 14 0, e0 19 (.dup_x1) 1, ec 20 (.iconst 1) 1 1, e0 21 (.iadd) 1, e3 22 (.putfield 123) 3 21 14 0, e1 25 (.iload_n 1) 1 1, e0 26 (.iastore) 1], 27),
  (27, [false, false], [e0 27 (.return_) 1], 28)]
set_option maxRecDepth 100000 in
def K_X11_addWordsOfThing : List XB := [(0, [true, true, false], [e1 0 (.aload_n 0) 1 0, e1 1 (.aload_n 0) 1 0, e3 2 (.getfield 21) 3 21 1 2, e3 5 (.getfield 479) 3 18 1 2, e1 8 (.iload_n 1) 1 1, e0 9 (.iaload) 1, ei 10 (.invokevirtual 464) 3 21 177 2 3, e1 13 (.aload_n 0) 1 0, e1 14 (.aload_n 0) 1 0, e3 15 (.getfield 46) 3 21 4 2, e1 18 (.iload_n 1) 1 1, ec 19 (.iconst 0) 1 0, ei 20 (.invokevirtual 254) 3 11 8 3 0, ei 23 (.invokevirtual 464) 3 21 177 2 3, e1 26 (.aload_n 0) 1 0, e1 27 (.aload_n 0) 1 0, e3 28 (.getfield 21) 3 21 1 2, e3 31 (.getfield 482) 3 18 3 2, e1 34 (.iload_n 1) 1 1, e0 35 (.iaload) 1, ei 36 (.invokevirtual 464) 3 21 177 2 3, ec 39 (.iconst 0) 1 0, e1 40 (.istore_n 2) 1 2], 41),
  (41, [true, true, true], [e1 41 (.iload_n 2) 1 2, e1 42 (.aload_n 0) 1 0, e3 43 (.getfield 30) 3 21 2 2, e3 46 (.getfield 111) 3 19 9 0, e1 49 (.if_icmp .ge 35) 3 84, e1 52 (.aload_n 0) 1 0, e3 53 (.getfield 30) 3 21 2 2, e1 56 (.iload_n 1) 1 1, e1 57 (.iload_n 2) 1 2, ei 58 (.invokevirtual 224) 3 19 109 3 0, e1 61 (.ifCond .eq 17) 3 78, e1 64 (.aload_n 0) 1 0, e1 65 (.aload_n 0) 1 0, e3 66 (.getfield 30) 3 21 2 2, e1 69 (.iload_n 1) 1 1, e1 70 (.iload_n 2) 1 2, ei 71 (.invokevirtual 242) 3 19 115 3 1, e0 74 (.l2i) 1, ei 75 (.invokevirtual 464) 3 21 177 2 3], 78),
  (78, [true, true, true], [ek 78 (.iinc 2 1) 3 1 2, e1 81 (.goto (-40)) 3 41], 84),
  (84, [false, false, false], [e0 84 (.return_) 1], 85)]
set_option maxRecDepth 100000 in
def K_X11_addWordsOfRoom : List XB := [(0, [true, true, false], [ec 0 (.iconst 0) 1 0, e1 1 (.istore_n 2) 1 2], 2),
  (2, [true, true, true], [e1 2 (.iload_n 2) 1 2, ec 3 (.bipush 8) 2 8, e1 5 (.if_icmp .ge 22) 3 27, e1 8 (.aload_n 0) 1 0, e1 9 (.aload_n 0) 1 0, e3 10 (.getfield 76) 3 21 7 2, e1 13 (.iload_n 1) 1 1, e1 14 (.iload_n 2) 1 2, ei 15 (.invokevirtual 386) 3 13 53 3 0, ei 18 (.invokevirtual 464) 3 21 177 2 3, ek 21 (.iinc 2 1) 3 1 2, e1 24 (.goto (-22)) 3 2], 27),
  (27, [false, false, false], [e0 27 (.return_) 1], 28)]
set_option maxRecDepth 100000 in
def K_X11_word : List XB := [(0, [true, true], [e1 0 (.iload_n 1) 1 1, e1 1 (.aload_n 0) 1 0, e3 2 (.getfield 123) 3 21 14 0, ei 5 (.invokestatic 145) 3 0 123 2 0, e1 8 (.ifCond .eq 12) 3 20, e1 11 (.aload_n 0) 1 0, e3 12 (.getfield 98) 3 21 11 2, e1 15 (.iload_n 1) 1 1, e0 16 (.iaload) 1, e1 17 (.goto 5) 3 22], 20),
  (20, [false, false], [ec 20 (.bipush (-9)) 2 (-9)], 22),
  (22, [false, false], [e1 22 (.ireturn) 1 0], 23)]
set_option maxRecDepth 100000 in
def K_X11_digest : List XB := [(0, [true, false, false, false], [ec 0 (.ldc2_w 485) 3 17, e1 3 (.lstore_n 1) 1 1, ec 4 (.iconst 0) 1 0, e1 5 (.istore_n 3) 1 3], 6),
  (6, [true, true, false, true], [e1 6 (.iload_n 3) 1 3, e1 7 (.aload_n 0) 1 0, e3 8 (.getfield 123) 3 21 14 0, e1 11 (.if_icmp .ge 23) 3 34, ec 14 (.ldc2_w 487) 3 31, e1 17 (.lload_n 1) 1 1, e0 18 (.lmul) 1, e1 19 (.aload_n 0) 1 0, e3 20 (.getfield 98) 3 21 11 2, e1 23 (.iload_n 3) 1 3, e0 24 (.iaload) 1, e0 25 (.i2l) 1, e0 26 (.ladd) 1, e1 27 (.lstore_n 1) 1 1, ek 28 (.iinc 3 1) 3 1 3, e1 31 (.goto (-25)) 3 6], 34),
  (34, [false, true, false, false], [e1 34 (.lload_n 1) 1 1, e0 35 (.lreturn) 1], 36)]
set_option maxRecDepth 100000 in
def K_X11_sentence : List XB := [(0, [true, true, true], [e1 0 (.iload_n 1) 1 1, e1 1 (.aload_n 0) 1 0, e3 2 (.getfield 37) 3 21 3 2, e3 5 (.getfield 112) 3 14 4 0, ei 8 (.invokestatic 145) 3 0 123 2 0, e1 11 (.ifCond .ne 5) 3 16, ec 14 (.iconst (-1)) 1 (-1), e1 15 (.ireturn) 1 0], 16),
  (16, [true, true, true], [e1 16 (.iload_n 2) 1 2, es 17 (.tableswitch 57 0 2 #[27, 37, 47]) 27 0 74 [44, 54, 64]], 44),
  (44, [true, true, false], [e1 44 (.aload_n 0) 1 0, e3 45 (.getfield 37) 3 21 3 2, e3 48 (.getfield 489) 3 14 0 2, e1 51 (.iload_n 1) 1 1, e0 52 (.iaload) 1, e1 53 (.ireturn) 1 0], 54),
  (54, [true, true, false], [e1 54 (.aload_n 0) 1 0, e3 55 (.getfield 37) 3 21 3 2, e3 58 (.getfield 492) 3 14 1 2, e1 61 (.iload_n 1) 1 1, e0 62 (.iaload) 1, e1 63 (.ireturn) 1 0], 64),
  (64, [true, true, false], [e1 64 (.aload_n 0) 1 0, e3 65 (.getfield 37) 3 21 3 2, e3 68 (.getfield 495) 3 14 2 2, e1 71 (.iload_n 1) 1 1, e0 72 (.iaload) 1, e1 73 (.ireturn) 1 0], 74),
  (74, [false, false, false], [ec 74 (.bipush (-2)) 2 (-2), e1 76 (.ireturn) 1 0], 77)]
set_option maxRecDepth 100000 in
def K_X11_count : List XB := [(0, [true, true], [e1 0 (.iload_n 1) 1 1, es 1 (.tableswitch 126 0 9 #[55, 63, 71, 79, 87, 95, 100, 105, 113, 118]) 55 0 127 [56, 64, 72, 80, 88, 96, 101, 106, 114, 119]], 56),
  (56, [true, false], [e1 56 (.aload_n 0) 1 0, e3 57 (.getfield 12) 3 21 0 2, e3 60 (.getfield 136) 3 10 1 0, e1 63 (.ireturn) 1 0], 64),
  (64, [true, false], [e1 64 (.aload_n 0) 1 0, e3 65 (.getfield 30) 3 21 2 2, e3 68 (.getfield 111) 3 19 9 0, e1 71 (.ireturn) 1 0], 72),
  (72, [true, false], [e1 72 (.aload_n 0) 1 0, e3 73 (.getfield 21) 3 21 1 2, e3 76 (.getfield 107) 3 18 7 0, e1 79 (.ireturn) 1 0], 80),
  (80, [true, false], [e1 80 (.aload_n 0) 1 0, e3 81 (.getfield 37) 3 21 3 2, e3 84 (.getfield 112) 3 14 4 0, e1 87 (.ireturn) 1 0], 88),
  (88, [true, false], [e1 88 (.aload_n 0) 1 0, e3 89 (.getfield 67) 3 21 6 2, e3 92 (.getfield 116) 3 12 6 0, e1 95 (.ireturn) 1 0], 96),
  (96, [true, false], [e1 96 (.aload_n 0) 1 0, e3 97 (.getfield 117) 3 21 12 0, e1 100 (.ireturn) 1 0], 101),
  (101, [true, false], [e1 101 (.aload_n 0) 1 0, e3 102 (.getfield 120) 3 21 13 0, e1 105 (.ireturn) 1 0], 106),
  (106, [true, false], [e1 106 (.aload_n 0) 1 0, e3 107 (.getfield 46) 3 21 4 2, ei 110 (.invokevirtual 330) 3 11 26 1 0, e1 113 (.ireturn) 1 0], 114),
  (114, [true, false], [e1 114 (.aload_n 0) 1 0, e3 115 (.getfield 123) 3 21 14 0, e1 118 (.ireturn) 1 0], 119),
  (119, [true, false], [e1 119 (.aload_n 0) 1 0, e3 120 (.getfield 46) 3 21 4 2, e3 123 (.getfield 113) 3 11 15 0, e1 126 (.ireturn) 1 0], 127),
  (127, [false, false], [ec 127 (.bipush (-2)) 2 (-2), e1 129 (.ireturn) 1 0], 130)]
set_option maxRecDepth 100000 in
def K_X11_fault : List XB := [(0, [true], [e1 0 (.aload_n 0) 1 0, e3 1 (.getfield 126) 3 21 15 0, e1 4 (.ireturn) 1 0], 5)]
set_option maxRecDepth 100000 in
def K_X11_clear : List XB := [(0, [true, false], [e1 0 (.aload_n 0) 1 0, e3 1 (.getfield 21) 3 21 1 2, e3 4 (.getfield 107) 3 18 7 0, e1 7 (.istore_n 1) 1 1, e1 8 (.aload_n 0) 1 0, ei 9 (.invokevirtual 101) 3 21 120 1 3, e1 12 (.iload_n 1) 1 1, e1 13 (.ireturn) 1 0], 14)]
set_option maxRecDepth 100000 in
def K_X11_bit : List XB := [(0, [true], [ec 0 (.lconst 1) 1 1, e1 1 (.iload_n 0) 1 0, e0 2 (.lshl) 1, e0 3 (.lreturn) 1], 4)]
set_option maxRecDepth 100000 in
def K_X11_toldBy : List XB := [(0, [true, true, false], [e1 0 (.iload_n 0) 1 0, es 1 (.tableswitch 86 0 7 #[47, 59, 64, 69, 74, 86, 78, 82]) 47 0 87 [48, 60, 65, 70, 75, 87, 79, 83]], 48),
  (48, [false, true, false], [e1 48 (.lload_n 1) 1 1, ec 49 (.lconst 0) 1 0, e0 50 (.lcmp) 1, e1 51 (.ifCond .eq 7) 3 58, ec 54 (.lconst 1) 1 1, e1 55 (.goto 4) 3 59], 58),
  (58, [false, false, false], [ec 58 (.lconst 0) 1 0], 59),
  (59, [false, false, false], [e0 59 (.lreturn) 1], 60),
  (60, [false, true, false], [e1 60 (.lload_n 1) 1 1, e0 61 (.l2i) 1, e0 62 (.i2b) 1, e0 63 (.i2l) 1, e0 64 (.lreturn) 1], 65),
  (65, [false, true, false], [e1 65 (.lload_n 1) 1 1, e0 66 (.l2i) 1, e0 67 (.i2s) 1, e0 68 (.i2l) 1, e0 69 (.lreturn) 1], 70),
  (70, [false, true, false], [e1 70 (.lload_n 1) 1 1, e0 71 (.l2i) 1, e0 72 (.i2c) 1, e0 73 (.i2l) 1, e0 74 (.lreturn) 1], 75),
  (75, [false, true, false], [e1 75 (.lload_n 1) 1 1, e0 76 (.l2i) 1, e0 77 (.i2l) 1, e0 78 (.lreturn) 1], 79),
  (79, [false, true, false], [e1 79 (.lload_n 1) 1 1, e0 80 (.l2f) 1, e0 81 (.f2l) 1, e0 82 (.lreturn) 1], 83),
  (83, [false, true, false], [e1 83 (.lload_n 1) 1 1, e0 84 (.l2d) 1, e0 85 (.d2l) 1, e0 86 (.lreturn) 1], 87),
  (87, [false, true, false], [e1 87 (.lload_n 1) 1 1, e0 88 (.lreturn) 1], 89)]
set_option maxRecDepth 100000 in
def K_X12_init : List XB := [(0, [true], [e1 0 (.aload_n 0) 1 0, ei 1 (.invokespecial 1) 3 0 0 1 9, e1 4 (.aload_n 0) 1 0, ec 5 (.bipush 24) 2 24, e1 7 (.newarray .int) 2 1, e3 9 (.putfield 7) 3 22 2 2, e1 12 (.aload_n 0) 1 0, ec 13 (.bipush 12) 2 12, e1 15 (.newarray .int) 2 1, e3 17 (.putfield 13) 3 22 4 2, e1 20 (.aload_n 0) 1 0, ec 21 (.bipush 12) 2 12, e1 23 (.newarray .int) 2 1, e3 25 (.putfield 16) 3 22 5 2, e1 28 (.aload_n 0) 1 0, ec 29 (.bipush 12) 2 12, e1 31 (.newarray .int) 2 1, e3 33 (.putfield 19) 3 22 6 2, e1 36 (.aload_n 0) 1 0, ec 37 (.sipush 288) 3 288, e1 40 (.newarray .boolean) 2 3, e3 42 (.putfield 22) 3 22 7 2, e1 45 (.aload_n 0) 1 0, ec 46 (.sipush 288) 3 288, e1 49 (.newarray .long) 2 2, e3 51 (.putfield 26) 3 22 8 2, e1 54 (.aload_n 0) 1 0, ec 55 (.bipush 64) 2 64, e1 57 (.newarray .int) 2 1, e3 59 (.putfield 30) 3 22 10 2, e1 62 (.aload_n 0) 1 0, ec 63 (.bipush 64) 2 64, e1 65 (.newarray .int) 2 1, e3 67 (.putfield 33) 3 22 11 2, e1 70 (.aload_n 0) 1 0, ec 71 (.bipush 64) 2 64, e1 73 (.newarray .int) 2 1, e3 75 (.putfield 36) 3 22 12 2, e1 78 (.aload_n 0) 1 0, ec 79 (.bipush 64) 2 64, e1 81 (.newarray .int) 2 1, e3 83 (.putfield 39) 3 22 13 2, e1 86 (.aload_n 0) 1 0, ec 87 (.bipush 64) 2 64, e1 89 (.newarray .boolean) 2 3, e3 91 (.putfield 42) 3 22 14 2, e1 94 (.aload_n 0) 1 0, ec 95 (.sipush 384) 3 384, e1 98 (.newarray .int) 2 1, e3 100 (.putfield 45) 3 22 15 2, e1 103 (.aload_n 0) 1 0, ec 104 (.sipush 384) 3 384, e1 107 (.newarray .int) 2 1, e3 109 (.putfield 48) 3 22 16 2, e1 112 (.aload_n 0) 1 0, ec 113 (.bipush 64) 2 64, e1 115 (.newarray .int) 2 1, e3 117 (.putfield 51) 3 22 17 2, e1 120 (.aload_n 0) 1 0, ec 121 (.bipush 64) 2 64, e1 123 (.newarray .long) 2 2, e3 125 (.putfield 54) 3 22 18 2, e1 128 (.aload_n 0) 1 0, ec 129 (.bipush 64) 2 64, e1 131 (.newarray .int) 2 1, e3 133 (.putfield 57) 3 22 19 2, e1 136 (.aload_n 0) 1 0, ec 137 (.sipush 768) 3 768, e1 140 (.newarray .int) 2 1, e3 142 (.putfield 60) 3 22 20 2, e1 145 (.aload_n 0) 1 0, ec 146 (.sipush 768) 3 768, e1 149 (.newarray .long) 2 2, e3 151 (.putfield 63) 3 22 21 2, e1 154 (.aload_n 0) 1 0, ec 155 (.sipush 300) 3 300, e1 158 (.newarray .int) 2 1, e3 160 (.putfield 66) 3 22 23 2, e1 163 (.aload_n 0) 1 0, ec 164 (.sipush 300) 3 300, e1 167 (.newarray .int) 2 1, e3 169 (.putfield 69) 3 22 24 2, e1 172 (.aload_n 0) 1 0, ec 173 (.sipush 300) 3 300, e1 176 (.newarray .int) 2 1, e3 178 (.putfield 72) 3 22 25 2, e1 181 (.aload_n 0) 1 0, ec 182 (.sipush 300) 3 300, e1 185 (.newarray .int) 2 1, e3 187 (.putfield 75) 3 22 26 2, e1 190 (.aload_n 0) 1 0, ec 191 (.bipush 64) 2 64, e1 193 (.newarray .int) 2 1, e3 195 (.putfield 78) 3 22 28 2, e1 198 (.aload_n 0) 1 0, ec 199 (.bipush 8) 2 8, e1 201 (.newarray .int) 2 1, e3 203 (.putfield 81) 3 22 30 2, e1 206 (.aload_n 0) 1 0, ec 207 (.bipush 64) 2 64, e1 209 (.newarray .int) 2 1, e3 211 (.putfield 84) 3 22 31 2, e1 214 (.aload_n 0) 1 0, ec 215 (.bipush 64) 2 64, e1 217 (.newarray .int) 2 1, e3 219 (.putfield 87) 3 22 32 2, e1 222 (.aload_n 0) 1 0, ec 223 (.bipush 64) 2 64, e1 225 (.newarray .int) 2 1, e3 227 (.putfield 90) 3 22 33 2, e1 230 (.aload_n 0) 1 0, ec 231 (.sipush 4096) 3 4096, e1 234 (.newarray .boolean) 2 3, e3 236 (.putfield 93) 3 22 34 2, e1 239 (.aload_n 0) 1 0, ec 240 (.sipush 512) 3 512, e1 243 (.newarray .int) 2 1, e3 245 (.putfield 96) 3 22 35 2, e1 248 (.aload_n 0) 1 0, ec 249 (.sipush 512) 3 512, e1 252 (.newarray .int) 2 1, e3 254 (.putfield 99) 3 22 36 2, e1 257 (.aload_n 0) 1 0, ec 258 (.sipush 512) 3 512, e1 261 (.newarray .int) 2 1, e3 263 (.putfield 102) 3 22 37 2, e1 266 (.aload_n 0) 1 0, ec 267 (.sipush 512) 3 512, e1 270 (.newarray .int) 2 1, e3 272 (.putfield 105) 3 22 38 2, e1 275 (.aload_n 0) 1 0, ec 276 (.bipush 10) 2 10, e1 278 (.newarray .int) 2 1, e3 280 (.putfield 108) 3 22 40 2, e1 283 (.aload_n 0) 1 0, ec 284 (.bipush 10) 2 10, e1 286 (.newarray .int) 2 1, e3 288 (.putfield 111) 3 22 41 2, e1 291 (.aload_n 0) 1 0, ec 292 (.sipush 160) 3 160, e1 295 (.newarray .int) 2 1, e3 297 (.putfield 114) 3 22 42 2, e1 300 (.aload_n 0) 1 0, ec 301 (.bipush 16) 2 16, e1 303 (.newarray .int) 2 1, e3 305 (.putfield 117) 3 22 43 2, e1 308 (.aload_n 0) 1 0, ec 309 (.bipush 6) 2 6, e1 311 (.newarray .int) 2 1, e3 313 (.putfield 120) 3 22 46 2, e1 316 (.aload_n 0) 1 0, ec 317 (.bipush 6) 2 6, e1 319 (.newarray .int) 2 1, e3 321 (.putfield 123) 3 22 47 2, e1 324 (.aload_n 0) 1 0, ec 325 (.bipush 30) 2 30, e1 327 (.newarray .int) 2 1, e3 329 (.putfield 126) 3 22 48 2, e1 332 (.aload_n 0) 1 0, ec 333 (.sipush 480) 3 480, e1 336 (.newarray .boolean) 2 3, e3 338 (.putfield 129) 3 22 49 2, e1 341 (.aload_n 0) 1 0, ec 342 (.sipush 480) 3 480, e1 345 (.newarray .long) 2 2, e3 347 (.putfield 132) 3 22 50 2, e1 350 (.aload_n 0) 1 0, ec 351 (.sipush 480) 3 480, e1 354 (.newarray .double) 2 4, e3 356 (.putfield 135) 3 22 51 2, e1 359 (.aload_n 0) 1 0, ec 360 (.bipush 16) 2 16, e1 362 (.newarray .int) 2 1, e3 364 (.putfield 139) 3 22 52 2, e1 367 (.aload_n 0) 1 0, ec 368 (.bipush 80) 2 80, e1 370 (.newarray .boolean) 2 3, e3 372 (.putfield 142) 3 22 53 2, e1 375 (.aload_n 0) 1 0, ec 376 (.bipush 80) 2 80, e1 378 (.newarray .long) 2 2, e3 380 (.putfield 145) 3 22 54 2, e1 383 (.aload_n 0) 1 0, ec 384 (.bipush 80) 2 80, e1 386 (.newarray .double) 2 4, e3 388 (.putfield 148) 3 22 55 2, e1 391 (.aload_n 0) 1 0, ec 392 (.sipush 2048) 3 2048, e1 395 (.newarray .int) 2 1, e3 397 (.putfield 151) 3 22 57 2, e1 400 (.aload_n 0) 1 0, ei 401 (.invokevirtual 154) 3 22 191 1 3, e0 404 (.return_) 1], 405)]
set_option maxRecDepth 100000 in
def K_X12_in : List XB := [(0, [true, false, true, false, true, false], [e1 0 (.lload_n 0) 1 0, e1 1 (.lload_n 2) 1 2, e0 2 (.lcmp) 1, e1 3 (.ifCond .lt 14) 3 17, e1 6 (.lload_n 0) 1 0, e1 7 (.lload 4) 2 4, e0 9 (.lcmp) 1, e1 10 (.ifCond .gt 7) 3 17, ec 13 (.iconst 1) 1 1, e1 14 (.goto 4) 3 18], 17),
  (17, [false, false, false, false, false, false], [ec 17 (.iconst 0) 1 0], 18),
  (18, [false, false, false, false, false, false], [e1 18 (.ireturn) 1 1], 19)]
set_option maxRecDepth 100000 in
def K_X12_faulty : List XB := [(0, [true, true], [e1 0 (.aload_n 0) 1 0, ec 1 (.bipush (-10)) 2 (-10), e1 3 (.iload_n 1) 1 1, e0 4 (.isub) 1, e3 5 (.putfield 157) 3 22 0 0, e1 8 (.iload_n 1) 1 1, e1 9 (.ireturn) 1 0], 10)]
set_option maxRecDepth 100000 in
def K_X12_begin : List XB := [(0, [true, false], [e1 0 (.aload_n 0) 1 0, ec 1 (.iconst 0) 1 0, e3 2 (.putfield 157) 3 22 0 0, e1 5 (.aload_n 0) 1 0, ec 6 (.bipush 6) 2 6, e3 8 (.putfield 161) 3 22 1 0, ec 11 (.iconst 0) 1 0, e1 12 (.istore_n 1) 1 1], 13),
  (13, [true, true], [e1 13 (.iload_n 1) 1 1, ec 14 (.bipush 6) 2 6, e1 16 (.if_icmp .ge 25) 3 41, e1 19 (.aload_n 0) 1 0, e3 20 (.getfield 7) 3 22 2 2, e1 23 (.iload_n 1) 1 1, e1 24 (.iload_n 1) 1 1, ec 25 (.iconst 5) 1 5, e1 26 (.if_icmp .ne 7) 3 33, ec 29 (.iconst 4) 1 4, e1 30 (.goto 4) 3 34], 33),
  (33, [true, true], [ec 33 (.iconst 0) 1 0], 34),
  (34, [true, true], [e0 34 (.iastore) 1, ek 35 (.iinc 1 1) 3 1 1, e1 38 (.goto (-25)) 3 13], 41),
  (41, [true, false], [e1 41 (.aload_n 0) 1 0, ec 42 (.iconst 0) 1 0, e3 43 (.putfield 164) 3 22 3 0, e1 46 (.aload_n 0) 1 0, ec 47 (.iconst 0) 1 0, e3 48 (.putfield 167) 3 22 9 0, e1 51 (.aload_n 0) 1 0, ec 52 (.iconst 0) 1 0, e3 53 (.putfield 170) 3 22 22 0, e1 56 (.aload_n 0) 1 0, ec 57 (.iconst 0) 1 0, e3 58 (.putfield 173) 3 22 29 0, e1 61 (.aload_n 0) 1 0, ec 62 (.iconst 0) 1 0, e3 63 (.putfield 176) 3 22 39 0, e1 66 (.aload_n 0) 1 0, ec 67 (.iconst 0) 1 0, e3 68 (.putfield 179) 3 22 45 0, e1 71 (.aload_n 0) 1 0, ec 72 (.iconst 0) 1 0, e3 73 (.putfield 182) 3 22 56 0, e1 76 (.aload_n 0) 1 0, ec 77 (.iconst 0) 1 0, e3 78 (.putfield 185) 3 22 27 0, e1 81 (.aload_n 0) 1 0, ec 82 (.iconst 0) 1 0, e3 83 (.putfield 188) 3 22 44 0, ec 86 (.iconst 0) 1 0, e1 87 (.istore_n 1) 1 1], 88),
  (88, [true, true], [e1 88 (.iload_n 1) 1 1, ec 89 (.sipush 288) 3 288, e1 92 (.if_icmp .ge 16) 3 108, e1 95 (.aload_n 0) 1 0, e3 96 (.getfield 22) 3 22 7 2, e1 99 (.iload_n 1) 1 1, ec 100 (.iconst 0) 1 0, e0 101 (.bastore) 1, ek 102 (.iinc 1 1) 3 1 1, e1 105 (.goto (-17)) 3 88], 108),
  (108, [true, false], [ec 108 (.iconst 0) 1 0, e1 109 (.istore_n 1) 1 1], 110),
  (110, [true, true], [e1 110 (.iload_n 1) 1 1, ec 111 (.sipush 512) 3 512, e1 114 (.if_icmp .ge 32) 3 146, e1 117 (.aload_n 0) 1 0, e3 118 (.getfield 96) 3 22 35 2, e1 121 (.iload_n 1) 1 1, ec 122 (.iconst 0) 1 0, e0 123 (.iastore) 1, e1 124 (.aload_n 0) 1 0, e3 125 (.getfield 99) 3 22 36 2, e1 128 (.iload_n 1) 1 1, ec 129 (.bipush (-9)) 2 (-9), e0 131 (.iastore) 1, e1 132 (.aload_n 0) 1 0, e3 133 (.getfield 102) 3 22 37 2, e1 136 (.iload_n 1) 1 1, ec 137 (.bipush (-9)) 2 (-9), e0 139 (.iastore) 1, ek 140 (.iinc 1 1) 3 1 1, e1 143 (.goto (-33)) 3 110], 146),
  (146, [false, false], [e0 146 (.return_) 1], 147)]
set_option maxRecDepth 100000 in
def K_X12_isKind : List XB := [(0, [true, true], [e1 0 (.iload_n 1) 1 1, e0 1 (.i2l) 1, ec 2 (.lconst 0) 1 0, e1 3 (.aload_n 0) 1 0, e3 4 (.getfield 161) 3 22 1 0, ec 7 (.iconst 1) 1 1, e0 8 (.isub) 1, e0 9 (.i2l) 1, ei 10 (.invokestatic 191) 3 0 189 3 0, e1 13 (.ireturn) 1 1], 14)]
set_option maxRecDepth 100000 in
def K_X12_isProperty : List XB := [(0, [true, true], [e1 0 (.iload_n 1) 1 1, e0 1 (.i2l) 1, ec 2 (.lconst 0) 1 0, e1 3 (.aload_n 0) 1 0, e3 4 (.getfield 164) 3 22 3 0, ec 7 (.iconst 1) 1 1, e0 8 (.isub) 1, e0 9 (.i2l) 1, ei 10 (.invokestatic 191) 3 0 189 3 0, e1 13 (.ireturn) 1 1], 14)]
set_option maxRecDepth 100000 in
def K_X12_comesTo : List XB := [(0, [true, true, true, false], [e1 0 (.iload_n 1) 1 1, e1 1 (.istore_n 3) 1 3], 2),
  (2, [true, false, true, true], [e1 2 (.iload_n 3) 1 3, e1 3 (.iload_n 2) 1 2, e1 4 (.if_icmp .eq 17) 3 21, e1 7 (.iload_n 3) 1 3, e1 8 (.ifCond .eq 13) 3 21, e1 11 (.aload_n 0) 1 0, e3 12 (.getfield 7) 3 22 2 2, e1 15 (.iload_n 3) 1 3, e0 16 (.iaload) 1, e1 17 (.istore_n 3) 1 3, e1 18 (.goto (-16)) 3 2], 21),
  (21, [false, false, true, true], [e1 21 (.iload_n 3) 1 3, e1 22 (.iload_n 2) 1 2, e1 23 (.if_icmp .ne 7) 3 30, ec 26 (.iconst 1) 1 1, e1 27 (.goto 4) 3 31], 30),
  (30, [false, false, false, false], [ec 30 (.iconst 0) 1 0], 31),
  (31, [false, false, false, false], [e1 31 (.ireturn) 1 1], 32)]
set_option maxRecDepth 100000 in
def K_X12_baseOf : List XB := [(0, [true, true, false], [e1 0 (.iload_n 1) 1 1, e1 1 (.istore_n 2) 1 2], 2),
  (2, [true, false, true], [e1 2 (.iload_n 2) 1 2, ec 3 (.iconst 5) 1 5, e1 4 (.if_icmp .le 13) 3 17, e1 7 (.aload_n 0) 1 0, e3 8 (.getfield 7) 3 22 2 2, e1 11 (.iload_n 2) 1 2, e0 12 (.iaload) 1, e1 13 (.istore_n 2) 1 2, e1 14 (.goto (-12)) 3 2], 17),
  (17, [false, false, true], [e1 17 (.iload_n 2) 1 2, e1 18 (.ireturn) 1 0], 19)]
set_option maxRecDepth 100000 in
def K_X12_kind : List XB := [(0, [true, true], [e1 0 (.aload_n 0) 1 0, e1 1 (.iload_n 1) 1 1, ei 2 (.invokevirtual 195) 3 22 192 2 0, e1 5 (.ifCond .ne 5) 3 10, ec 8 (.iconst (-1)) 1 (-1), e1 9 (.ireturn) 1 0], 10),
  (10, [true, true], [e1 10 (.aload_n 0) 1 0, e3 11 (.getfield 161) 3 22 1 0, ec 14 (.bipush 24) 2 24, e1 16 (.if_icmp .ne 6) 3 22, ec 19 (.bipush (-4)) 2 (-4), e1 21 (.ireturn) 1 0], 22),
  (22, [true, true], [e1 22 (.aload_n 0) 1 0, e3 23 (.getfield 7) 3 22 2 2, e1 26 (.aload_n 0) 1 0, e3 27 (.getfield 161) 3 22 1 0, e1 30 (.iload_n 1) 1 1, e0 31 (.iastore) 1, e1 32 (.aload_n 0) 1 0, e0 33 (.dup) 1, e3 34 (.getfield 161) 3 22 1 0, ec 37 (.iconst 1) 1 1, e0 38 (.iadd) 1, e3 39 (.putfield 161) 3 22 1 0, e1 42 (.aload_n 0) 1 0, e3 43 (.getfield 161) 3 22 1 0, ec 46 (.iconst 1) 1 1, e0 47 (.isub) 1, e1 48 (.ireturn) 1 0], 49)]
set_option maxRecDepth 100000 in
def K_X12_is : List XB := [(0, [true, true, true], [e1 0 (.aload_n 0) 1 0, e1 1 (.iload_n 1) 1 1, ei 2 (.invokevirtual 195) 3 22 192 2 0, e1 5 (.ifCond .eq 11) 3 16, e1 8 (.aload_n 0) 1 0, e1 9 (.iload_n 2) 1 2, ei 10 (.invokevirtual 195) 3 22 192 2 0, e1 13 (.ifCond .ne 7) 3 20], 16),
  (16, [false, false, false], [ec 16 (.iconst (-1)) 1 (-1), e1 17 (.goto 17) 3 34], 20),
  (20, [true, true, true], [e1 20 (.aload_n 0) 1 0, e1 21 (.iload_n 1) 1 1, e1 22 (.iload_n 2) 1 2, ei 23 (.invokevirtual 199) 3 22 194 3 0, e1 26 (.ifCond .eq 7) 3 33, ec 29 (.iconst 1) 1 1, e1 30 (.goto 4) 3 34], 33),
  (33, [false, false, false], [ec 33 (.iconst 0) 1 0], 34),
  (34, [false, false, false], [e1 34 (.ireturn) 1 0], 35)]
set_option maxRecDepth 100000 in
def K_X12_property : List XB := [(0, [true, true, true, true, false], [e1 0 (.aload_n 0) 1 0, e1 1 (.iload_n 1) 1 1, ei 2 (.invokevirtual 195) 3 22 192 2 0, e1 5 (.ifCond .eq 17) 3 22, e1 8 (.iload_n 2) 1 2, ec 9 (.bipush 8) 2 8, e1 11 (.if_icmp .ne 13) 3 24, e1 14 (.aload_n 0) 1 0, e1 15 (.iload_n 3) 1 3, ei 16 (.invokevirtual 195) 3 22 192 2 0, e1 19 (.ifCond .ne 5) 3 24], 22),
  (22, [false, false, false, false, false], [ec 22 (.iconst (-1)) 1 (-1), e1 23 (.ireturn) 1 0], 24),
  (24, [true, true, true, true, false], [e1 24 (.iload_n 2) 1 2, e0 25 (.i2l) 1, ec 26 (.lconst 0) 1 0, ec 27 (.ldc2_w 203) 3 8, ei 30 (.invokestatic 191) 3 0 189 3 0, e1 33 (.ifCond .ne 6) 3 39, ec 36 (.bipush (-2)) 2 (-2), e1 38 (.ireturn) 1 0], 39),
  (39, [true, true, true, true, false], [e1 39 (.aload_n 0) 1 0, e3 40 (.getfield 164) 3 22 3 0, ec 43 (.bipush 12) 2 12, e1 45 (.if_icmp .ne 6) 3 51, ec 48 (.bipush (-4)) 2 (-4), e1 50 (.ireturn) 1 0], 51),
  (51, [true, true, true, true, false], [e1 51 (.aload_n 0) 1 0, e3 52 (.getfield 13) 3 22 4 2, e1 55 (.aload_n 0) 1 0, e3 56 (.getfield 164) 3 22 3 0, e1 59 (.iload_n 1) 1 1, e0 60 (.iastore) 1, e1 61 (.aload_n 0) 1 0, e3 62 (.getfield 16) 3 22 5 2, e1 65 (.aload_n 0) 1 0, e3 66 (.getfield 164) 3 22 3 0, e1 69 (.iload_n 2) 1 2, e0 70 (.iastore) 1, e1 71 (.aload_n 0) 1 0, e3 72 (.getfield 19) 3 22 6 2, e1 75 (.aload_n 0) 1 0, e3 76 (.getfield 164) 3 22 3 0, e1 79 (.iload_n 2) 1 2, ec 80 (.bipush 8) 2 8, e1 82 (.if_icmp .ne 11) 3 93, e1 85 (.aload_n 0) 1 0, e1 86 (.iload_n 3) 1 3, ei 87 (.invokevirtual 205) 3 22 195 2 0, e1 90 (.goto 4) 3 94], 93),
  (93, [true, false, false, false, false], [ec 93 (.iconst 0) 1 0], 94),
  (94, [true, false, false, false, false], [e0 94 (.iastore) 1, ec 95 (.iconst 0) 1 0, e1 96 (.istore 4) 2 4], 98),
  (98, [true, false, false, false, true], [e1 98 (.iload 4) 2 4, ec 100 (.bipush 64) 2 64, e1 102 (.if_icmp .ge 26) 3 128, e1 105 (.aload_n 0) 1 0, e3 106 (.getfield 60) 3 22 20 2, ec 109 (.bipush 64) 2 64, e1 111 (.aload_n 0) 1 0, e3 112 (.getfield 164) 3 22 3 0, e0 115 (.imul) 1, e1 116 (.iload 4) 2 4, e0 118 (.iadd) 1, ec 119 (.bipush (-9)) 2 (-9), e0 121 (.iastore) 1, ek 122 (.iinc 4 1) 3 1 4, e1 125 (.goto (-27)) 3 98], 128),
  (128, [true, false, false, false, false], [e1 128 (.aload_n 0) 1 0, e0 129 (.dup) 1, e3 130 (.getfield 164) 3 22 3 0, ec 133 (.iconst 1) 1 1, e0 134 (.iadd) 1, e3 135 (.putfield 164) 3 22 3 0, e1 138 (.aload_n 0) 1 0, e3 139 (.getfield 164) 3 22 3 0, ec 142 (.iconst 1) 1 1, e0 143 (.isub) 1, e1 144 (.ireturn) 1 0], 145)]
set_option maxRecDepth 100000 in
def K_X12_cell : List XB := [(0, [true, true, false], [e1 0 (.iload_n 0) 1 0, es 1 (.tableswitch 87 0 7 #[47, 59, 64, 69, 75, 87, 79, 83]) 47 0 88 [48, 60, 65, 70, 76, 88, 80, 84]], 48),
  (48, [false, true, false], [e1 48 (.lload_n 1) 1 1, ec 49 (.lconst 0) 1 0, e0 50 (.lcmp) 1, e1 51 (.ifCond .ne 7) 3 58, ec 54 (.lconst 0) 1 0, e1 55 (.goto 4) 3 59], 58),
  (58, [false, false, false], [ec 58 (.lconst 1) 1 1], 59),
  (59, [false, false, false], [e0 59 (.lreturn) 1], 60),
  (60, [false, true, false], [e1 60 (.lload_n 1) 1 1, e0 61 (.l2i) 1, e0 62 (.i2b) 1, e0 63 (.i2l) 1, e0 64 (.lreturn) 1], 65),
  (65, [false, true, false], [e1 65 (.lload_n 1) 1 1, e0 66 (.l2i) 1, e0 67 (.i2s) 1, e0 68 (.i2l) 1, e0 69 (.lreturn) 1], 70),
  (70, [false, true, false], [e1 70 (.lload_n 1) 1 1, ec 71 (.ldc2_w 209) 3 65535, e0 74 (.land) 1, e0 75 (.lreturn) 1], 76),
  (76, [false, true, false], [e1 76 (.lload_n 1) 1 1, e0 77 (.l2i) 1, e0 78 (.i2l) 1, e0 79 (.lreturn) 1], 80),
  (80, [false, true, false], [e1 80 (.lload_n 1) 1 1, e0 81 (.l2f) 1, e0 82 (.f2l) 1, e0 83 (.lreturn) 1], 84),
  (84, [false, true, false], [e1 84 (.lload_n 1) 1 1, e0 85 (.l2d) 1, e0 86 (.d2l) 1, e0 87 (.lreturn) 1], 88),
  (88, [false, true, false], [e1 88 (.lload_n 1) 1 1, e0 89 (.lreturn) 1], 90)]
set_option maxRecDepth 100000 in
def K_X12_isUnknown : List XB := [(0, [true, true, true, false], [e1 0 (.aload_n 0) 1 0, e3 1 (.getfield 16) 3 22 5 2, e1 4 (.iload_n 1) 1 1, e0 5 (.iaload) 1, ec 6 (.bipush 8) 2 8, e1 8 (.if_icmp .ne 30) 3 38, e1 11 (.lload_n 2) 1 2, ec 12 (.ldc2_w 211) 3 (-9), e0 15 (.lcmp) 1, e1 16 (.ifCond .eq 22) 3 38, e1 19 (.lload_n 2) 1 2, ec 20 (.lconst 0) 1 0, e1 21 (.aload_n 0) 1 0, e3 22 (.getfield 167) 3 22 9 0, e0 25 (.i2l) 1, ec 26 (.lconst 1) 1 1, e0 27 (.lsub) 1, ei 28 (.invokestatic 191) 3 0 189 3 0, e1 31 (.ifCond .ne 7) 3 38, ec 34 (.iconst 1) 1 1, e1 35 (.goto 4) 3 39], 38),
  (38, [false, false, false, false], [ec 38 (.iconst 0) 1 0], 39),
  (39, [false, false, false, false], [e1 39 (.ireturn) 1 1], 40)]
set_option maxRecDepth 100000 in
def K_X12_isStored : List XB := [(0, [true, true, true, false], [e1 0 (.aload_n 0) 1 0, e3 1 (.getfield 16) 3 22 5 2, e1 4 (.iload_n 1) 1 1, e0 5 (.iaload) 1, ec 6 (.bipush 8) 2 8, e1 8 (.if_icmp .ne 35) 3 43, e1 11 (.lload_n 2) 1 2, ec 12 (.ldc2_w 211) 3 (-9), e0 15 (.lcmp) 1, e1 16 (.ifCond .eq 27) 3 43, e1 19 (.aload_n 0) 1 0, e1 20 (.aload_n 0) 1 0, e1 21 (.aload_n 0) 1 0, e3 22 (.getfield 30) 3 22 10 2, e1 25 (.lload_n 2) 1 2, e0 26 (.l2i) 1, e0 27 (.iaload) 1, ei 28 (.invokevirtual 205) 3 22 195 2 0, e1 31 (.aload_n 0) 1 0, e3 32 (.getfield 19) 3 22 6 2, e1 35 (.iload_n 1) 1 1, e0 36 (.iaload) 1, ei 37 (.invokevirtual 199) 3 22 194 3 0, e1 40 (.ifCond .eq 7) 3 47], 43),
  (43, [false, false, false, false], [ec 43 (.iconst 1) 1 1, e1 44 (.goto 4) 3 48], 47),
  (47, [false, false, false, false], [ec 47 (.iconst 0) 1 0], 48),
  (48, [false, false, false, false], [e1 48 (.ireturn) 1 1], 49)]
set_option maxRecDepth 100000 in
def K_X12_usual : List XB := [(0, [true, true, true, true, false], [e1 0 (.aload_n 0) 1 0, e1 1 (.iload_n 1) 1 1, ei 2 (.invokevirtual 195) 3 22 192 2 0, e1 5 (.ifCond .eq 20) 3 25, e1 8 (.aload_n 0) 1 0, e1 9 (.iload_n 2) 1 2, ei 10 (.invokevirtual 213) 3 22 193 2 0, e1 13 (.ifCond .eq 12) 3 25, e1 16 (.aload_n 0) 1 0, e1 17 (.iload_n 2) 1 2, e1 18 (.lload_n 3) 1 3, ei 19 (.invokevirtual 216) 3 22 200 3 0, e1 22 (.ifCond .eq 5) 3 27], 25),
  (25, [false, false, false, false, false], [ec 25 (.iconst (-1)) 1 (-1), e1 26 (.ireturn) 1 0], 27),
  (27, [true, true, true, true, false], [e1 27 (.aload_n 0) 1 0, e1 28 (.iload_n 1) 1 1, e1 29 (.aload_n 0) 1 0, e3 30 (.getfield 13) 3 22 4 2, e1 33 (.iload_n 2) 1 2, e0 34 (.iaload) 1, ei 35 (.invokevirtual 199) 3 22 194 3 0, e1 38 (.ifCond .ne 6) 3 44, ec 41 (.bipush (-3)) 2 (-3), e1 43 (.ireturn) 1 0], 44),
  (44, [true, true, true, true, false], [e1 44 (.aload_n 0) 1 0, e1 45 (.iload_n 2) 1 2, e1 46 (.lload_n 3) 1 3, ei 47 (.invokevirtual 220) 3 22 201 3 0, e1 50 (.ifCond .ne 10) 3 60, e1 53 (.aload_n 0) 1 0, ec 54 (.bipush (-14)) 2 (-14), ei 56 (.invokevirtual 223) 3 22 190 2 0, e1 59 (.ireturn) 1 0], 60),
  (60, [true, true, true, true, false], [e1 60 (.aload_n 0) 1 0, e3 61 (.getfield 22) 3 22 7 2, ec 64 (.bipush 12) 2 12, e1 66 (.iload_n 1) 1 1, e0 67 (.imul) 1, e1 68 (.iload_n 2) 1 2, e0 69 (.iadd) 1, ec 70 (.iconst 1) 1 1, e0 71 (.bastore) 1, e1 72 (.aload_n 0) 1 0, e3 73 (.getfield 26) 3 22 8 2, ec 76 (.bipush 12) 2 12, e1 78 (.iload_n 1) 1 1, e0 79 (.imul) 1, e1 80 (.iload_n 2) 1 2, e0 81 (.iadd) 1, e1 82 (.aload_n 0) 1 0, e3 83 (.getfield 16) 3 22 5 2, e1 86 (.iload_n 2) 1 2, e0 87 (.iaload) 1, e1 88 (.lload_n 3) 1 3, ei 89 (.invokestatic 226) 3 0 199 2 1, e0 92 (.lastore) 1, ec 93 (.iconst 1) 1 1, e1 94 (.ireturn) 1 0], 95)]
set_option maxRecDepth 100000 in
def K_X12_isThing : List XB := [(0, [true, true, false], [e1 0 (.lload_n 1) 1 1, ec 1 (.lconst 0) 1 0, e1 2 (.aload_n 0) 1 0, e3 3 (.getfield 167) 3 22 9 0, e0 6 (.i2l) 1, ec 7 (.lconst 1) 1 1, e0 8 (.lsub) 1, ei 9 (.invokestatic 191) 3 0 189 3 0, e1 12 (.ireturn) 1 1], 13)]
set_option maxRecDepth 100000 in
def K_X12_base : List XB := [(0, [true, true], [e1 0 (.aload_n 0) 1 0, e1 1 (.aload_n 0) 1 0, e3 2 (.getfield 30) 3 22 10 2, e1 5 (.iload_n 1) 1 1, e0 6 (.iaload) 1, ei 7 (.invokevirtual 205) 3 22 195 2 0, e1 10 (.ireturn) 1 0], 11)]
set_option maxRecDepth 100000 in
def K_X12_isCarrier : List XB := [(0, [true, true], [e1 0 (.aload_n 0) 1 0, e1 1 (.iload_n 1) 1 1, ei 2 (.invokevirtual 230) 3 22 204 2 0, ec 5 (.iconst 4) 1 4, e1 6 (.if_icmp .eq 12) 3 18, e1 9 (.aload_n 0) 1 0, e1 10 (.iload_n 1) 1 1, ei 11 (.invokevirtual 230) 3 22 204 2 0, ec 14 (.iconst 5) 1 5, e1 15 (.if_icmp .ne 7) 3 22], 18),
  (18, [false, false], [ec 18 (.iconst 1) 1 1, e1 19 (.goto 4) 3 23], 22),
  (22, [false, false], [ec 22 (.iconst 0) 1 0], 23),
  (23, [false, false], [e1 23 (.ireturn) 1 1], 24)]
set_option maxRecDepth 100000 in
def K_X12_isHolder : List XB := [(0, [true, true], [e1 0 (.aload_n 0) 1 0, e1 1 (.iload_n 1) 1 1, ei 2 (.invokevirtual 230) 3 22 204 2 0, ec 5 (.iconst 1) 1 1, e1 6 (.if_icmp .eq 11) 3 17, e1 9 (.aload_n 0) 1 0, e1 10 (.iload_n 1) 1 1, ei 11 (.invokevirtual 233) 3 22 205 2 0, e1 14 (.ifCond .eq 7) 3 21], 17),
  (17, [false, false], [ec 17 (.iconst 1) 1 1, e1 18 (.goto 4) 3 22], 21),
  (21, [false, false], [ec 21 (.iconst 0) 1 0], 22),
  (22, [false, false], [e1 22 (.ireturn) 1 1], 23)]
set_option maxRecDepth 100000 in
def K_X12_isFixed : List XB := [(0, [true, true], [e1 0 (.aload_n 0) 1 0, e1 1 (.iload_n 1) 1 1, ei 2 (.invokevirtual 230) 3 22 204 2 0, ec 5 (.iconst 1) 1 1, e1 6 (.if_icmp .eq 12) 3 18, e1 9 (.aload_n 0) 1 0, e1 10 (.iload_n 1) 1 1, ei 11 (.invokevirtual 230) 3 22 204 2 0, ec 14 (.iconst 2) 1 2, e1 15 (.if_icmp .ne 7) 3 22], 18),
  (18, [false, false], [ec 18 (.iconst 1) 1 1, e1 19 (.goto 4) 3 23], 22),
  (22, [false, false], [ec 22 (.iconst 0) 1 0], 23),
  (23, [false, false], [e1 23 (.ireturn) 1 1], 24)]
set_option maxRecDepth 100000 in
def K_X12_isBackdrop : List XB := [(0, [true, true], [e1 0 (.aload_n 0) 1 0, e1 1 (.iload_n 1) 1 1, ei 2 (.invokevirtual 230) 3 22 204 2 0, ec 5 (.iconst 3) 1 3, e1 6 (.if_icmp .ne 7) 3 13, ec 9 (.iconst 1) 1 1, e1 10 (.goto 4) 3 14], 13),
  (13, [false, false], [ec 13 (.iconst 0) 1 0], 14),
  (14, [false, false], [e1 14 (.ireturn) 1 1], 15)]
set_option maxRecDepth 100000 in
def K_X12_thing : List XB := [(0, [true, true, true, false], [e1 0 (.aload_n 0) 1 0, e1 1 (.iload_n 1) 1 1, ei 2 (.invokevirtual 195) 3 22 192 2 0, e1 5 (.ifCond .ne 5) 3 10, ec 8 (.iconst (-1)) 1 (-1), e1 9 (.ireturn) 1 0], 10),
  (10, [true, true, true, false], [e1 10 (.iload_n 2) 1 2, e0 11 (.i2l) 1, ec 12 (.lconst 0) 1 0, ec 13 (.ldc2_w 236) 3 1000, ei 16 (.invokestatic 191) 3 0 189 3 0, e1 19 (.ifCond .ne 6) 3 25, ec 22 (.bipush (-2)) 2 (-2), e1 24 (.ireturn) 1 0], 25),
  (25, [true, true, true, false], [e1 25 (.aload_n 0) 1 0, e3 26 (.getfield 167) 3 22 9 0, ec 29 (.bipush 64) 2 64, e1 31 (.if_icmp .ne 6) 3 37, ec 34 (.bipush (-4)) 2 (-4), e1 36 (.ireturn) 1 0], 37),
  (37, [true, true, true, false], [e1 37 (.aload_n 0) 1 0, e3 38 (.getfield 167) 3 22 9 0, e1 41 (.istore_n 3) 1 3, e1 42 (.aload_n 0) 1 0, e0 43 (.dup) 1, e3 44 (.getfield 167) 3 22 9 0, ec 47 (.iconst 1) 1 1, e0 48 (.iadd) 1, e3 49 (.putfield 167) 3 22 9 0, e1 52 (.aload_n 0) 1 0, e3 53 (.getfield 30) 3 22 10 2, e1 56 (.iload_n 3) 1 3, e1 57 (.iload_n 1) 1 1, e0 58 (.iastore) 1, e1 59 (.aload_n 0) 1 0, e3 60 (.getfield 33) 3 22 11 2, e1 63 (.iload_n 3) 1 3, e1 64 (.iload_n 2) 1 2, e0 65 (.iastore) 1, e1 66 (.aload_n 0) 1 0, e3 67 (.getfield 36) 3 22 12 2, e1 70 (.iload_n 3) 1 3, e1 71 (.iload_n 2) 1 2, e0 72 (.iastore) 1, e1 73 (.aload_n 0) 1 0, e3 74 (.getfield 39) 3 22 13 2, e1 77 (.iload_n 3) 1 3, e1 78 (.iload_n 2) 1 2, e0 79 (.iastore) 1, e1 80 (.aload_n 0) 1 0, e3 81 (.getfield 42) 3 22 14 2, e1 84 (.iload_n 3) 1 3, ec 85 (.iconst 0) 1 0, e0 86 (.bastore) 1, e1 87 (.aload_n 0) 1 0, e3 88 (.getfield 51) 3 22 17 2, e1 91 (.iload_n 3) 1 3, ec 92 (.iconst 0) 1 0, e0 93 (.iastore) 1, e1 94 (.aload_n 0) 1 0, e3 95 (.getfield 54) 3 22 18 2, e1 98 (.iload_n 3) 1 3, ec 99 (.lconst 0) 1 0, e0 100 (.lastore) 1, e1 101 (.aload_n 0) 1 0, e3 102 (.getfield 57) 3 22 19 2, e1 105 (.iload_n 3) 1 3, ec 106 (.bipush (-9)) 2 (-9), e0 108 (.iastore) 1, e1 109 (.iload_n 3) 1 3, e1 110 (.ireturn) 1 0], 111)]
set_option maxRecDepth 100000 in
def K_X12_tell : List XB := [(0, [true, true, true, true, true], [e1 0 (.aload_n 0) 1 0, e3 1 (.getfield 66) 3 22 23 2, e1 4 (.aload_n 0) 1 0, e3 5 (.getfield 170) 3 22 22 0, e1 8 (.iload_n 1) 1 1, e0 9 (.iastore) 1, e1 10 (.aload_n 0) 1 0, e3 11 (.getfield 69) 3 22 24 2, e1 14 (.aload_n 0) 1 0, e3 15 (.getfield 170) 3 22 22 0, e1 18 (.iload_n 2) 1 2, e0 19 (.iastore) 1, e1 20 (.aload_n 0) 1 0, e3 21 (.getfield 72) 3 22 25 2, e1 24 (.aload_n 0) 1 0, e3 25 (.getfield 170) 3 22 22 0, e1 28 (.iload_n 3) 1 3, e0 29 (.iastore) 1, e1 30 (.aload_n 0) 1 0, e3 31 (.getfield 75) 3 22 26 2, e1 34 (.aload_n 0) 1 0, e3 35 (.getfield 170) 3 22 22 0, e1 38 (.iload 4) 2 4, e0 40 (.iastore) 1, e1 41 (.aload_n 0) 1 0, e0 42 (.dup) 1, e3 43 (.getfield 170) 3 22 22 0, ec 46 (.iconst 1) 1 1, e0 47 (.iadd) 1, e3 48 (.putfield 170) 3 22 22 0, e1 51 (.aload_n 0) 1 0, e3 52 (.getfield 170) 3 22 22 0, ec 55 (.iconst 1) 1 1, e0 56 (.isub) 1, e1 57 (.ireturn) 1 0], 58)]
set_option maxRecDepth 100000 in
def K_X12_against : List XB := [(0, [true], [ec 0 (.bipush (-100)) 2 (-100), e1 2 (.iload_n 0) 1 0, e0 3 (.isub) 1, e1 4 (.ireturn) 1 0], 5)]
set_option maxRecDepth 100000 in
def K_X12_first : List XB := [(0, [true, true, true, true, false], [ec 0 (.iconst 0) 1 0, e1 1 (.istore 4) 2 4], 3),
  (3, [true, true, true, true, true], [e1 3 (.iload 4) 2 4, e1 5 (.aload_n 0) 1 0, e3 6 (.getfield 170) 3 22 22 0, e1 9 (.if_icmp .ge 45) 3 54, e1 12 (.aload_n 0) 1 0, e3 13 (.getfield 66) 3 22 23 2, e1 16 (.iload 4) 2 4, e0 18 (.iaload) 1, e1 19 (.iload_n 1) 1 1, e1 20 (.if_icmp .ne 28) 3 48, e1 23 (.aload_n 0) 1 0, e3 24 (.getfield 69) 3 22 24 2, e1 27 (.iload 4) 2 4, e0 29 (.iaload) 1, e1 30 (.iload_n 2) 1 2, e1 31 (.if_icmp .ne 17) 3 48, e1 34 (.aload_n 0) 1 0, e3 35 (.getfield 72) 3 22 25 2, e1 38 (.iload 4) 2 4, e0 40 (.iaload) 1, e1 41 (.iload_n 3) 1 3, e1 42 (.if_icmp .ne 6) 3 48, e1 45 (.iload 4) 2 4, e1 47 (.ireturn) 1 0], 48),
  (48, [true, true, true, true, true], [ek 48 (.iinc 4 1) 3 1 4, e1 51 (.goto (-48)) 3 3], 54),
  (54, [false, false, false, false, false], [ec 54 (.bipush (-9)) 2 (-9), e1 56 (.ireturn) 1 0], 57)]
set_option maxRecDepth 100000 in
def K_X12_latestAmong : List XB := [(0, [true, true, false, false], [ec 0 (.bipush (-9)) 2 (-9), e1 2 (.istore_n 2) 1 2, ec 3 (.iconst 0) 1 0, e1 4 (.istore_n 3) 1 3], 5),
  (5, [true, true, true, true], [e1 5 (.iload_n 3) 1 3, e1 6 (.aload_n 0) 1 0, e3 7 (.getfield 170) 3 22 22 0, e1 10 (.if_icmp .ge 35) 3 45, e1 13 (.aload_n 0) 1 0, e3 14 (.getfield 66) 3 22 23 2, e1 17 (.iload_n 3) 1 3, e0 18 (.iaload) 1, ec 19 (.iconst 3) 1 3, e1 20 (.if_icmp .ne 17) 3 37, e1 23 (.aload_n 0) 1 0, e3 24 (.getfield 69) 3 22 24 2, e1 27 (.iload_n 3) 1 3, e0 28 (.iaload) 1, e1 29 (.iload_n 1) 1 1, e1 30 (.if_icmp .ne 7) 3 37, e1 33 (.iload_n 3) 1 3, e1 34 (.goto 4) 3 38], 37),
  (37, [true, true, true, true], [e1 37 (.iload_n 2) 1 2], 38),
  (38, [true, true, false, true], [e1 38 (.istore_n 2) 1 2, ek 39 (.iinc 3 1) 3 1 3, e1 42 (.goto (-37)) 3 5], 45),
  (45, [false, false, true, false], [e1 45 (.iload_n 2) 1 2, e1 46 (.ireturn) 1 0], 47)]
set_option maxRecDepth 100000 in
def K_X12_isWithin : List XB := [(0, [true, true, true, false], [e1 0 (.iload_n 1) 1 1, e1 1 (.istore_n 3) 1 3], 2),
  (2, [true, false, true, true], [e1 2 (.iload_n 3) 1 3, e1 3 (.iload_n 2) 1 2, e1 4 (.if_icmp .eq 25) 3 29, e1 7 (.aload_n 0) 1 0, e3 8 (.getfield 51) 3 22 17 2, e1 11 (.iload_n 3) 1 3, e0 12 (.iaload) 1, e1 13 (.ifCond .le 16) 3 29, e1 16 (.aload_n 0) 1 0, e3 17 (.getfield 45) 3 22 15 2, ec 20 (.bipush 6) 2 6, e1 22 (.iload_n 3) 1 3, e0 23 (.imul) 1, e0 24 (.iaload) 1, e1 25 (.istore_n 3) 1 3, e1 26 (.goto (-24)) 3 2], 29),
  (29, [false, false, true, true], [e1 29 (.iload_n 3) 1 3, e1 30 (.iload_n 2) 1 2, e1 31 (.if_icmp .ne 7) 3 38, ec 34 (.iconst 1) 1 1, e1 35 (.goto 4) 3 39], 38),
  (38, [false, false, false, false], [ec 38 (.iconst 0) 1 0], 39),
  (39, [false, false, false, false], [e1 39 (.ireturn) 1 1], 40)]
set_option maxRecDepth 100000 in
def K_X12_placeOf : List XB := [(0, [true, true], [e1 0 (.aload_n 0) 1 0, e3 1 (.getfield 51) 3 22 17 2, e1 4 (.iload_n 1) 1 1, e0 5 (.iaload) 1, e1 6 (.ifCond .ne 8) 3 14, ec 9 (.bipush (-9)) 2 (-9), e1 11 (.goto 12) 3 23], 14),
  (14, [true, true], [e1 14 (.aload_n 0) 1 0, e3 15 (.getfield 45) 3 22 15 2, ec 18 (.bipush 6) 2 6, e1 20 (.iload_n 1) 1 1, e0 21 (.imul) 1, e0 22 (.iaload) 1], 23),
  (23, [false, false], [e1 23 (.ireturn) 1 0], 24)]
set_option maxRecDepth 100000 in
def K_X12_nth : List XB := [(0, [true, true, true, false], [ec 0 (.iconst 0) 1 0, e1 1 (.istore_n 3) 1 3], 2),
  (2, [true, true, true, true], [e1 2 (.iload_n 3) 1 3, e1 3 (.aload_n 0) 1 0, e3 4 (.getfield 51) 3 22 17 2, e1 7 (.iload_n 1) 1 1, e0 8 (.iaload) 1, e1 9 (.if_icmp .ge 26) 3 35, e1 12 (.aload_n 0) 1 0, e3 13 (.getfield 45) 3 22 15 2, ec 16 (.bipush 6) 2 6, e1 18 (.iload_n 1) 1 1, e0 19 (.imul) 1, e1 20 (.iload_n 3) 1 3, e0 21 (.iadd) 1, e0 22 (.iaload) 1, e1 23 (.iload_n 2) 1 2, e1 24 (.if_icmp .ne 5) 3 29, e1 27 (.iload_n 3) 1 3, e1 28 (.ireturn) 1 0], 29),
  (29, [true, true, true, true], [ek 29 (.iinc 3 1) 3 1 3, e1 32 (.goto (-30)) 3 2], 35),
  (35, [false, false, false, false], [ec 35 (.bipush (-9)) 2 (-9), e1 37 (.ireturn) 1 0], 38)]
set_option maxRecDepth 100000 in
def K_X12_held : List XB := [(0, [true, true, false, false], [ec 0 (.iconst 0) 1 0, e1 1 (.istore_n 2) 1 2, ec 2 (.iconst 0) 1 0, e1 3 (.istore_n 3) 1 3], 4),
  (4, [true, true, true, true], [e1 4 (.iload_n 3) 1 3, e1 5 (.aload_n 0) 1 0, e3 6 (.getfield 167) 3 22 9 0, e1 9 (.if_icmp .ge 34) 3 43, e1 12 (.iload_n 2) 1 2, e1 13 (.aload_n 0) 1 0, e1 14 (.iload_n 3) 1 3, ei 15 (.invokevirtual 238) 3 22 208 2 0, e1 18 (.ifCond .ne 16) 3 34, e1 21 (.aload_n 0) 1 0, e1 22 (.iload_n 3) 1 3, ei 23 (.invokevirtual 241) 3 22 215 2 0, e1 26 (.iload_n 1) 1 1, e1 27 (.if_icmp .ne 7) 3 34, ec 30 (.iconst 1) 1 1, e1 31 (.goto 4) 3 35], 34),
  (34, [true, true, false, true], [ec 34 (.iconst 0) 1 0], 35),
  (35, [true, true, false, true], [e0 35 (.iadd) 1, e1 36 (.istore_n 2) 1 2, ek 37 (.iinc 3 1) 3 1 3, e1 40 (.goto (-36)) 3 4], 43),
  (43, [false, false, true, false], [e1 43 (.iload_n 2) 1 2, e1 44 (.ireturn) 1 0], 45)]
set_option maxRecDepth 100000 in
def K_X12_pairAgainst : List XB := [(0, [true, true, true, false, false, false], [ec 0 (.iconst 0) 1 0, e1 1 (.istore_n 3) 1 3], 2),
  (2, [true, true, true, true, false, false], [e1 2 (.iload_n 3) 1 3, e1 3 (.aload_n 0) 1 0, e3 4 (.getfield 170) 3 22 22 0, e1 7 (.if_icmp .ge 112) 3 119, e1 10 (.aload_n 0) 1 0, e3 11 (.getfield 66) 3 22 23 2, e1 14 (.iload_n 3) 1 3, e0 15 (.iaload) 1, ec 16 (.iconst 4) 1 4, e1 17 (.if_icmp .ne 96) 3 113, e1 20 (.aload_n 0) 1 0, e3 21 (.getfield 69) 3 22 24 2, e1 24 (.iload_n 3) 1 3, e0 25 (.iaload) 1, e1 26 (.iload_n 1) 1 1, e1 27 (.if_icmp .eq 13) 3 40, e1 30 (.aload_n 0) 1 0, e3 31 (.getfield 72) 3 22 25 2, e1 34 (.iload_n 3) 1 3, e0 35 (.iaload) 1, e1 36 (.iload_n 1) 1 1, e1 37 (.if_icmp .ne 76) 3 113], 40),
  (40, [true, true, true, true, false, false], [e1 40 (.aload_n 0) 1 0, e3 41 (.getfield 69) 3 22 24 2, e1 44 (.iload_n 3) 1 3, e0 45 (.iaload) 1, e1 46 (.iload_n 1) 1 1, e1 47 (.if_icmp .ne 12) 3 59, e1 50 (.aload_n 0) 1 0, e3 51 (.getfield 72) 3 22 25 2, e1 54 (.iload_n 3) 1 3, e0 55 (.iaload) 1, e1 56 (.goto 9) 3 65], 59),
  (59, [true, true, true, true, false, false], [e1 59 (.aload_n 0) 1 0, e3 60 (.getfield 69) 3 22 24 2, e1 63 (.iload_n 3) 1 3, e0 64 (.iaload) 1], 65),
  (65, [true, true, true, true, false, false], [e1 65 (.istore 4) 2 4, e1 67 (.aload_n 0) 1 0, e1 68 (.iload 4) 2 4, ei 70 (.invokevirtual 241) 3 22 215 2 0, e1 73 (.istore 5) 2 5, e1 75 (.iload 5) 2 5, ec 77 (.bipush (-9)) 2 (-9), e1 79 (.if_icmp .eq 34) 3 113, e1 82 (.iload 5) 2 5, e1 84 (.iload_n 2) 1 2, e1 85 (.if_icmp .ne 7) 3 92, ec 88 (.iconst 1) 1 1, e1 89 (.goto 4) 3 93], 92),
  (92, [true, true, true, true, false, false], [ec 92 (.iconst 0) 1 0], 93),
  (93, [true, true, true, true, false, false], [e1 93 (.aload_n 0) 1 0, e3 94 (.getfield 75) 3 22 26 2, e1 97 (.iload_n 3) 1 3, e0 98 (.iaload) 1, ec 99 (.iconst 1) 1 1, e1 100 (.if_icmp .ne 7) 3 107, ec 103 (.iconst 1) 1 1, e1 104 (.goto 4) 3 108], 107),
  (107, [true, true, true, true, false, false], [ec 107 (.iconst 0) 1 0], 108),
  (108, [true, true, true, true, false, false], [e1 108 (.if_icmp .eq 5) 3 113, e1 111 (.iload_n 3) 1 3, e1 112 (.ireturn) 1 0], 113),
  (113, [true, true, true, true, false, false], [ek 113 (.iinc 3 1) 3 1 3, e1 116 (.goto (-114)) 3 2], 119),
  (119, [false, false, false, false, false, false], [ec 119 (.bipush (-9)) 2 (-9), e1 121 (.ireturn) 1 0], 122)]
set_option maxRecDepth 100000 in
def K_X12_putAgainst : List XB := [(0, [true, true, true, false, false], [e1 0 (.aload_n 0) 1 0, e1 1 (.iload_n 1) 1 1, ei 2 (.invokevirtual 238) 3 22 208 2 0, e1 5 (.istore_n 3) 1 3, e1 6 (.iload_n 3) 1 3, e1 7 (.ifCond .ne 22) 3 29, e1 10 (.aload_n 0) 1 0, e3 11 (.getfield 51) 3 22 17 2, e1 14 (.iload_n 1) 1 1, e0 15 (.iaload) 1, e1 16 (.ifCond .le 13) 3 29, e1 19 (.aload_n 0) 1 0, e3 20 (.getfield 48) 3 22 16 2, ec 23 (.bipush 6) 2 6, e1 25 (.iload_n 1) 1 1, e0 26 (.imul) 1, e0 27 (.iaload) 1, e1 28 (.ireturn) 1 0], 29),
  (29, [true, true, true, true, false], [e1 29 (.aload_n 0) 1 0, ec 30 (.iconst 1) 1 1, e1 31 (.iload_n 1) 1 1, e1 32 (.iload_n 2) 1 2, ei 33 (.invokevirtual 244) 3 22 212 4 0, e1 36 (.istore 4) 2 4, e1 38 (.iload 4) 2 4, ec 40 (.bipush (-9)) 2 (-9), e1 42 (.if_icmp .eq 6) 3 48, e1 45 (.iload 4) 2 4, e1 47 (.ireturn) 1 0], 48),
  (48, [true, true, true, true, false], [e1 48 (.aload_n 0) 1 0, e3 49 (.getfield 54) 3 22 18 2, e1 52 (.iload_n 1) 1 1, e0 53 (.laload) 1, ec 54 (.lconst 0) 1 0, e0 55 (.lcmp) 1, e1 56 (.ifCond .eq 24) 3 80, e1 59 (.aload_n 0) 1 0, e3 60 (.getfield 54) 3 22 18 2, e1 63 (.iload_n 1) 1 1, e0 64 (.laload) 1, e1 65 (.iload_n 2) 1 2, e0 66 (.lushr) 1, ec 67 (.lconst 1) 1 1, e0 68 (.land) 1, ec 69 (.lconst 0) 1 0, e0 70 (.lcmp) 1, e1 71 (.ifCond .ne 9) 3 80, e1 74 (.aload_n 0) 1 0, e1 75 (.iload_n 1) 1 1, ei 76 (.invokevirtual 248) 3 22 213 2 0, e1 79 (.ireturn) 1 0], 80),
  (80, [true, true, true, true, false], [e1 80 (.iload_n 3) 1 3, e1 81 (.ifCond .ne 40) 3 121, e1 84 (.aload_n 0) 1 0, e3 85 (.getfield 57) 3 22 19 2, e1 88 (.iload_n 2) 1 2, e0 89 (.iaload) 1, ec 90 (.bipush (-9)) 2 (-9), e1 92 (.if_icmp .eq 29) 3 121, e1 95 (.aload_n 0) 1 0, e1 96 (.iload_n 2) 1 2, ei 97 (.invokevirtual 251) 3 22 217 2 0, e1 100 (.aload_n 0) 1 0, e3 101 (.getfield 72) 3 22 25 2, e1 104 (.aload_n 0) 1 0, e3 105 (.getfield 57) 3 22 19 2, e1 108 (.iload_n 2) 1 2, e0 109 (.iaload) 1, e0 110 (.iaload) 1, e1 111 (.if_icmp .lt 10) 3 121, e1 114 (.aload_n 0) 1 0, e3 115 (.getfield 57) 3 22 19 2, e1 118 (.iload_n 2) 1 2, e0 119 (.iaload) 1, e1 120 (.ireturn) 1 0], 121),
  (121, [true, true, true, false, false], [e1 121 (.aload_n 0) 1 0, e1 122 (.iload_n 1) 1 1, e1 123 (.iload_n 2) 1 2, ei 124 (.invokevirtual 254) 3 22 218 3 0, e1 127 (.ireturn) 1 0], 128)]
set_option maxRecDepth 100000 in
def K_X12_lies : List XB := [(0, [true, true, true, false], [e1 0 (.aload_n 0) 1 0, ec 1 (.iconst 0) 1 0, e1 2 (.iload_n 1) 1 1, e1 3 (.iload_n 2) 1 2, ec 4 (.iconst 0) 1 0, ei 5 (.invokevirtual 258) 3 22 210 5 0, e1 8 (.istore_n 3) 1 3, e1 9 (.aload_n 0) 1 0, e3 10 (.getfield 45) 3 22 15 2, ec 13 (.bipush 6) 2 6, e1 15 (.iload_n 1) 1 1, e0 16 (.imul) 1, e1 17 (.aload_n 0) 1 0, e3 18 (.getfield 51) 3 22 17 2, e1 21 (.iload_n 1) 1 1, e0 22 (.iaload) 1, e0 23 (.iadd) 1, e1 24 (.iload_n 2) 1 2, e0 25 (.iastore) 1, e1 26 (.aload_n 0) 1 0, e3 27 (.getfield 48) 3 22 16 2, ec 30 (.bipush 6) 2 6, e1 32 (.iload_n 1) 1 1, e0 33 (.imul) 1, e1 34 (.aload_n 0) 1 0, e3 35 (.getfield 51) 3 22 17 2, e1 38 (.iload_n 1) 1 1, e0 39 (.iaload) 1, e0 40 (.iadd) 1, e1 41 (.iload_n 3) 1 3, e0 42 (.iastore) 1, e1 43 (.aload_n 0) 1 0, e3 44 (.getfield 51) 3 22 17 2, e1 47 (.iload_n 1) 1 1, e0 48 (.dup2) 1, e0 49 (.iaload) 1, ec 50 (.iconst 1) 1 1, e0 51 (.iadd) 1, e0 52 (.iastore) 1, e1 53 (.iload_n 3) 1 3, e1 54 (.ireturn) 1 0], 55)]
set_option maxRecDepth 100000 in
def K_X12_put : List XB := [(0, [true, true, true, false, false], [e1 0 (.aload_n 0) 1 0, e1 1 (.iload_n 1) 1 1, e0 2 (.i2l) 1, ei 3 (.invokevirtual 262) 3 22 203 2 0, e1 6 (.ifCond .eq 12) 3 18, e1 9 (.aload_n 0) 1 0, e1 10 (.iload_n 2) 1 2, e0 11 (.i2l) 1, ei 12 (.invokevirtual 262) 3 22 203 2 0, e1 15 (.ifCond .ne 5) 3 20], 18),
  (18, [false, false, false, false, false], [ec 18 (.iconst (-1)) 1 (-1), e1 19 (.ireturn) 1 0], 20),
  (20, [true, true, true, false, false], [e1 20 (.aload_n 0) 1 0, e1 21 (.iload_n 1) 1 1, ei 22 (.invokevirtual 238) 3 22 208 2 0, e1 25 (.ifCond .eq 20) 3 45, e1 28 (.aload_n 0) 1 0, e1 29 (.iload_n 2) 1 2, ei 30 (.invokevirtual 230) 3 22 204 2 0, ec 33 (.iconst 1) 1 1, e1 34 (.if_icmp .ne 7) 3 41, ec 37 (.iconst 1) 1 1, e1 38 (.goto 12) 3 50], 41),
  (41, [true, true, true, false, false], [ec 41 (.iconst 0) 1 0, e1 42 (.goto 8) 3 50], 45),
  (45, [true, true, true, false, false], [e1 45 (.aload_n 0) 1 0, e1 46 (.iload_n 2) 1 2, ei 47 (.invokevirtual 266) 3 22 206 2 0], 50),
  (50, [true, true, true, false, false], [e1 50 (.istore_n 3) 1 3, e1 51 (.aload_n 0) 1 0, e1 52 (.iload_n 1) 1 1, ei 53 (.invokevirtual 269) 3 22 207 2 0, e1 56 (.ifCond .ne 27) 3 83, e1 59 (.iload_n 3) 1 3, e1 60 (.ifCond .eq 23) 3 83, e1 63 (.aload_n 0) 1 0, e1 64 (.iload_n 2) 1 2, e1 65 (.iload_n 1) 1 1, ei 66 (.invokevirtual 272) 3 22 214 3 0, e1 69 (.ifCond .ne 14) 3 83, e1 72 (.aload_n 0) 1 0, e1 73 (.iload_n 1) 1 1, e1 74 (.iload_n 2) 1 2, ei 75 (.invokevirtual 275) 3 22 216 3 0, ec 78 (.bipush (-9)) 2 (-9), e1 80 (.if_icmp .eq 6) 3 86], 83),
  (83, [false, false, false, false, false], [ec 83 (.bipush (-3)) 2 (-3), e1 85 (.ireturn) 1 0], 86),
  (86, [true, true, true, false, false], [e1 86 (.aload_n 0) 1 0, e3 87 (.getfield 170) 3 22 22 0, ec 90 (.sipush 300) 3 300, e1 93 (.if_icmp .eq 22) 3 115, e1 96 (.aload_n 0) 1 0, e1 97 (.iload_n 1) 1 1, ei 98 (.invokevirtual 238) 3 22 208 2 0, e1 101 (.ifCond .eq 17) 3 118, e1 104 (.aload_n 0) 1 0, e3 105 (.getfield 51) 3 22 17 2, e1 108 (.iload_n 1) 1 1, e0 109 (.iaload) 1, ec 110 (.bipush 6) 2 6, e1 112 (.if_icmp .ne 6) 3 118], 115),
  (115, [false, false, false, false, false], [ec 115 (.bipush (-4)) 2 (-4), e1 117 (.ireturn) 1 0], 118),
  (118, [true, true, true, false, false], [e1 118 (.aload_n 0) 1 0, e1 119 (.iload_n 1) 1 1, e1 120 (.iload_n 2) 1 2, ei 121 (.invokevirtual 278) 3 22 219 3 0, e1 124 (.istore 4) 2 4, e1 126 (.iload 4) 2 4, ec 128 (.bipush (-9)) 2 (-9), e1 130 (.if_icmp .eq 11) 3 141, e1 133 (.iload 4) 2 4, ei 135 (.invokestatic 281) 3 0 211 1 0, e1 138 (.goto 9) 3 147], 141),
  (141, [true, true, true, false, false], [e1 141 (.aload_n 0) 1 0, e1 142 (.iload_n 1) 1 1, e1 143 (.iload_n 2) 1 2, ei 144 (.invokevirtual 284) 3 22 220 3 0], 147),
  (147, [false, false, false, false, false], [e1 147 (.ireturn) 1 0], 148)]
set_option maxRecDepth 100000 in
def K_X12_bar : List XB := [(0, [true, true, true, false, false, false], [e1 0 (.aload_n 0) 1 0, e1 1 (.iload_n 1) 1 1, e0 2 (.i2l) 1, ei 3 (.invokevirtual 262) 3 22 203 2 0, e1 6 (.ifCond .eq 12) 3 18, e1 9 (.aload_n 0) 1 0, e1 10 (.iload_n 2) 1 2, e0 11 (.i2l) 1, ei 12 (.invokevirtual 262) 3 22 203 2 0, e1 15 (.ifCond .ne 5) 3 20], 18),
  (18, [false, false, false, false, false, false], [ec 18 (.iconst (-1)) 1 (-1), e1 19 (.ireturn) 1 0], 20),
  (20, [true, true, true, false, false, false], [e1 20 (.aload_n 0) 1 0, e1 21 (.iload_n 1) 1 1, ei 22 (.invokevirtual 269) 3 22 207 2 0, e1 25 (.ifCond .ne 11) 3 36, e1 28 (.aload_n 0) 1 0, e1 29 (.iload_n 2) 1 2, ei 30 (.invokevirtual 266) 3 22 206 2 0, e1 33 (.ifCond .ne 6) 3 39], 36),
  (36, [false, false, false, false, false, false], [ec 36 (.bipush (-3)) 2 (-3), e1 38 (.ireturn) 1 0], 39),
  (39, [true, true, true, false, false, false], [e1 39 (.aload_n 0) 1 0, e3 40 (.getfield 170) 3 22 22 0, ec 43 (.sipush 300) 3 300, e1 46 (.if_icmp .ne 6) 3 52, ec 49 (.bipush (-4)) 2 (-4), e1 51 (.ireturn) 1 0], 52),
  (52, [true, true, true, false, false, false], [e1 52 (.aload_n 0) 1 0, e1 53 (.iload_n 1) 1 1, e1 54 (.iload_n 2) 1 2, ei 55 (.invokevirtual 275) 3 22 216 3 0, e1 58 (.istore_n 3) 1 3, e1 59 (.iload_n 3) 1 3, ec 60 (.bipush (-9)) 2 (-9), e1 62 (.if_icmp .eq 18) 3 80, e1 65 (.aload_n 0) 1 0, e3 66 (.getfield 48) 3 22 16 2, ec 69 (.bipush 6) 2 6, e1 71 (.iload_n 1) 1 1, e0 72 (.imul) 1, e1 73 (.iload_n 3) 1 3, e0 74 (.iadd) 1, e0 75 (.iaload) 1, ei 76 (.invokestatic 281) 3 0 211 1 0, e1 79 (.ireturn) 1 0], 80),
  (80, [true, true, true, false, false, false], [e1 80 (.aload_n 0) 1 0, e3 81 (.getfield 54) 3 22 18 2, e1 84 (.iload_n 1) 1 1, e0 85 (.laload) 1, ec 86 (.lconst 1) 1 1, e1 87 (.iload_n 2) 1 2, e0 88 (.lshl) 1, ec 89 (.ldc2_w 287) 3 (-1), e0 92 (.lxor) 1, e0 93 (.land) 1, e1 94 (.lstore 4) 2 4, e1 96 (.aload_n 0) 1 0, e3 97 (.getfield 54) 3 22 18 2, e1 100 (.iload_n 1) 1 1, e0 101 (.laload) 1, ec 102 (.lconst 0) 1 0, e0 103 (.lcmp) 1, e1 104 (.ifCond .eq 19) 3 123, e1 107 (.lload 4) 2 4, ec 109 (.lconst 0) 1 0, e0 110 (.lcmp) 1, e1 111 (.ifCond .ne 12) 3 123, e1 114 (.aload_n 0) 1 0, e1 115 (.iload_n 1) 1 1, ei 116 (.invokevirtual 248) 3 22 213 2 0, ei 119 (.invokestatic 281) 3 0 211 1 0, e1 122 (.ireturn) 1 0], 123),
  (123, [true, true, true, false, true, false], [e1 123 (.aload_n 0) 1 0, e3 124 (.getfield 54) 3 22 18 2, e1 127 (.iload_n 1) 1 1, e1 128 (.lload 4) 2 4, e0 130 (.lastore) 1, e1 131 (.aload_n 0) 1 0, ec 132 (.iconst 1) 1 1, e1 133 (.iload_n 1) 1 1, e1 134 (.iload_n 2) 1 2, ec 135 (.iconst 0) 1 0, ei 136 (.invokevirtual 258) 3 22 210 5 0, e1 139 (.ireturn) 1 0], 140)]
set_option maxRecDepth 100000 in
def K_X12_give : List XB := [(0, [true, true, true, true, false, false, false, false], [e1 0 (.aload_n 0) 1 0, e1 1 (.iload_n 1) 1 1, e0 2 (.i2l) 1, ei 3 (.invokevirtual 262) 3 22 203 2 0, e1 6 (.ifCond .eq 20) 3 26, e1 9 (.aload_n 0) 1 0, e1 10 (.iload_n 2) 1 2, ei 11 (.invokevirtual 213) 3 22 193 2 0, e1 14 (.ifCond .eq 12) 3 26, e1 17 (.aload_n 0) 1 0, e1 18 (.iload_n 2) 1 2, e1 19 (.lload_n 3) 1 3, ei 20 (.invokevirtual 216) 3 22 200 3 0, e1 23 (.ifCond .eq 5) 3 28], 26),
  (26, [false, false, false, false, false, false, false, false], [ec 26 (.iconst (-1)) 1 (-1), e1 27 (.ireturn) 1 0], 28),
  (28, [true, true, true, true, false, false, false, false], [e1 28 (.aload_n 0) 1 0, e1 29 (.aload_n 0) 1 0, e3 30 (.getfield 30) 3 22 10 2, e1 33 (.iload_n 1) 1 1, e0 34 (.iaload) 1, e1 35 (.aload_n 0) 1 0, e3 36 (.getfield 13) 3 22 4 2, e1 39 (.iload_n 2) 1 2, e0 40 (.iaload) 1, ei 41 (.invokevirtual 199) 3 22 194 3 0, e1 44 (.ifCond .ne 6) 3 50, ec 47 (.bipush (-3)) 2 (-3), e1 49 (.ireturn) 1 0], 50),
  (50, [true, true, true, true, false, false, false, false], [e1 50 (.aload_n 0) 1 0, e3 51 (.getfield 170) 3 22 22 0, ec 54 (.sipush 300) 3 300, e1 57 (.if_icmp .ne 6) 3 63, ec 60 (.bipush (-4)) 2 (-4), e1 62 (.ireturn) 1 0], 63),
  (63, [true, true, true, true, false, false, false, false], [e1 63 (.aload_n 0) 1 0, e1 64 (.iload_n 2) 1 2, e1 65 (.lload_n 3) 1 3, ei 66 (.invokevirtual 220) 3 22 201 3 0, e1 69 (.ifCond .ne 10) 3 79, e1 72 (.aload_n 0) 1 0, ec 73 (.bipush (-14)) 2 (-14), ei 75 (.invokevirtual 223) 3 22 190 2 0, e1 78 (.ireturn) 1 0], 79),
  (79, [true, true, true, true, false, false, false, false], [ec 79 (.bipush 64) 2 64, e1 81 (.iload_n 2) 1 2, e0 82 (.imul) 1, e1 83 (.iload_n 1) 1 1, e0 84 (.iadd) 1, e1 85 (.istore 5) 2 5, e1 87 (.aload_n 0) 1 0, e3 88 (.getfield 16) 3 22 5 2, e1 91 (.iload_n 2) 1 2, e0 92 (.iaload) 1, e1 93 (.lload_n 3) 1 3, ei 94 (.invokestatic 226) 3 0 199 2 1, e1 97 (.lstore 6) 2 6, e1 99 (.aload_n 0) 1 0, e3 100 (.getfield 60) 3 22 20 2, e1 103 (.iload 5) 2 5, e0 105 (.iaload) 1, ec 106 (.bipush (-9)) 2 (-9), e1 108 (.if_icmp .eq 27) 3 135, e1 111 (.aload_n 0) 1 0, e3 112 (.getfield 63) 3 22 21 2, e1 115 (.iload 5) 2 5, e0 117 (.laload) 1, e1 118 (.lload 6) 2 6, e0 120 (.lcmp) 1, e1 121 (.ifCond .eq 14) 3 135, e1 124 (.aload_n 0) 1 0, e3 125 (.getfield 60) 3 22 20 2, e1 128 (.iload 5) 2 5, e0 130 (.iaload) 1, ei 131 (.invokestatic 281) 3 0 211 1 0, e1 134 (.ireturn) 1 0], 135),
  (135, [true, true, true, false, false, true, true, false], [e1 135 (.aload_n 0) 1 0, e3 136 (.getfield 63) 3 22 21 2, e1 139 (.iload 5) 2 5, e1 141 (.lload 6) 2 6, e0 143 (.lastore) 1, e1 144 (.aload_n 0) 1 0, e3 145 (.getfield 60) 3 22 20 2, e1 148 (.iload 5) 2 5, e1 150 (.aload_n 0) 1 0, ec 151 (.iconst 2) 1 2, e1 152 (.iload_n 1) 1 1, e1 153 (.iload_n 2) 1 2, ec 154 (.iconst 0) 1 0, ei 155 (.invokevirtual 258) 3 22 210 5 0, e0 158 (.iastore) 1, e1 159 (.aload_n 0) 1 0, e3 160 (.getfield 60) 3 22 20 2, e1 163 (.iload 5) 2 5, e0 165 (.iaload) 1, e1 166 (.ireturn) 1 0], 167)]
set_option maxRecDepth 100000 in
def K_X12_valueOf : List XB := [(0, [true, true, true, false, false], [ec 0 (.bipush 64) 2 64, e1 2 (.iload_n 2) 1 2, e0 3 (.imul) 1, e1 4 (.iload_n 1) 1 1, e0 5 (.iadd) 1, e1 6 (.istore_n 3) 1 3, e1 7 (.aload_n 0) 1 0, e3 8 (.getfield 60) 3 22 20 2, e1 11 (.iload_n 3) 1 3, e0 12 (.iaload) 1, ec 13 (.bipush (-9)) 2 (-9), e1 15 (.if_icmp .eq 10) 3 25, e1 18 (.aload_n 0) 1 0, e3 19 (.getfield 63) 3 22 21 2, e1 22 (.iload_n 3) 1 3, e0 23 (.laload) 1, e0 24 (.lreturn) 1], 25),
  (25, [true, true, true, false, false], [e1 25 (.aload_n 0) 1 0, e3 26 (.getfield 30) 3 22 10 2, e1 29 (.iload_n 1) 1 1, e0 30 (.iaload) 1, e1 31 (.istore 4) 2 4], 33),
  (33, [true, false, true, false, true], [e1 33 (.iload 4) 2 4, e1 35 (.ifCond .eq 30) 3 65, e1 38 (.aload_n 0) 1 0, e3 39 (.getfield 22) 3 22 7 2, ec 42 (.bipush 12) 2 12, e1 44 (.iload 4) 2 4, e0 46 (.imul) 1, e1 47 (.iload_n 2) 1 2, e0 48 (.iadd) 1, e0 49 (.baload) 1, e1 50 (.ifCond .ne 15) 3 65, e1 53 (.aload_n 0) 1 0, e3 54 (.getfield 7) 3 22 2 2, e1 57 (.iload 4) 2 4, e0 59 (.iaload) 1, e1 60 (.istore 4) 2 4, e1 62 (.goto (-29)) 3 33], 65),
  (65, [true, false, true, false, true], [e1 65 (.aload_n 0) 1 0, e3 66 (.getfield 22) 3 22 7 2, ec 69 (.bipush 12) 2 12, e1 71 (.iload 4) 2 4, e0 73 (.imul) 1, e1 74 (.iload_n 2) 1 2, e0 75 (.iadd) 1, e0 76 (.baload) 1, e1 77 (.ifCond .eq 18) 3 95, e1 80 (.aload_n 0) 1 0, e3 81 (.getfield 26) 3 22 8 2, ec 84 (.bipush 12) 2 12, e1 86 (.iload 4) 2 4, e0 88 (.imul) 1, e1 89 (.iload_n 2) 1 2, e0 90 (.iadd) 1, e0 91 (.laload) 1, e1 92 (.goto 21) 3 113], 95),
  (95, [true, false, true, false, false], [e1 95 (.aload_n 0) 1 0, e3 96 (.getfield 16) 3 22 5 2, e1 99 (.iload_n 2) 1 2, e0 100 (.iaload) 1, ec 101 (.bipush 8) 2 8, e1 103 (.if_icmp .ne 9) 3 112, ec 106 (.ldc2_w 211) 3 (-9), e1 109 (.goto 4) 3 113], 112),
  (112, [false, false, false, false, false], [ec 112 (.lconst 0) 1 0], 113),
  (113, [false, false, false, false, false], [e0 113 (.lreturn) 1], 114)]
set_option maxRecDepth 100000 in
def K_X12_value : List XB := [(0, [true, true, true], [e1 0 (.aload_n 0) 1 0, e1 1 (.iload_n 1) 1 1, e0 2 (.i2l) 1, ei 3 (.invokevirtual 262) 3 22 203 2 0, e1 6 (.ifCond .eq 11) 3 17, e1 9 (.aload_n 0) 1 0, e1 10 (.iload_n 2) 1 2, ei 11 (.invokevirtual 213) 3 22 193 2 0, e1 14 (.ifCond .ne 9) 3 23], 17),
  (17, [false, false, false], [ec 17 (.ldc2_w 287) 3 (-1), e1 20 (.goto 34) 3 54], 23),
  (23, [true, true, true], [e1 23 (.aload_n 0) 1 0, e1 24 (.aload_n 0) 1 0, e3 25 (.getfield 30) 3 22 10 2, e1 28 (.iload_n 1) 1 1, e0 29 (.iaload) 1, e1 30 (.aload_n 0) 1 0, e3 31 (.getfield 13) 3 22 4 2, e1 34 (.iload_n 2) 1 2, e0 35 (.iaload) 1, ei 36 (.invokevirtual 199) 3 22 194 3 0, e1 39 (.ifCond .ne 9) 3 48, ec 42 (.ldc2_w 289) 3 (-3), e1 45 (.goto 9) 3 54], 48),
  (48, [true, true, true], [e1 48 (.aload_n 0) 1 0, e1 49 (.iload_n 1) 1 1, e1 50 (.iload_n 2) 1 2, ei 51 (.invokevirtual 291) 3 22 224 3 1], 54),
  (54, [false, false, false], [e0 54 (.lreturn) 1], 55)]
set_option maxRecDepth 100000 in
def K_X12_given : List XB := [(0, [true, true, true], [e1 0 (.aload_n 0) 1 0, e1 1 (.iload_n 1) 1 1, e0 2 (.i2l) 1, ei 3 (.invokevirtual 262) 3 22 203 2 0, e1 6 (.ifCond .eq 11) 3 17, e1 9 (.aload_n 0) 1 0, e1 10 (.iload_n 2) 1 2, ei 11 (.invokevirtual 213) 3 22 193 2 0, e1 14 (.ifCond .ne 7) 3 21], 17),
  (17, [false, false, false], [ec 17 (.iconst (-1)) 1 (-1), e1 18 (.goto 14) 3 32], 21),
  (21, [true, true, true], [e1 21 (.aload_n 0) 1 0, e3 22 (.getfield 60) 3 22 20 2, ec 25 (.bipush 64) 2 64, e1 27 (.iload_n 2) 1 2, e0 28 (.imul) 1, e1 29 (.iload_n 1) 1 1, e0 30 (.iadd) 1, e0 31 (.iaload) 1], 32),
  (32, [false, false, false], [e1 32 (.ireturn) 1 0], 33)]
set_option maxRecDepth 100000 in
def K_X12_peek : List XB := [(0, [true, true, true, true], [e1 0 (.aload_n 0) 1 0, e1 1 (.iload_n 1) 1 1, ei 2 (.invokevirtual 213) 3 22 193 2 0, e1 5 (.ifCond .ne 7) 3 12, ec 8 (.ldc2_w 287) 3 (-1), e0 11 (.lreturn) 1], 12),
  (12, [true, true, true, true], [e1 12 (.iload_n 2) 1 2, e0 13 (.i2l) 1, ec 14 (.lconst 0) 1 0, ec 15 (.ldc2_w 203) 3 8, ei 18 (.invokestatic 191) 3 0 189 3 0, e1 21 (.ifCond .ne 7) 3 28, ec 24 (.ldc2_w 295) 3 (-2), e0 27 (.lreturn) 1], 28),
  (28, [true, true, true, true], [e1 28 (.aload_n 0) 1 0, e3 29 (.getfield 16) 3 22 5 2, e1 32 (.iload_n 1) 1 1, e0 33 (.iaload) 1, e1 34 (.iload_n 2) 1 2, e1 35 (.if_icmp .eq 11) 3 46, e1 38 (.aload_n 0) 1 0, ec 39 (.bipush (-13)) 2 (-13), ei 41 (.invokevirtual 223) 3 22 190 2 0, e0 44 (.i2l) 1, e0 45 (.lreturn) 1], 46),
  (46, [true, true, true, true], [e1 46 (.iload_n 3) 1 3, e0 47 (.i2l) 1, ec 48 (.lconst 0) 1 0, ec 49 (.ldc2_w 297) 3 63, ei 52 (.invokestatic 191) 3 0 189 3 0, e1 55 (.ifCond .ne 11) 3 66, e1 58 (.aload_n 0) 1 0, ec 59 (.bipush (-12)) 2 (-12), ei 61 (.invokevirtual 223) 3 22 190 2 0, e0 64 (.i2l) 1, e0 65 (.lreturn) 1], 66),
  (66, [true, true, true, true], [e1 66 (.aload_n 0) 1 0, e3 67 (.getfield 60) 3 22 20 2, ec 70 (.bipush 64) 2 64, e1 72 (.iload_n 1) 1 1, e0 73 (.imul) 1, e1 74 (.iload_n 3) 1 3, e0 75 (.iadd) 1, e0 76 (.iaload) 1, ec 77 (.bipush (-9)) 2 (-9), e1 79 (.if_icmp .eq 17) 3 96, e1 82 (.aload_n 0) 1 0, e3 83 (.getfield 63) 3 22 21 2, ec 86 (.bipush 64) 2 64, e1 88 (.iload_n 1) 1 1, e0 89 (.imul) 1, e1 90 (.iload_n 3) 1 3, e0 91 (.iadd) 1, e0 92 (.laload) 1, e1 93 (.goto 16) 3 109], 96),
  (96, [false, false, true, false], [e1 96 (.iload_n 2) 1 2, ec 97 (.bipush 8) 2 8, e1 99 (.if_icmp .ne 9) 3 108, ec 102 (.ldc2_w 211) 3 (-9), e1 105 (.goto 4) 3 109], 108),
  (108, [false, false, false, false], [ec 108 (.lconst 0) 1 0], 109),
  (109, [false, false, false, false], [e0 109 (.lreturn) 1], 110)]
set_option maxRecDepth 100000 in
def K_X12_place : List XB := [(0, [true, true, true], [e1 0 (.aload_n 0) 1 0, e1 1 (.iload_n 1) 1 1, e0 2 (.i2l) 1, ei 3 (.invokevirtual 262) 3 22 203 2 0, e1 6 (.ifCond .ne 7) 3 13, ec 9 (.iconst (-1)) 1 (-1), e1 10 (.goto 37) 3 47], 13),
  (13, [true, true, true], [e1 13 (.iload_n 2) 1 2, e0 14 (.i2l) 1, ec 15 (.lconst 0) 1 0, e1 16 (.aload_n 0) 1 0, e3 17 (.getfield 51) 3 22 17 2, e1 20 (.iload_n 1) 1 1, e0 21 (.iaload) 1, ec 22 (.iconst 1) 1 1, e0 23 (.isub) 1, e0 24 (.i2l) 1, ei 25 (.invokestatic 191) 3 0 189 3 0, e1 28 (.ifCond .eq 17) 3 45, e1 31 (.aload_n 0) 1 0, e3 32 (.getfield 45) 3 22 15 2, ec 35 (.bipush 6) 2 6, e1 37 (.iload_n 1) 1 1, e0 38 (.imul) 1, e1 39 (.iload_n 2) 1 2, e0 40 (.iadd) 1, e0 41 (.iaload) 1, e1 42 (.goto 5) 3 47], 45),
  (45, [false, false, false], [ec 45 (.bipush (-9)) 2 (-9)], 47),
  (47, [false, false, false], [e1 47 (.ireturn) 1 0], 48)]
set_option maxRecDepth 100000 in
def K_X12_loadOf : List XB := [(0, [true, true, false, false], [ec 0 (.iconst 0) 1 0, e1 1 (.istore_n 2) 1 2, ec 2 (.iconst 0) 1 0, e1 3 (.istore_n 3) 1 3], 4),
  (4, [true, true, true, true], [e1 4 (.iload_n 3) 1 3, e1 5 (.aload_n 0) 1 0, e3 6 (.getfield 167) 3 22 9 0, e1 9 (.if_icmp .ge 64) 3 73, e1 12 (.aload_n 0) 1 0, e1 13 (.iload_n 3) 1 3, ei 14 (.invokevirtual 238) 3 22 208 2 0, e1 17 (.ifCond .ne 50) 3 67, e1 20 (.aload_n 0) 1 0, e3 21 (.getfield 51) 3 22 17 2, e1 24 (.iload_n 3) 1 3, e0 25 (.iaload) 1, e1 26 (.ifCond .le 41) 3 67, e1 29 (.aload_n 0) 1 0, e1 30 (.aload_n 0) 1 0, e1 31 (.iload_n 3) 1 3, ei 32 (.invokevirtual 241) 3 22 215 2 0, e1 35 (.iload_n 1) 1 1, ei 36 (.invokevirtual 272) 3 22 214 3 0, e1 39 (.ifCond .eq 28) 3 67, e1 42 (.iload_n 2) 1 2, e1 43 (.aload_n 0) 1 0, e3 44 (.getfield 33) 3 22 11 2, e1 47 (.iload_n 3) 1 3, e0 48 (.iaload) 1, e1 49 (.aload_n 0) 1 0, e1 50 (.iload_n 3) 1 3, ei 51 (.invokevirtual 230) 3 22 204 2 0, ec 54 (.iconst 5) 1 5, e1 55 (.if_icmp .ne 8) 3 63, ec 58 (.bipush 10) 2 10, e1 60 (.goto 4) 3 64], 63),
  (63, [true, true, false, true], [ec 63 (.iconst 0) 1 0], 64),
  (64, [true, true, false, true], [e0 64 (.iadd) 1, e0 65 (.iadd) 1, e1 66 (.istore_n 2) 1 2], 67),
  (67, [true, true, true, true], [ek 67 (.iinc 3 1) 3 1 3, e1 70 (.goto (-66)) 3 4], 73),
  (73, [false, false, true, false], [e1 73 (.iload_n 2) 1 2, e1 74 (.ireturn) 1 0], 75)]
set_option maxRecDepth 100000 in
def K_X12_bulkOf : List XB := [(0, [true, true], [e1 0 (.aload_n 0) 1 0, e1 1 (.iload_n 1) 1 1, ei 2 (.invokevirtual 230) 3 22 204 2 0, es 5 (.tableswitch 81 1 5 #[35, 41, 50, 52, 65]) 35 1 86 [40, 46, 55, 57, 70]], 40),
  (40, [true, true], [e1 40 (.aload_n 0) 1 0, e1 41 (.iload_n 1) 1 1, ei 42 (.invokevirtual 299) 3 22 229 2 0, e1 45 (.ireturn) 1 0], 46),
  (46, [true, true], [ec 46 (.iconst 2) 1 2, e1 47 (.aload_n 0) 1 0, e3 48 (.getfield 33) 3 22 11 2, e1 51 (.iload_n 1) 1 1, e0 52 (.iaload) 1, e0 53 (.imul) 1, e1 54 (.ireturn) 1 0], 55),
  (55, [false, false], [ec 55 (.iconst 0) 1 0, e1 56 (.ireturn) 1 0], 57),
  (57, [true, true], [e1 57 (.aload_n 0) 1 0, e3 58 (.getfield 33) 3 22 11 2, e1 61 (.iload_n 1) 1 1, e0 62 (.iaload) 1, e1 63 (.aload_n 0) 1 0, e1 64 (.iload_n 1) 1 1, ei 65 (.invokevirtual 299) 3 22 229 2 0, e0 68 (.iadd) 1, e1 69 (.ireturn) 1 0], 70),
  (70, [true, true], [e1 70 (.aload_n 0) 1 0, e3 71 (.getfield 33) 3 22 11 2, e1 74 (.iload_n 1) 1 1, e0 75 (.iaload) 1, e1 76 (.aload_n 0) 1 0, e1 77 (.iload_n 1) 1 1, ei 78 (.invokevirtual 299) 3 22 229 2 0, e0 81 (.iadd) 1, ec 82 (.bipush 10) 2 10, e0 84 (.iadd) 1, e1 85 (.ireturn) 1 0], 86),
  (86, [true, true], [e1 86 (.aload_n 0) 1 0, e3 87 (.getfield 33) 3 22 11 2, e1 90 (.iload_n 1) 1 1, e0 91 (.iaload) 1, e1 92 (.ireturn) 1 0], 93)]
set_option maxRecDepth 100000 in
def K_X12_worthOf : List XB := [(0, [true, true, false], [ec 0 (.iconst 3) 1 3, e1 1 (.aload_n 0) 1 0, e3 2 (.getfield 33) 3 22 11 2, e1 5 (.iload_n 1) 1 1, e0 6 (.iaload) 1, e0 7 (.imul) 1, ec 8 (.iconst 1) 1 1, e0 9 (.iadd) 1, e1 10 (.istore_n 2) 1 2, e1 11 (.aload_n 0) 1 0, e1 12 (.iload_n 1) 1 1, ei 13 (.invokevirtual 230) 3 22 204 2 0, es 16 (.tableswitch 54 1 5 #[36, 42, 47, 54, 50]) 36 1 70 [52, 58, 63, 70, 66]], 52),
  (52, [false, false, true], [e1 52 (.iload_n 2) 1 2, ec 53 (.sipush 1000) 3 1000, e0 56 (.iadd) 1, e1 57 (.ireturn) 1 0], 58),
  (58, [false, false, true], [e1 58 (.iload_n 2) 1 2, ec 59 (.bipush 100) 2 100, e0 61 (.iadd) 1, e1 62 (.ireturn) 1 0], 63),
  (63, [false, false, true], [e1 63 (.iload_n 2) 1 2, e0 64 (.ineg) 1, e1 65 (.ireturn) 1 0], 66),
  (66, [false, false, true], [ec 66 (.iconst 2) 1 2, e1 67 (.iload_n 2) 1 2, e0 68 (.imul) 1, e1 69 (.ireturn) 1 0], 70),
  (70, [false, false, true], [e1 70 (.iload_n 2) 1 2, e1 71 (.ireturn) 1 0], 72)]
set_option maxRecDepth 100000 in
def K_X12_lidOf : List XB := [(0, [true, true], [e1 0 (.aload_n 0) 1 0, e1 1 (.iload_n 1) 1 1, ei 2 (.invokevirtual 230) 3 22 204 2 0, ec 5 (.iconst 2) 1 2, e1 6 (.if_icmp .ne 30) 3 36, ec 9 (.bipush 10) 2 10, e1 11 (.aload_n 0) 1 0, e3 12 (.getfield 39) 3 22 13 2, e1 15 (.iload_n 1) 1 1, e0 16 (.iaload) 1, e0 17 (.imul) 1, e1 18 (.aload_n 0) 1 0, e3 19 (.getfield 42) 3 22 14 2, e1 22 (.iload_n 1) 1 1, e0 23 (.baload) 1, e1 24 (.ifCond .eq 7) 3 31, ec 27 (.iconst 1) 1 1, e1 28 (.goto 4) 3 32], 31),
  (31, [false, false], [ec 31 (.iconst 0) 1 0], 32),
  (32, [false, false], [e0 32 (.iadd) 1, e1 33 (.goto 26) 3 59], 36),
  (36, [true, true], [e1 36 (.aload_n 0) 1 0, e3 37 (.getfield 39) 3 22 13 2, e1 40 (.iload_n 1) 1 1, e0 41 (.iaload) 1, e1 42 (.aload_n 0) 1 0, e3 43 (.getfield 42) 3 22 14 2, e1 46 (.iload_n 1) 1 1, e0 47 (.baload) 1, e1 48 (.ifCond .eq 9) 3 57, ec 51 (.sipush 1000) 3 1000, e1 54 (.goto 4) 3 58], 57),
  (57, [false, false], [ec 57 (.iconst 0) 1 0], 58),
  (58, [false, false], [e0 58 (.iadd) 1], 59),
  (59, [false, false], [e1 59 (.ireturn) 1 0], 60)]
set_option maxRecDepth 100000 in
def K_X12_said : List XB := [(0, [true, true, true, false, false], [e1 0 (.iload_n 2) 1 2, ec 1 (.iconst 2) 1 2, e1 2 (.if_icmp .lt 53) 3 55, e1 5 (.iload_n 2) 1 2, ec 6 (.iconst 2) 1 2, e1 7 (.if_icmp .ne 14) 3 21, e1 10 (.aload_n 0) 1 0, e1 11 (.iload_n 1) 1 1, ei 12 (.invokevirtual 266) 3 22 206 2 0, e1 15 (.ifCond .eq 44) 3 59, e1 18 (.goto 37) 3 55], 21),
  (21, [true, true, true, false, false], [e1 21 (.iload_n 2) 1 2, ec 22 (.iconst 3) 1 3, e1 23 (.if_icmp .ne 23) 3 46, e1 26 (.aload_n 0) 1 0, e1 27 (.iload_n 1) 1 1, ei 28 (.invokevirtual 230) 3 22 204 2 0, ec 31 (.iconst 2) 1 2, e1 32 (.if_icmp .eq 23) 3 55, e1 35 (.aload_n 0) 1 0, e1 36 (.iload_n 1) 1 1, ei 37 (.invokevirtual 233) 3 22 205 2 0, e1 40 (.ifCond .eq 19) 3 59, e1 43 (.goto 12) 3 55], 46),
  (46, [true, true, true, false, false], [e1 46 (.aload_n 0) 1 0, e1 47 (.iload_n 1) 1 1, ei 48 (.invokevirtual 230) 3 22 204 2 0, ec 51 (.iconst 5) 1 5, e1 52 (.if_icmp .ne 7) 3 59], 55),
  (55, [true, true, true, false, false], [ec 55 (.iconst 1) 1 1, e1 56 (.goto 4) 3 60], 59),
  (59, [true, true, true, false, false], [ec 59 (.iconst 0) 1 0], 60),
  (60, [true, true, true, false, false], [e1 60 (.istore_n 3) 1 3, e1 61 (.iload_n 3) 1 3, e1 62 (.ifCond .ne 10) 3 72, e1 65 (.aload_n 0) 1 0, ec 66 (.bipush (-13)) 2 (-13), ei 68 (.invokevirtual 223) 3 22 190 2 0, e1 71 (.ireturn) 1 0], 72),
  (72, [true, true, true, false, false], [e1 72 (.iload_n 2) 1 2, ec 73 (.iconst 4) 1 4, e1 74 (.if_icmp .ne 31) 3 105, e1 77 (.aload_n 0) 1 0, e1 78 (.iload_n 1) 1 1, ei 79 (.invokevirtual 299) 3 22 229 2 0, e1 82 (.istore 4) 2 4, e1 84 (.iload 4) 2 4, e1 86 (.ifCond .ne 12) 3 98, e1 89 (.aload_n 0) 1 0, ec 90 (.bipush (-16)) 2 (-16), ei 92 (.invokevirtual 223) 3 22 190 2 0, e1 95 (.goto 9) 3 104], 98),
  (98, [false, false, false, false, true], [ec 98 (.sipush 1000) 3 1000, e1 101 (.iload 4) 2 4, e0 103 (.idiv) 1], 104),
  (104, [false, false, false, false, false], [e1 104 (.ireturn) 1 0], 105),
  (105, [true, true, true, false, false], [e1 105 (.iload_n 2) 1 2, e1 106 (.ifCond .ne 11) 3 117, e1 109 (.aload_n 0) 1 0, e1 110 (.iload_n 1) 1 1, ei 111 (.invokevirtual 302) 3 22 230 2 0, e1 114 (.goto 34) 3 148], 117),
  (117, [true, true, true, false, false], [e1 117 (.iload_n 2) 1 2, ec 118 (.iconst 1) 1 1, e1 119 (.if_icmp .ne 11) 3 130, e1 122 (.aload_n 0) 1 0, e1 123 (.iload_n 1) 1 1, ei 124 (.invokevirtual 305) 3 22 231 2 0, e1 127 (.goto 21) 3 148], 130),
  (130, [true, true, true, false, false], [e1 130 (.iload_n 2) 1 2, ec 131 (.iconst 2) 1 2, e1 132 (.if_icmp .ne 11) 3 143, e1 135 (.aload_n 0) 1 0, e1 136 (.iload_n 1) 1 1, ei 137 (.invokevirtual 299) 3 22 229 2 0, e1 140 (.goto 8) 3 148], 143),
  (143, [true, true, false, false, false], [e1 143 (.aload_n 0) 1 0, e1 144 (.iload_n 1) 1 1, ei 145 (.invokevirtual 308) 3 22 232 2 0], 148),
  (148, [false, false, false, false, false], [e1 148 (.ireturn) 1 0], 149)]
set_option maxRecDepth 100000 in
def K_X12_says : List XB := [(0, [true, true, true], [e1 0 (.aload_n 0) 1 0, e1 1 (.iload_n 1) 1 1, e0 2 (.i2l) 1, ei 3 (.invokevirtual 262) 3 22 203 2 0, e1 6 (.ifCond .ne 7) 3 13, ec 9 (.iconst (-1)) 1 (-1), e1 10 (.goto 26) 3 36], 13),
  (13, [true, true, true], [e1 13 (.iload_n 2) 1 2, e0 14 (.i2l) 1, ec 15 (.lconst 0) 1 0, ec 16 (.ldc2_w 311) 3 4, ei 19 (.invokestatic 191) 3 0 189 3 0, e1 22 (.ifCond .ne 8) 3 30, ec 25 (.bipush (-2)) 2 (-2), e1 27 (.goto 9) 3 36], 30),
  (30, [true, true, true], [e1 30 (.aload_n 0) 1 0, e1 31 (.iload_n 1) 1 1, e1 32 (.iload_n 2) 1 2, ei 33 (.invokevirtual 313) 3 22 233 3 0], 36),
  (36, [false, false, false], [e1 36 (.ireturn) 1 0], 37)]
set_option maxRecDepth 100000 in
def K_X12_follow : List XB := [(0, [true, true, true, true, false, false], [e1 0 (.aload_n 0) 1 0, e1 1 (.iload_n 1) 1 1, e0 2 (.i2l) 1, ei 3 (.invokevirtual 262) 3 22 203 2 0, e1 6 (.ifCond .eq 11) 3 17, e1 9 (.aload_n 0) 1 0, e1 10 (.iload_n 2) 1 2, ei 11 (.invokevirtual 213) 3 22 193 2 0, e1 14 (.ifCond .ne 5) 3 19], 17),
  (17, [false, false, false, false, false, false], [ec 17 (.iconst (-1)) 1 (-1), e1 18 (.ireturn) 1 0], 19),
  (19, [true, true, true, true, false, false], [e1 19 (.iload_n 3) 1 3, e0 20 (.i2l) 1, ec 21 (.lconst 0) 1 0, ec 22 (.ldc2_w 311) 3 4, ei 25 (.invokestatic 191) 3 0 189 3 0, e1 28 (.ifCond .ne 6) 3 34, ec 31 (.bipush (-2)) 2 (-2), e1 33 (.ireturn) 1 0], 34),
  (34, [true, true, true, true, false, false], [e1 34 (.aload_n 0) 1 0, e1 35 (.aload_n 0) 1 0, e3 36 (.getfield 30) 3 22 10 2, e1 39 (.iload_n 1) 1 1, e0 40 (.iaload) 1, e1 41 (.aload_n 0) 1 0, e3 42 (.getfield 13) 3 22 4 2, e1 45 (.iload_n 2) 1 2, e0 46 (.iaload) 1, ei 47 (.invokevirtual 199) 3 22 194 3 0, e1 50 (.ifCond .ne 6) 3 56, ec 53 (.bipush (-3)) 2 (-3), e1 55 (.ireturn) 1 0], 56),
  (56, [true, true, true, true, false, false], [e1 56 (.aload_n 0) 1 0, e3 57 (.getfield 16) 3 22 5 2, e1 60 (.iload_n 2) 1 2, e0 61 (.iaload) 1, ec 62 (.bipush 8) 2 8, e1 64 (.if_icmp .eq 10) 3 74, e1 67 (.aload_n 0) 1 0, ec 68 (.bipush (-13)) 2 (-13), ei 70 (.invokevirtual 223) 3 22 190 2 0, e1 73 (.ireturn) 1 0], 74),
  (74, [true, true, true, true, false, false], [e1 74 (.aload_n 0) 1 0, e1 75 (.iload_n 1) 1 1, e1 76 (.iload_n 2) 1 2, ei 77 (.invokevirtual 291) 3 22 224 3 1, e1 80 (.lstore 4) 2 4, e1 82 (.lload 4) 2 4, ec 84 (.ldc2_w 211) 3 (-9), e0 87 (.lcmp) 1, e1 88 (.ifCond .ne 12) 3 100, e1 91 (.aload_n 0) 1 0, ec 92 (.bipush (-11)) 2 (-11), ei 94 (.invokevirtual 223) 3 22 190 2 0, e1 97 (.goto 11) 3 108], 100),
  (100, [true, false, false, true, true, false], [e1 100 (.aload_n 0) 1 0, e1 101 (.lload 4) 2 4, e0 103 (.l2i) 1, e1 104 (.iload_n 3) 1 3, ei 105 (.invokevirtual 313) 3 22 233 3 0], 108),
  (108, [false, false, false, false, false, false], [e1 108 (.ireturn) 1 0], 109)]
set_option maxRecDepth 100000 in
def K_X12_hasOwn : List XB := [(0, [true, true], [e1 0 (.aload_n 0) 1 0, e1 1 (.iload_n 1) 1 1, ei 2 (.invokevirtual 230) 3 22 204 2 0, ec 5 (.iconst 2) 1 2, e1 6 (.if_icmp .eq 11) 3 17, e1 9 (.aload_n 0) 1 0, e1 10 (.iload_n 1) 1 1, ei 11 (.invokevirtual 233) 3 22 205 2 0, e1 14 (.ifCond .eq 7) 3 21], 17),
  (17, [false, false], [ec 17 (.iconst 1) 1 1, e1 18 (.goto 4) 3 22], 21),
  (21, [false, false], [ec 21 (.iconst 0) 1 0], 22),
  (22, [false, false], [e1 22 (.ireturn) 1 1], 23)]
set_option maxRecDepth 100000 in
def K_X12_mark : List XB := [(0, [true, true, true], [e1 0 (.aload_n 0) 1 0, e1 1 (.iload_n 1) 1 1, e0 2 (.i2l) 1, ei 3 (.invokevirtual 262) 3 22 203 2 0, e1 6 (.ifCond .ne 5) 3 11, ec 9 (.iconst (-1)) 1 (-1), e1 10 (.ireturn) 1 0], 11),
  (11, [true, true, true], [e1 11 (.iload_n 2) 1 2, e0 12 (.i2l) 1, ec 13 (.lconst 0) 1 0, ec 14 (.lconst 1) 1 1, ei 15 (.invokestatic 191) 3 0 189 3 0, e1 18 (.ifCond .ne 6) 3 24, ec 21 (.bipush (-2)) 2 (-2), e1 23 (.ireturn) 1 0], 24),
  (24, [true, true, true], [e1 24 (.iload_n 2) 1 2, e1 25 (.ifCond .ne 12) 3 37, e1 28 (.aload_n 0) 1 0, e3 29 (.getfield 36) 3 22 12 2, e1 32 (.iload_n 1) 1 1, e0 33 (.iaload) 1, e1 34 (.goto 26) 3 60], 37),
  (37, [true, true, false], [e1 37 (.aload_n 0) 1 0, e1 38 (.iload_n 1) 1 1, ei 39 (.invokevirtual 316) 3 22 236 2 0, e1 42 (.ifCond .eq 12) 3 54, e1 45 (.aload_n 0) 1 0, e3 46 (.getfield 39) 3 22 13 2, e1 49 (.iload_n 1) 1 1, e0 50 (.iaload) 1, e1 51 (.goto 9) 3 60], 54),
  (54, [true, false, false], [e1 54 (.aload_n 0) 1 0, ec 55 (.bipush (-13)) 2 (-13), ei 57 (.invokevirtual 223) 3 22 190 2 0], 60),
  (60, [false, false, false], [e1 60 (.ireturn) 1 0], 61)]
set_option maxRecDepth 100000 in
def K_X12_remark : List XB := [(0, [true, true, true, true, false], [e1 0 (.aload_n 0) 1 0, e1 1 (.iload_n 1) 1 1, e0 2 (.i2l) 1, ei 3 (.invokevirtual 262) 3 22 203 2 0, e1 6 (.ifCond .ne 5) 3 11, ec 9 (.iconst (-1)) 1 (-1), e1 10 (.ireturn) 1 0], 11),
  (11, [true, true, true, true, false], [e1 11 (.iload_n 2) 1 2, e0 12 (.i2l) 1, ec 13 (.lconst 0) 1 0, ec 14 (.lconst 1) 1 1, ei 15 (.invokestatic 191) 3 0 189 3 0, e1 18 (.ifCond .eq 15) 3 33, e1 21 (.iload_n 3) 1 3, e0 22 (.i2l) 1, ec 23 (.lconst 0) 1 0, ec 24 (.ldc2_w 236) 3 1000, ei 27 (.invokestatic 191) 3 0 189 3 0, e1 30 (.ifCond .ne 6) 3 36], 33),
  (33, [false, false, false, false, false], [ec 33 (.bipush (-2)) 2 (-2), e1 35 (.ireturn) 1 0], 36),
  (36, [true, true, true, true, false], [e1 36 (.iload_n 2) 1 2, ec 37 (.iconst 1) 1 1, e1 38 (.if_icmp .ne 18) 3 56, e1 41 (.aload_n 0) 1 0, e1 42 (.iload_n 1) 1 1, ei 43 (.invokevirtual 316) 3 22 236 2 0, e1 46 (.ifCond .ne 10) 3 56, e1 49 (.aload_n 0) 1 0, ec 50 (.bipush (-13)) 2 (-13), ei 52 (.invokevirtual 223) 3 22 190 2 0, e1 55 (.ireturn) 1 0], 56),
  (56, [true, true, true, true, false], [e1 56 (.iload_n 2) 1 2, e1 57 (.ifCond .ne 12) 3 69, e1 60 (.aload_n 0) 1 0, e3 61 (.getfield 36) 3 22 12 2, e1 64 (.iload_n 1) 1 1, e0 65 (.iaload) 1, e1 66 (.goto 9) 3 75], 69),
  (69, [true, true, true, true, false], [e1 69 (.aload_n 0) 1 0, e3 70 (.getfield 39) 3 22 13 2, e1 73 (.iload_n 1) 1 1, e0 74 (.iaload) 1], 75),
  (75, [true, true, true, true, false], [e1 75 (.istore 4) 2 4, e1 77 (.aload_n 0) 1 0, e3 78 (.getfield 36) 3 22 12 2, e1 81 (.iload_n 1) 1 1, e1 82 (.iload_n 2) 1 2, e1 83 (.ifCond .ne 7) 3 90, e1 86 (.iload_n 3) 1 3, e1 87 (.goto 9) 3 96], 90),
  (90, [true, true, true, true, true], [e1 90 (.aload_n 0) 1 0, e3 91 (.getfield 36) 3 22 12 2, e1 94 (.iload_n 1) 1 1, e0 95 (.iaload) 1], 96),
  (96, [true, true, true, true, true], [e0 96 (.iastore) 1, e1 97 (.aload_n 0) 1 0, e3 98 (.getfield 39) 3 22 13 2, e1 101 (.iload_n 1) 1 1, e1 102 (.iload_n 2) 1 2, ec 103 (.iconst 1) 1 1, e1 104 (.if_icmp .ne 7) 3 111, e1 107 (.iload_n 3) 1 3, e1 108 (.goto 9) 3 117], 111),
  (111, [true, true, false, false, true], [e1 111 (.aload_n 0) 1 0, e3 112 (.getfield 39) 3 22 13 2, e1 115 (.iload_n 1) 1 1, e0 116 (.iaload) 1], 117),
  (117, [false, false, false, false, true], [e0 117 (.iastore) 1, e1 118 (.iload 4) 2 4, e1 120 (.ireturn) 1 0], 121)]
set_option maxRecDepth 100000 in
def K_X12_open : List XB := [(0, [true, true, true, false], [e1 0 (.aload_n 0) 1 0, e1 1 (.iload_n 1) 1 1, e0 2 (.i2l) 1, ei 3 (.invokevirtual 262) 3 22 203 2 0, e1 6 (.ifCond .ne 5) 3 11, ec 9 (.iconst (-1)) 1 (-1), e1 10 (.ireturn) 1 0], 11),
  (11, [true, true, true, false], [e1 11 (.aload_n 0) 1 0, e1 12 (.iload_n 1) 1 1, ei 13 (.invokevirtual 316) 3 22 236 2 0, e1 16 (.ifCond .ne 10) 3 26, e1 19 (.aload_n 0) 1 0, ec 20 (.bipush (-13)) 2 (-13), ei 22 (.invokevirtual 223) 3 22 190 2 0, e1 25 (.ireturn) 1 0], 26),
  (26, [true, true, true, false], [e1 26 (.aload_n 0) 1 0, e3 27 (.getfield 42) 3 22 14 2, e1 30 (.iload_n 1) 1 1, e0 31 (.baload) 1, e1 32 (.ifCond .eq 7) 3 39, ec 35 (.iconst 1) 1 1, e1 36 (.goto 4) 3 40], 39),
  (39, [true, true, true, false], [ec 39 (.iconst 0) 1 0], 40),
  (40, [true, true, true, false], [e1 40 (.istore_n 3) 1 3, e1 41 (.aload_n 0) 1 0, e3 42 (.getfield 42) 3 22 14 2, e1 45 (.iload_n 1) 1 1, e1 46 (.iload_n 2) 1 2, e0 47 (.bastore) 1, e1 48 (.iload_n 3) 1 3, e1 49 (.ireturn) 1 0], 50)]
set_option maxRecDepth 100000 in
def K_X12_among : List XB := [(0, [true, true, true, false, false, false, false, false, false, false], [e1 0 (.aload_n 0) 1 0, e1 1 (.iload_n 1) 1 1, e0 2 (.i2l) 1, ei 3 (.invokevirtual 262) 3 22 203 2 0, e1 6 (.istore 4) 2 4, e1 8 (.iload 4) 2 4, e1 10 (.istore 5) 2 5, ec 12 (.iconst 0) 1 0, e1 13 (.istore 6) 2 6], 15),
  (15, [true, true, true, false, true, true, true, false, false, false], [e1 15 (.iload 6) 2 6, ec 17 (.bipush 64) 2 64, e1 19 (.if_icmp .ge 74) 3 93, e1 22 (.lload_n 2) 1 2, e1 23 (.iload 6) 2 6, e0 25 (.lushr) 1, ec 26 (.lconst 1) 1 1, e0 27 (.land) 1, ec 28 (.lconst 1) 1 1, e0 29 (.lcmp) 1, e1 30 (.ifCond .ne 57) 3 87, e1 33 (.iload 4) 2 4, e1 35 (.ifCond .eq 17) 3 52, e1 38 (.aload_n 0) 1 0, e1 39 (.iload 6) 2 6, e0 41 (.i2l) 1, ei 42 (.invokevirtual 262) 3 22 203 2 0, e1 45 (.ifCond .eq 7) 3 52, ec 48 (.iconst 1) 1 1, e1 49 (.goto 4) 3 53], 52),
  (52, [true, true, true, false, false, true, true, false, false, false], [ec 52 (.iconst 0) 1 0], 53),
  (53, [true, true, true, false, false, true, true, false, false, false], [e1 53 (.istore 4) 2 4, e1 55 (.iload 5) 2 5, e1 57 (.ifCond .eq 27) 3 84, e1 60 (.iload 4) 2 4, e1 62 (.ifCond .eq 22) 3 84, e1 65 (.iload 6) 2 6, e1 67 (.iload_n 1) 1 1, e1 68 (.if_icmp .eq 16) 3 84, e1 71 (.aload_n 0) 1 0, e1 72 (.iload 6) 2 6, ei 74 (.invokevirtual 266) 3 22 206 2 0, e1 77 (.ifCond .eq 7) 3 84, ec 80 (.iconst 1) 1 1, e1 81 (.goto 4) 3 85], 84),
  (84, [true, true, true, false, true, false, true, false, false, false], [ec 84 (.iconst 0) 1 0], 85),
  (85, [true, true, true, false, true, false, true, false, false, false], [e1 85 (.istore 5) 2 5], 87),
  (87, [true, true, true, false, true, true, true, false, false, false], [ek 87 (.iinc 6 1) 3 1 6, e1 90 (.goto (-75)) 3 15], 93),
  (93, [true, true, true, false, true, true, false, false, false, false], [e1 93 (.iload 4) 2 4, e1 95 (.ifCond .ne 5) 3 100, ec 98 (.iconst (-1)) 1 (-1), e1 99 (.ireturn) 1 0], 100),
  (100, [true, true, true, false, false, true, false, false, false, false], [e1 100 (.lload_n 2) 1 2, ec 101 (.lconst 0) 1 0, e0 102 (.lcmp) 1, e1 103 (.ifCond .ne 6) 3 109, ec 106 (.bipush (-2)) 2 (-2), e1 108 (.ireturn) 1 0], 109),
  (109, [true, true, true, false, false, true, false, false, false, false], [e1 109 (.aload_n 0) 1 0, e1 110 (.iload_n 1) 1 1, ei 111 (.invokevirtual 269) 3 22 207 2 0, e1 114 (.ifCond .ne 16) 3 130, e1 117 (.aload_n 0) 1 0, e1 118 (.iload_n 1) 1 1, ei 119 (.invokevirtual 238) 3 22 208 2 0, e1 122 (.ifCond .ne 8) 3 130, e1 125 (.iload 5) 2 5, e1 127 (.ifCond .ne 6) 3 133], 130),
  (130, [false, false, false, false, false, false, false, false, false, false], [ec 130 (.bipush (-3)) 2 (-3), e1 132 (.ireturn) 1 0], 133),
  (133, [true, true, true, false, false, false, false, false, false, false], [e1 133 (.aload_n 0) 1 0, e3 134 (.getfield 170) 3 22 22 0, ec 137 (.sipush 300) 3 300, e1 140 (.if_icmp .ne 6) 3 146, ec 143 (.bipush (-4)) 2 (-4), e1 145 (.ireturn) 1 0], 146),
  (146, [true, true, true, false, false, false, false, false, false, false], [e1 146 (.aload_n 0) 1 0, e3 147 (.getfield 51) 3 22 17 2, e1 150 (.iload_n 1) 1 1, e0 151 (.iaload) 1, e1 152 (.ifCond .le 34) 3 186, e1 155 (.lload_n 2) 1 2, e1 156 (.aload_n 0) 1 0, e3 157 (.getfield 45) 3 22 15 2, ec 160 (.bipush 6) 2 6, e1 162 (.iload_n 1) 1 1, e0 163 (.imul) 1, e0 164 (.iaload) 1, e0 165 (.lushr) 1, ec 166 (.lconst 1) 1 1, e0 167 (.land) 1, ec 168 (.lconst 0) 1 0, e0 169 (.lcmp) 1, e1 170 (.ifCond .ne 16) 3 186, e1 173 (.aload_n 0) 1 0, e3 174 (.getfield 48) 3 22 16 2, ec 177 (.bipush 6) 2 6, e1 179 (.iload_n 1) 1 1, e0 180 (.imul) 1, e0 181 (.iaload) 1, ei 182 (.invokestatic 281) 3 0 211 1 0, e1 185 (.ireturn) 1 0], 186),
  (186, [true, true, true, false, false, false, false, false, false, false], [e1 186 (.aload_n 0) 1 0, e3 187 (.getfield 54) 3 22 18 2, e1 190 (.iload_n 1) 1 1, e0 191 (.laload) 1, ec 192 (.lconst 0) 1 0, e0 193 (.lcmp) 1, e1 194 (.ifCond .ne 7) 3 201, e1 197 (.lload_n 2) 1 2, e1 198 (.goto 11) 3 209], 201),
  (201, [true, true, true, false, false, false, false, false, false, false], [e1 201 (.aload_n 0) 1 0, e3 202 (.getfield 54) 3 22 18 2, e1 205 (.iload_n 1) 1 1, e0 206 (.laload) 1, e1 207 (.lload_n 2) 1 2, e0 208 (.land) 1], 209),
  (209, [true, true, true, false, false, false, false, false, false, false], [e1 209 (.lstore 6) 2 6, e1 211 (.lload 6) 2 6, ec 213 (.lconst 0) 1 0, e0 214 (.lcmp) 1, e1 215 (.ifCond .ne 12) 3 227, e1 218 (.aload_n 0) 1 0, e1 219 (.iload_n 1) 1 1, ei 220 (.invokevirtual 248) 3 22 213 2 0, ei 223 (.invokestatic 281) 3 0 211 1 0, e1 226 (.ireturn) 1 0], 227),
  (227, [true, true, true, false, false, false, true, false, false, false], [ec 227 (.bipush (-9)) 2 (-9), e1 229 (.istore 8) 2 8, e1 231 (.aload_n 0) 1 0, e3 232 (.getfield 170) 3 22 22 0, ec 235 (.iconst 1) 1 1, e0 236 (.isub) 1, e1 237 (.istore 9) 2 9], 239),
  (239, [true, true, true, false, false, false, true, false, true, true], [e1 239 (.iload 9) 2 9, e1 241 (.ifCond .lt 74) 3 315, e1 244 (.aload_n 0) 1 0, e3 245 (.getfield 66) 3 22 23 2, e1 248 (.iload 9) 2 9, e0 250 (.iaload) 1, ec 251 (.iconst 1) 1 1, e1 252 (.if_icmp .ne 57) 3 309, e1 255 (.aload_n 0) 1 0, e3 256 (.getfield 69) 3 22 24 2, e1 259 (.iload 9) 2 9, e0 261 (.iaload) 1, e1 262 (.iload_n 1) 1 1, e1 263 (.if_icmp .ne 46) 3 309, e1 266 (.lload_n 2) 1 2, e1 267 (.aload_n 0) 1 0, e3 268 (.getfield 72) 3 22 25 2, e1 271 (.iload 9) 2 9, e0 273 (.iaload) 1, e0 274 (.lushr) 1, ec 275 (.lconst 1) 1 1, e0 276 (.land) 1, ec 277 (.lconst 1) 1 1, e0 278 (.lcmp) 1, e1 279 (.ifCond .ne 8) 3 287, e1 282 (.iload 9) 2 9, e1 284 (.goto 5) 3 289], 287),
  (287, [true, true, true, false, false, false, true, false, true, true], [e1 287 (.iload 8) 2 8], 289),
  (289, [true, true, true, false, false, false, true, false, false, true], [e1 289 (.istore 8) 2 8, e1 291 (.lload 6) 2 6, ec 293 (.lconst 1) 1 1, e1 294 (.aload_n 0) 1 0, e3 295 (.getfield 72) 3 22 25 2, e1 298 (.iload 9) 2 9, e0 300 (.iaload) 1, e0 301 (.lshl) 1, ec 302 (.ldc2_w 287) 3 (-1), e0 305 (.lxor) 1, e0 306 (.land) 1, e1 307 (.lstore 6) 2 6], 309),
  (309, [true, true, true, false, false, false, true, false, true, true], [ek 309 (.iinc 9 (-1)) 3 (-1) 9, e1 312 (.goto (-73)) 3 239], 315),
  (315, [true, true, true, false, false, false, true, false, true, false], [e1 315 (.lload 6) 2 6, ec 317 (.lconst 0) 1 0, e0 318 (.lcmp) 1, e1 319 (.ifCond .ne 9) 3 328, e1 322 (.iload 8) 2 8, ei 324 (.invokestatic 281) 3 0 211 1 0, e1 327 (.ireturn) 1 0], 328),
  (328, [true, true, true, false, false, false, true, false, false, false], [e1 328 (.aload_n 0) 1 0, e3 329 (.getfield 54) 3 22 18 2, e1 332 (.iload_n 1) 1 1, e1 333 (.lload 6) 2 6, e0 335 (.lastore) 1, e1 336 (.aload_n 0) 1 0, ec 337 (.iconst 3) 1 3, e1 338 (.iload_n 1) 1 1, e1 339 (.lload_n 2) 1 2, e0 340 (.l2i) 1, ec 341 (.iconst 0) 1 0, ei 342 (.invokevirtual 258) 3 22 210 5 0, e1 345 (.ireturn) 1 0], 346)]
set_option maxRecDepth 100000 in
def K_X12_pair : List XB := [(0, [true, true, true, true, false, false], [e1 0 (.aload_n 0) 1 0, e1 1 (.iload_n 1) 1 1, e0 2 (.i2l) 1, ei 3 (.invokevirtual 262) 3 22 203 2 0, e1 6 (.ifCond .eq 12) 3 18, e1 9 (.aload_n 0) 1 0, e1 10 (.iload_n 2) 1 2, e0 11 (.i2l) 1, ei 12 (.invokevirtual 262) 3 22 203 2 0, e1 15 (.ifCond .ne 5) 3 20], 18),
  (18, [false, false, false, false, false, false], [ec 18 (.iconst (-1)) 1 (-1), e1 19 (.ireturn) 1 0], 20),
  (20, [true, true, true, true, false, false], [e1 20 (.iload_n 1) 1 1, e1 21 (.iload_n 2) 1 2, e1 22 (.if_icmp .eq 35) 3 57, e1 25 (.aload_n 0) 1 0, e1 26 (.iload_n 1) 1 1, ei 27 (.invokevirtual 269) 3 22 207 2 0, e1 30 (.ifCond .ne 27) 3 57, e1 33 (.aload_n 0) 1 0, e1 34 (.iload_n 1) 1 1, ei 35 (.invokevirtual 238) 3 22 208 2 0, e1 38 (.ifCond .ne 19) 3 57, e1 41 (.aload_n 0) 1 0, e1 42 (.iload_n 2) 1 2, ei 43 (.invokevirtual 269) 3 22 207 2 0, e1 46 (.ifCond .ne 11) 3 57, e1 49 (.aload_n 0) 1 0, e1 50 (.iload_n 2) 1 2, ei 51 (.invokevirtual 238) 3 22 208 2 0, e1 54 (.ifCond .eq 6) 3 60], 57),
  (57, [false, false, false, false, false, false], [ec 57 (.bipush (-3)) 2 (-3), e1 59 (.ireturn) 1 0], 60),
  (60, [true, true, true, true, false, false], [e1 60 (.aload_n 0) 1 0, e3 61 (.getfield 170) 3 22 22 0, ec 64 (.sipush 300) 3 300, e1 67 (.if_icmp .eq 12) 3 79, e1 70 (.aload_n 0) 1 0, e3 71 (.getfield 185) 3 22 27 0, ec 74 (.bipush 16) 2 16, e1 76 (.if_icmp .ne 6) 3 82], 79),
  (79, [false, false, false, false, false, false], [ec 79 (.bipush (-4)) 2 (-4), e1 81 (.ireturn) 1 0], 82),
  (82, [true, true, true, true, false, false], [e1 82 (.iload_n 3) 1 3, e1 83 (.ifCond .eq 7) 3 90, ec 86 (.iconst 1) 1 1, e1 87 (.goto 4) 3 91], 90),
  (90, [true, true, true, true, false, false], [ec 90 (.iconst 0) 1 0], 91),
  (91, [true, true, true, true, false, false], [e1 91 (.istore 4) 2 4, ec 93 (.iconst 0) 1 0, e1 94 (.istore 5) 2 5], 96),
  (96, [true, true, true, true, true, true], [e1 96 (.iload 5) 2 5, e1 98 (.aload_n 0) 1 0, e3 99 (.getfield 170) 3 22 22 0, e1 102 (.if_icmp .ge 82) 3 184, e1 105 (.aload_n 0) 1 0, e3 106 (.getfield 66) 3 22 23 2, e1 109 (.iload 5) 2 5, e0 111 (.iaload) 1, ec 112 (.iconst 4) 1 4, e1 113 (.if_icmp .ne 65) 3 178, e1 116 (.aload_n 0) 1 0, e3 117 (.getfield 69) 3 22 24 2, e1 120 (.iload 5) 2 5, e0 122 (.iaload) 1, e1 123 (.iload_n 1) 1 1, e1 124 (.if_icmp .ne 14) 3 138, e1 127 (.aload_n 0) 1 0, e3 128 (.getfield 72) 3 22 25 2, e1 131 (.iload 5) 2 5, e0 133 (.iaload) 1, e1 134 (.iload_n 2) 1 2, e1 135 (.if_icmp .eq 25) 3 160], 138),
  (138, [true, true, true, true, true, true], [e1 138 (.aload_n 0) 1 0, e3 139 (.getfield 69) 3 22 24 2, e1 142 (.iload 5) 2 5, e0 144 (.iaload) 1, e1 145 (.iload_n 2) 1 2, e1 146 (.if_icmp .ne 32) 3 178, e1 149 (.aload_n 0) 1 0, e3 150 (.getfield 72) 3 22 25 2, e1 153 (.iload 5) 2 5, e0 155 (.iaload) 1, e1 156 (.iload_n 1) 1 1, e1 157 (.if_icmp .ne 21) 3 178], 160),
  (160, [true, true, true, true, true, true], [e1 160 (.aload_n 0) 1 0, e3 161 (.getfield 75) 3 22 26 2, e1 164 (.iload 5) 2 5, e0 166 (.iaload) 1, e1 167 (.iload 4) 2 4, e1 169 (.if_icmp .eq 9) 3 178, e1 172 (.iload 5) 2 5, ei 174 (.invokestatic 281) 3 0 211 1 0, e1 177 (.ireturn) 1 0], 178),
  (178, [true, true, true, true, true, true], [ek 178 (.iinc 5 1) 3 1 5, e1 181 (.goto (-85)) 3 96], 184),
  (184, [true, true, true, true, true, false], [e1 184 (.aload_n 0) 1 0, e3 185 (.getfield 51) 3 22 17 2, e1 188 (.iload_n 1) 1 1, e0 189 (.iaload) 1, e1 190 (.ifCond .le 80) 3 270, e1 193 (.aload_n 0) 1 0, e3 194 (.getfield 51) 3 22 17 2, e1 197 (.iload_n 2) 1 2, e0 198 (.iaload) 1, e1 199 (.ifCond .le 71) 3 270, e1 202 (.aload_n 0) 1 0, e1 203 (.iload_n 1) 1 1, ei 204 (.invokevirtual 241) 3 22 215 2 0, e1 207 (.aload_n 0) 1 0, e1 208 (.iload_n 2) 1 2, ei 209 (.invokevirtual 241) 3 22 215 2 0, e1 212 (.if_icmp .ne 7) 3 219, ec 215 (.iconst 1) 1 1, e1 216 (.goto 4) 3 220], 219),
  (219, [true, true, true, true, true, false], [ec 219 (.iconst 0) 1 0], 220),
  (220, [true, true, true, true, true, false], [e1 220 (.iload_n 3) 1 3, e1 221 (.if_icmp .eq 49) 3 270, e1 224 (.aload_n 0) 1 0, e3 225 (.getfield 48) 3 22 16 2, ec 228 (.bipush 6) 2 6, e1 230 (.iload_n 1) 1 1, e0 231 (.imul) 1, e0 232 (.iaload) 1, e1 233 (.aload_n 0) 1 0, e3 234 (.getfield 48) 3 22 16 2, ec 237 (.bipush 6) 2 6, e1 239 (.iload_n 2) 1 2, e0 240 (.imul) 1, e0 241 (.iaload) 1, e1 242 (.if_icmp .le 15) 3 257, e1 245 (.aload_n 0) 1 0, e3 246 (.getfield 48) 3 22 16 2, ec 249 (.bipush 6) 2 6, e1 251 (.iload_n 1) 1 1, e0 252 (.imul) 1, e0 253 (.iaload) 1, e1 254 (.goto 12) 3 266], 257),
  (257, [true, false, true, false, false, false], [e1 257 (.aload_n 0) 1 0, e3 258 (.getfield 48) 3 22 16 2, ec 261 (.bipush 6) 2 6, e1 263 (.iload_n 2) 1 2, e0 264 (.imul) 1, e0 265 (.iaload) 1], 266),
  (266, [false, false, false, false, false, false], [ei 266 (.invokestatic 281) 3 0 211 1 0, e1 269 (.ireturn) 1 0], 270),
  (270, [true, true, true, false, true, false], [e1 270 (.aload_n 0) 1 0, e0 271 (.dup) 1, e3 272 (.getfield 185) 3 22 27 0, ec 275 (.iconst 1) 1 1, e0 276 (.iadd) 1, e3 277 (.putfield 185) 3 22 27 0, e1 280 (.aload_n 0) 1 0, ec 281 (.iconst 4) 1 4, e1 282 (.iload_n 1) 1 1, e1 283 (.iload_n 2) 1 2, e1 284 (.iload 4) 2 4, ei 286 (.invokevirtual 258) 3 22 210 5 0, e1 289 (.ireturn) 1 0], 290)]
set_option maxRecDepth 100000 in
def K_X12_most : List XB := [(0, [true, true, true, false, false], [e1 0 (.aload_n 0) 1 0, e1 1 (.iload_n 1) 1 1, e0 2 (.i2l) 1, ei 3 (.invokevirtual 262) 3 22 203 2 0, e1 6 (.ifCond .ne 5) 3 11, ec 9 (.iconst (-1)) 1 (-1), e1 10 (.ireturn) 1 0], 11),
  (11, [true, true, true, false, false], [e1 11 (.iload_n 2) 1 2, e0 12 (.i2l) 1, ec 13 (.lconst 0) 1 0, ec 14 (.ldc2_w 319) 3 64, ei 17 (.invokestatic 191) 3 0 189 3 0, e1 20 (.ifCond .ne 6) 3 26, ec 23 (.bipush (-2)) 2 (-2), e1 25 (.ireturn) 1 0], 26),
  (26, [true, true, true, false, false], [e1 26 (.aload_n 0) 1 0, e1 27 (.iload_n 1) 1 1, ei 28 (.invokevirtual 266) 3 22 206 2 0, e1 31 (.ifCond .eq 14) 3 45, e1 34 (.aload_n 0) 1 0, e3 35 (.getfield 57) 3 22 19 2, e1 38 (.iload_n 1) 1 1, e0 39 (.iaload) 1, ec 40 (.bipush (-9)) 2 (-9), e1 42 (.if_icmp .eq 6) 3 48], 45),
  (45, [false, false, false, false, false], [ec 45 (.bipush (-3)) 2 (-3), e1 47 (.ireturn) 1 0], 48),
  (48, [true, true, true, false, false], [e1 48 (.aload_n 0) 1 0, e3 49 (.getfield 170) 3 22 22 0, ec 52 (.sipush 300) 3 300, e1 55 (.if_icmp .ne 6) 3 61, ec 58 (.bipush (-4)) 2 (-4), e1 60 (.ireturn) 1 0], 61),
  (61, [true, true, true, false, false], [ec 61 (.iconst 0) 1 0, e1 62 (.istore_n 3) 1 3, ec 63 (.iconst 0) 1 0, e1 64 (.istore 4) 2 4], 66),
  (66, [true, true, true, true, true], [e1 66 (.iload 4) 2 4, e1 68 (.aload_n 0) 1 0, e3 69 (.getfield 170) 3 22 22 0, e1 72 (.if_icmp .ge 60) 3 132, e1 75 (.aload_n 0) 1 0, e3 76 (.getfield 66) 3 22 23 2, e1 79 (.iload 4) 2 4, e0 81 (.iaload) 1, e1 82 (.ifCond .ne 44) 3 126, e1 85 (.aload_n 0) 1 0, e3 86 (.getfield 72) 3 22 25 2, e1 89 (.iload 4) 2 4, e0 91 (.iaload) 1, e1 92 (.iload_n 1) 1 1, e1 93 (.if_icmp .ne 33) 3 126, e1 96 (.aload_n 0) 1 0, e1 97 (.aload_n 0) 1 0, e3 98 (.getfield 69) 3 22 24 2, e1 101 (.iload 4) 2 4, e0 103 (.iaload) 1, ei 104 (.invokevirtual 238) 3 22 208 2 0, e1 107 (.ifCond .ne 19) 3 126, ek 110 (.iinc 3 1) 3 1 3, e1 113 (.iload_n 3) 1 3, e1 114 (.iload_n 2) 1 2, ec 115 (.iconst 1) 1 1, e0 116 (.iadd) 1, e1 117 (.if_icmp .ne 9) 3 126, e1 120 (.iload 4) 2 4, ei 122 (.invokestatic 281) 3 0 211 1 0, e1 125 (.ireturn) 1 0], 126),
  (126, [true, true, true, true, true], [ek 126 (.iinc 4 1) 3 1 4, e1 129 (.goto (-63)) 3 66], 132),
  (132, [true, true, true, false, false], [e1 132 (.aload_n 0) 1 0, e3 133 (.getfield 57) 3 22 19 2, e1 136 (.iload_n 1) 1 1, e1 137 (.aload_n 0) 1 0, ec 138 (.iconst 5) 1 5, e1 139 (.iload_n 1) 1 1, e1 140 (.iload_n 2) 1 2, ec 141 (.iconst 0) 1 0, ei 142 (.invokevirtual 258) 3 22 210 5 0, e0 145 (.iastore) 1, e1 146 (.aload_n 0) 1 0, e3 147 (.getfield 57) 3 22 19 2, e1 150 (.iload_n 1) 1 1, e0 151 (.iaload) 1, e1 152 (.ireturn) 1 0], 153)]
set_option maxRecDepth 100000 in
def K_X12_isUnsettled : List XB := [(0, [true, true], [e1 0 (.aload_n 0) 1 0, e3 1 (.getfield 54) 3 22 18 2, e1 4 (.iload_n 1) 1 1, e0 5 (.laload) 1, ec 6 (.lconst 0) 1 0, e0 7 (.lcmp) 1, e1 8 (.ifCond .eq 16) 3 24, e1 11 (.aload_n 0) 1 0, e3 12 (.getfield 51) 3 22 17 2, e1 15 (.iload_n 1) 1 1, e0 16 (.iaload) 1, e1 17 (.ifCond .ne 7) 3 24, ec 20 (.iconst 1) 1 1, e1 21 (.goto 4) 3 25], 24),
  (24, [false, false], [ec 24 (.iconst 0) 1 0], 25),
  (25, [false, false], [e1 25 (.ireturn) 1 1], 26)]
set_option maxRecDepth 100000 in
def K_X12_unsettled : List XB := [(0, [true, false, false], [ec 0 (.iconst 0) 1 0, e1 1 (.istore_n 1) 1 1, ec 2 (.iconst 0) 1 0, e1 3 (.istore_n 2) 1 2], 4),
  (4, [true, true, true], [e1 4 (.iload_n 2) 1 2, e1 5 (.aload_n 0) 1 0, e3 6 (.getfield 167) 3 22 9 0, e1 9 (.if_icmp .ge 25) 3 34, e1 12 (.iload_n 1) 1 1, e1 13 (.aload_n 0) 1 0, e1 14 (.iload_n 2) 1 2, ei 15 (.invokevirtual 321) 3 22 243 2 0, e1 18 (.ifCond .eq 7) 3 25, ec 21 (.iconst 1) 1 1, e1 22 (.goto 4) 3 26], 25),
  (25, [true, false, true], [ec 25 (.iconst 0) 1 0], 26),
  (26, [true, false, true], [e0 26 (.iadd) 1, e1 27 (.istore_n 1) 1 1, ek 28 (.iinc 2 1) 3 1 2, e1 31 (.goto (-27)) 3 4], 34),
  (34, [false, true, false], [e1 34 (.iload_n 1) 1 1, e1 35 (.ireturn) 1 0], 36)]
set_option maxRecDepth 100000 in
def K_X12_keeps : List XB := [(0, [true, false, false, false, false], [ec 0 (.iconst 0) 1 0, e1 1 (.istore_n 1) 1 1], 2),
  (2, [true, true, false, false, false], [e1 2 (.iload_n 1) 1 1, e1 3 (.aload_n 0) 1 0, e3 4 (.getfield 167) 3 22 9 0, e1 7 (.if_icmp .ge 126) 3 133, e1 10 (.aload_n 0) 1 0, e3 11 (.getfield 78) 3 22 28 2, e1 14 (.iload_n 1) 1 1, e0 15 (.iaload) 1, e1 16 (.istore_n 2) 1 2, ec 17 (.iconst 0) 1 0, e1 18 (.istore_n 3) 1 3], 19),
  (19, [true, true, true, true, false], [e1 19 (.iload_n 3) 1 3, ec 20 (.bipush 65) 2 65, e1 22 (.if_icmp .ge 29) 3 51, e1 25 (.iload_n 2) 1 2, ec 26 (.bipush (-9)) 2 (-9), e1 28 (.if_icmp .eq 23) 3 51, e1 31 (.iload_n 2) 1 2, e1 32 (.iload_n 1) 1 1, e1 33 (.if_icmp .ne 5) 3 38, ec 36 (.iconst 0) 1 0, e1 37 (.ireturn) 1 1], 38),
  (38, [true, true, true, true, false], [e1 38 (.aload_n 0) 1 0, e3 39 (.getfield 78) 3 22 28 2, e1 42 (.iload_n 2) 1 2, e0 43 (.iaload) 1, e1 44 (.istore_n 2) 1 2, ek 45 (.iinc 3 1) 3 1 3, e1 48 (.goto (-29)) 3 19], 51),
  (51, [true, true, false, false, false], [e1 51 (.aload_n 0) 1 0, e3 52 (.getfield 57) 3 22 19 2, e1 55 (.iload_n 1) 1 1, e0 56 (.iaload) 1, ec 57 (.bipush (-9)) 2 (-9), e1 59 (.if_icmp .eq 68) 3 127, ec 62 (.iconst 0) 1 0, e1 63 (.istore_n 3) 1 3, ec 64 (.iconst 0) 1 0, e1 65 (.istore 4) 2 4], 67),
  (67, [true, true, false, true, true], [e1 67 (.iload 4) 2 4, e1 69 (.aload_n 0) 1 0, e3 70 (.getfield 167) 3 22 9 0, e1 73 (.if_icmp .ge 37) 3 110, e1 76 (.iload_n 3) 1 3, e1 77 (.aload_n 0) 1 0, e1 78 (.iload 4) 2 4, ei 80 (.invokevirtual 238) 3 22 208 2 0, e1 83 (.ifCond .ne 18) 3 101, e1 86 (.aload_n 0) 1 0, e3 87 (.getfield 78) 3 22 28 2, e1 90 (.iload 4) 2 4, e0 92 (.iaload) 1, e1 93 (.iload_n 1) 1 1, e1 94 (.if_icmp .ne 7) 3 101, ec 97 (.iconst 1) 1 1, e1 98 (.goto 4) 3 102], 101),
  (101, [true, true, false, false, true], [ec 101 (.iconst 0) 1 0], 102),
  (102, [true, true, false, false, true], [e0 102 (.iadd) 1, e1 103 (.istore_n 3) 1 3, ek 104 (.iinc 4 1) 3 1 4, e1 107 (.goto (-40)) 3 67], 110),
  (110, [true, true, false, true, false], [e1 110 (.iload_n 3) 1 3, e1 111 (.aload_n 0) 1 0, e3 112 (.getfield 72) 3 22 25 2, e1 115 (.aload_n 0) 1 0, e3 116 (.getfield 57) 3 22 19 2, e1 119 (.iload_n 1) 1 1, e0 120 (.iaload) 1, e0 121 (.iaload) 1, e1 122 (.if_icmp .le 5) 3 127, ec 125 (.iconst 0) 1 0, e1 126 (.ireturn) 1 1], 127),
  (127, [true, true, false, false, false], [ek 127 (.iinc 1 1) 3 1 1, e1 130 (.goto (-128)) 3 2], 133),
  (133, [true, false, false, false, false], [ec 133 (.iconst 0) 1 0, e1 134 (.istore_n 1) 1 1], 135),
  (135, [true, true, false, false, false], [e1 135 (.iload_n 1) 1 1, e1 136 (.aload_n 0) 1 0, e3 137 (.getfield 170) 3 22 22 0, e1 140 (.if_icmp .ge 85) 3 225, e1 143 (.aload_n 0) 1 0, e3 144 (.getfield 66) 3 22 23 2, e1 147 (.iload_n 1) 1 1, e0 148 (.iaload) 1, ec 149 (.iconst 4) 1 4, e1 150 (.if_icmp .ne 69) 3 219, e1 153 (.aload_n 0) 1 0, e3 154 (.getfield 78) 3 22 28 2, e1 157 (.aload_n 0) 1 0, e3 158 (.getfield 69) 3 22 24 2, e1 161 (.iload_n 1) 1 1, e0 162 (.iaload) 1, e0 163 (.iaload) 1, e1 164 (.istore_n 2) 1 2, e1 165 (.aload_n 0) 1 0, e3 166 (.getfield 78) 3 22 28 2, e1 169 (.aload_n 0) 1 0, e3 170 (.getfield 72) 3 22 25 2, e1 173 (.iload_n 1) 1 1, e0 174 (.iaload) 1, e0 175 (.iaload) 1, e1 176 (.istore_n 3) 1 3, e1 177 (.iload_n 2) 1 2, ec 178 (.bipush (-9)) 2 (-9), e1 180 (.if_icmp .eq 39) 3 219, e1 183 (.iload_n 3) 1 3, ec 184 (.bipush (-9)) 2 (-9), e1 186 (.if_icmp .eq 33) 3 219, e1 189 (.iload_n 2) 1 2, e1 190 (.iload_n 3) 1 3, e1 191 (.if_icmp .ne 7) 3 198, ec 194 (.iconst 1) 1 1, e1 195 (.goto 4) 3 199], 198),
  (198, [true, true, false, false, false], [ec 198 (.iconst 0) 1 0], 199),
  (199, [true, true, false, false, false], [e1 199 (.aload_n 0) 1 0, e3 200 (.getfield 75) 3 22 26 2, e1 203 (.iload_n 1) 1 1, e0 204 (.iaload) 1, ec 205 (.iconst 1) 1 1, e1 206 (.if_icmp .ne 7) 3 213, ec 209 (.iconst 1) 1 1, e1 210 (.goto 4) 3 214], 213),
  (213, [true, true, false, false, false], [ec 213 (.iconst 0) 1 0], 214),
  (214, [true, true, false, false, false], [e1 214 (.if_icmp .eq 5) 3 219, ec 217 (.iconst 0) 1 0, e1 218 (.ireturn) 1 1], 219),
  (219, [true, true, false, false, false], [ek 219 (.iinc 1 1) 3 1 1, e1 222 (.goto (-87)) 3 135], 225),
  (225, [false, false, false, false, false], [ec 225 (.iconst 1) 1 1, e1 226 (.ireturn) 1 1], 227)]
set_option maxRecDepth 100000 in
def K_X12_lowest : List XB := [(0, [true, false, false], [ec 0 (.iconst 0) 1 0, e1 1 (.istore_n 2) 1 2], 2),
  (2, [true, false, true], [e1 2 (.lload_n 0) 1 0, e1 3 (.iload_n 2) 1 2, e0 4 (.lushr) 1, ec 5 (.lconst 1) 1 1, e0 6 (.land) 1, ec 7 (.lconst 0) 1 0, e0 8 (.lcmp) 1, e1 9 (.ifCond .ne 9) 3 18, ek 12 (.iinc 2 1) 3 1 2, e1 15 (.goto (-13)) 3 2], 18),
  (18, [false, false, true], [e1 18 (.iload_n 2) 1 2, e1 19 (.ireturn) 1 0], 20)]
set_option maxRecDepth 100000 in
def K_X12_many : List XB := [(0, [true, false, false, false], [ec 0 (.iconst 0) 1 0, e1 1 (.istore_n 2) 1 2, ec 2 (.iconst 0) 1 0, e1 3 (.istore_n 3) 1 3], 4),
  (4, [true, false, true, true], [e1 4 (.iload_n 3) 1 3, ec 5 (.bipush 64) 2 64, e1 7 (.if_icmp .ge 27) 3 34, e1 10 (.iload_n 2) 1 2, e1 11 (.lload_n 0) 1 0, e1 12 (.iload_n 3) 1 3, e0 13 (.lushr) 1, ec 14 (.lconst 1) 1 1, e0 15 (.land) 1, ec 16 (.lconst 1) 1 1, e0 17 (.lcmp) 1, e1 18 (.ifCond .ne 7) 3 25, ec 21 (.iconst 1) 1 1, e1 22 (.goto 4) 3 26], 25),
  (25, [true, false, false, true], [ec 25 (.iconst 0) 1 0], 26),
  (26, [true, false, false, true], [e0 26 (.iadd) 1, e1 27 (.istore_n 2) 1 2, ek 28 (.iinc 3 1) 3 1 3, e1 31 (.goto (-27)) 3 4], 34),
  (34, [false, false, true, false], [e1 34 (.iload_n 2) 1 2, e1 35 (.ireturn) 1 0], 36)]
set_option maxRecDepth 100000 in
def K_X12_goesOn : List XB := [(0, [true, false, false, false], [e1 0 (.aload_n 0) 1 0, e3 1 (.getfield 167) 3 22 9 0, ec 4 (.iconst 1) 1 1, e0 5 (.isub) 1, e1 6 (.istore_n 1) 1 1], 7),
  (7, [true, true, false, false], [e1 7 (.iload_n 1) 1 1, e1 8 (.ifCond .lt 75) 3 83, e1 11 (.aload_n 0) 1 0, e1 12 (.iload_n 1) 1 1, ei 13 (.invokevirtual 321) 3 22 243 2 0, e1 16 (.ifCond .eq 61) 3 77, e1 19 (.aload_n 0) 1 0, e3 20 (.getfield 54) 3 22 18 2, e1 23 (.iload_n 1) 1 1, e0 24 (.laload) 1, e1 25 (.aload_n 0) 1 0, e3 26 (.getfield 78) 3 22 28 2, e1 29 (.iload_n 1) 1 1, e0 30 (.iaload) 1, e0 31 (.lushr) 1, ec 32 (.iconst 1) 1 1, e0 33 (.lushr) 1, e1 34 (.lstore_n 2) 1 2, e1 35 (.lload_n 2) 1 2, ec 36 (.lconst 0) 1 0, e0 37 (.lcmp) 1, e1 38 (.ifCond .eq 24) 3 62, e1 41 (.aload_n 0) 1 0, e3 42 (.getfield 78) 3 22 28 2, e1 45 (.iload_n 1) 1 1, e1 46 (.aload_n 0) 1 0, e3 47 (.getfield 78) 3 22 28 2, e1 50 (.iload_n 1) 1 1, e0 51 (.iaload) 1, ec 52 (.iconst 1) 1 1, e0 53 (.iadd) 1, e1 54 (.lload_n 2) 1 2, ei 55 (.invokestatic 324) 3 0 246 1 0, e0 58 (.iadd) 1, e0 59 (.iastore) 1, ec 60 (.iconst 1) 1 1, e1 61 (.ireturn) 1 1], 62),
  (62, [true, true, false, false], [e1 62 (.aload_n 0) 1 0, e3 63 (.getfield 78) 3 22 28 2, e1 66 (.iload_n 1) 1 1, e1 67 (.aload_n 0) 1 0, e3 68 (.getfield 54) 3 22 18 2, e1 71 (.iload_n 1) 1 1, e0 72 (.laload) 1, ei 73 (.invokestatic 324) 3 0 246 1 0, e0 76 (.iastore) 1], 77),
  (77, [true, true, false, false], [ek 77 (.iinc 1 (-1)) 3 (-1) 1, e1 80 (.goto (-73)) 3 7], 83),
  (83, [false, false, false, false], [ec 83 (.iconst 0) 1 0, e1 84 (.ireturn) 1 1], 85)]
set_option maxRecDepth 100000 in
def K_X12_settle : List XB := [(0, [true, false, false, false, false, false, false], [e1 0 (.aload_n 0) 1 0, ei 1 (.invokevirtual 328) 3 22 244 1 0, e1 4 (.istore_n 1) 1 1, ec 5 (.lconst 1) 1 1, e1 6 (.lstore_n 2) 1 2, ec 7 (.iconst 0) 1 0, e1 8 (.istore 4) 2 4], 10),
  (10, [true, true, true, false, true, false, false], [e1 10 (.iload 4) 2 4, e1 12 (.aload_n 0) 1 0, e3 13 (.getfield 167) 3 22 9 0, e1 16 (.if_icmp .ge 44) 3 60, e1 19 (.aload_n 0) 1 0, e1 20 (.iload 4) 2 4, ei 22 (.invokevirtual 321) 3 22 243 2 0, e1 25 (.ifCond .eq 27) 3 52, e1 28 (.lload_n 2) 1 2, ec 29 (.ldc2_w 332) 3 3000, e0 32 (.lcmp) 1, e1 33 (.ifCond .gt 19) 3 52, e1 36 (.lload_n 2) 1 2, e1 37 (.aload_n 0) 1 0, e3 38 (.getfield 54) 3 22 18 2, e1 41 (.iload 4) 2 4, e0 43 (.laload) 1, ei 44 (.invokestatic 334) 3 0 247 1 0, e0 47 (.i2l) 1, e0 48 (.lmul) 1, e1 49 (.goto 4) 3 53], 52),
  (52, [true, true, true, false, true, false, false], [e1 52 (.lload_n 2) 1 2], 53),
  (53, [true, true, false, false, true, false, false], [e1 53 (.lstore_n 2) 1 2, ek 54 (.iinc 4 1) 3 1 4, e1 57 (.goto (-47)) 3 10], 60),
  (60, [true, true, true, false, false, false, false], [e1 60 (.iload_n 1) 1 1, ec 61 (.bipush 7) 2 7, e1 63 (.if_icmp .gt 11) 3 74, e1 66 (.lload_n 2) 1 2, ec 67 (.ldc2_w 332) 3 3000, e0 70 (.lcmp) 1, e1 71 (.ifCond .le 6) 3 77], 74),
  (74, [false, false, false, false, false, false, false], [ec 74 (.bipush (-3)) 2 (-3), e1 76 (.ireturn) 1 0], 77),
  (77, [true, true, false, false, false, false, false], [e1 77 (.aload_n 0) 1 0, e3 78 (.getfield 170) 3 22 22 0, e1 81 (.iload_n 1) 1 1, e0 82 (.iadd) 1, ec 83 (.sipush 300) 3 300, e1 86 (.if_icmp .le 6) 3 92, ec 89 (.bipush (-4)) 2 (-4), e1 91 (.ireturn) 1 0], 92),
  (92, [true, true, false, false, false, false, false], [ec 92 (.iconst 0) 1 0, e1 93 (.istore 4) 2 4], 95),
  (95, [true, true, false, false, true, false, false], [e1 95 (.iload 4) 2 4, e1 97 (.aload_n 0) 1 0, e3 98 (.getfield 167) 3 22 9 0, e1 101 (.if_icmp .ge 58) 3 159, e1 104 (.aload_n 0) 1 0, e3 105 (.getfield 78) 3 22 28 2, e1 108 (.iload 4) 2 4, e1 110 (.aload_n 0) 1 0, e1 111 (.iload 4) 2 4, ei 113 (.invokevirtual 321) 3 22 243 2 0, e1 116 (.ifCond .eq 16) 3 132, e1 119 (.aload_n 0) 1 0, e3 120 (.getfield 54) 3 22 18 2, e1 123 (.iload 4) 2 4, e0 125 (.laload) 1, ei 126 (.invokestatic 324) 3 0 246 1 0, e1 129 (.goto 23) 3 152], 132),
  (132, [true, true, false, false, true, false, false], [e1 132 (.aload_n 0) 1 0, e1 133 (.iload 4) 2 4, ei 135 (.invokevirtual 238) 3 22 208 2 0, e1 138 (.ifCond .eq 8) 3 146, ec 141 (.bipush (-9)) 2 (-9), e1 143 (.goto 9) 3 152], 146),
  (146, [true, true, false, false, true, false, false], [e1 146 (.aload_n 0) 1 0, e1 147 (.iload 4) 2 4, ei 149 (.invokevirtual 241) 3 22 215 2 0], 152),
  (152, [true, true, false, false, true, false, false], [e0 152 (.iastore) 1, ek 153 (.iinc 4 1) 3 1 4, e1 156 (.goto (-61)) 3 95], 159),
  (159, [true, true, false, false, false, false, false], [ec 159 (.iconst 1) 1 1, e1 160 (.istore 4) 2 4], 162),
  (162, [true, true, false, false, true, false, false], [e1 162 (.iload 4) 2 4, e1 164 (.ifCond .eq 19) 3 183, e1 167 (.aload_n 0) 1 0, ei 168 (.invokevirtual 337) 3 22 245 1 0, e1 171 (.ifCond .ne 12) 3 183, e1 174 (.aload_n 0) 1 0, ei 175 (.invokevirtual 341) 3 22 248 1 0, e1 178 (.istore 4) 2 4, e1 180 (.goto (-18)) 3 162], 183),
  (183, [true, true, false, false, true, false, false], [e1 183 (.iload 4) 2 4, e1 185 (.ifCond .ne 6) 3 191, ec 188 (.bipush (-5)) 2 (-5), e1 190 (.ireturn) 1 0], 191),
  (191, [true, true, false, false, false, false, false], [ec 191 (.iconst 0) 1 0, e1 192 (.istore 5) 2 5], 194),
  (194, [true, true, false, false, false, true, false], [e1 194 (.iload 5) 2 5, e1 196 (.aload_n 0) 1 0, e3 197 (.getfield 167) 3 22 9 0, e1 200 (.if_icmp .ge 33) 3 233, e1 203 (.aload_n 0) 1 0, e1 204 (.iload 5) 2 5, ei 206 (.invokevirtual 321) 3 22 243 2 0, e1 209 (.ifCond .eq 18) 3 227, e1 212 (.aload_n 0) 1 0, e1 213 (.iload 5) 2 5, e1 215 (.aload_n 0) 1 0, e3 216 (.getfield 78) 3 22 28 2, e1 219 (.iload 5) 2 5, e0 221 (.iaload) 1, ei 222 (.invokevirtual 284) 3 22 220 3 0, e1 225 (.istore 6) 2 6], 227),
  (227, [true, true, false, false, false, true, false], [ek 227 (.iinc 5 1) 3 1 5, e1 230 (.goto (-36)) 3 194], 233),
  (233, [false, true, false, false, false, false, false], [e1 233 (.iload_n 1) 1 1, e1 234 (.ireturn) 1 0], 235)]
set_option maxRecDepth 100000 in
def K_X12_set : List XB := [(0, [true, true], [e1 0 (.aload_n 0) 1 0, e1 1 (.iload_n 1) 1 1, e0 2 (.i2l) 1, ei 3 (.invokevirtual 262) 3 22 203 2 0, e1 6 (.ifCond .eq 12) 3 18, e1 9 (.aload_n 0) 1 0, e3 10 (.getfield 54) 3 22 18 2, e1 13 (.iload_n 1) 1 1, e0 14 (.laload) 1, e1 15 (.goto 4) 3 19], 18),
  (18, [false, false], [ec 18 (.lconst 0) 1 0], 19),
  (19, [false, false], [e0 19 (.lreturn) 1], 20)]
set_option maxRecDepth 100000 in
def K_X12_isRelation : List XB := [(0, [true, true], [e1 0 (.iload_n 1) 1 1, e0 1 (.i2l) 1, ec 2 (.lconst 0) 1 0, e1 3 (.aload_n 0) 1 0, e3 4 (.getfield 173) 3 22 29 0, ec 7 (.iconst 1) 1 1, e0 8 (.isub) 1, e0 9 (.i2l) 1, ei 10 (.invokestatic 191) 3 0 189 3 0, e1 13 (.ireturn) 1 1], 14)]
set_option maxRecDepth 100000 in
def K_X12_groupUp : List XB := [(0, [true, true, true, false, false, false, false], [ec 0 (.iconst 0) 1 0, e1 1 (.istore_n 3) 1 3], 2),
  (2, [true, true, true, true, false, false, false], [e1 2 (.iload_n 3) 1 3, e1 3 (.aload_n 0) 1 0, e3 4 (.getfield 167) 3 22 9 0, e1 7 (.if_icmp .ge 16) 3 23, e1 10 (.aload_n 0) 1 0, e3 11 (.getfield 84) 3 22 31 2, e1 14 (.iload_n 3) 1 3, e1 15 (.iload_n 3) 1 3, e0 16 (.iastore) 1, ek 17 (.iinc 3 1) 3 1 3, e1 20 (.goto (-18)) 3 2], 23),
  (23, [true, true, true, false, false, false, false], [ec 23 (.iconst 0) 1 0, e1 24 (.istore_n 3) 1 3], 25),
  (25, [true, true, true, true, false, false, false], [e1 25 (.iload_n 3) 1 3, e1 26 (.iload_n 2) 1 2, e1 27 (.if_icmp .ge 130) 3 157, e1 30 (.aload_n 0) 1 0, e3 31 (.getfield 66) 3 22 23 2, e1 34 (.iload_n 3) 1 3, e0 35 (.iaload) 1, ec 36 (.bipush 6) 2 6, e1 38 (.if_icmp .ne 113) 3 151, e1 41 (.aload_n 0) 1 0, e3 42 (.getfield 69) 3 22 24 2, e1 45 (.iload_n 3) 1 3, e0 46 (.iaload) 1, e1 47 (.iload_n 1) 1 1, e1 48 (.if_icmp .ne 103) 3 151, e1 51 (.aload_n 0) 1 0, e3 52 (.getfield 84) 3 22 31 2, e1 55 (.aload_n 0) 1 0, e3 56 (.getfield 72) 3 22 25 2, e1 59 (.iload_n 3) 1 3, e0 60 (.iaload) 1, e0 61 (.iaload) 1, e1 62 (.aload_n 0) 1 0, e3 63 (.getfield 84) 3 22 31 2, e1 66 (.aload_n 0) 1 0, e3 67 (.getfield 75) 3 22 26 2, e1 70 (.iload_n 3) 1 3, e0 71 (.iaload) 1, e0 72 (.iaload) 1, e1 73 (.if_icmp .eq 78) 3 151, e1 76 (.aload_n 0) 1 0, e3 77 (.getfield 84) 3 22 31 2, e1 80 (.aload_n 0) 1 0, e3 81 (.getfield 75) 3 22 26 2, e1 84 (.iload_n 3) 1 3, e0 85 (.iaload) 1, e0 86 (.iaload) 1, e1 87 (.istore 4) 2 4, e1 89 (.aload_n 0) 1 0, e3 90 (.getfield 84) 3 22 31 2, e1 93 (.aload_n 0) 1 0, e3 94 (.getfield 72) 3 22 25 2, e1 97 (.iload_n 3) 1 3, e0 98 (.iaload) 1, e0 99 (.iaload) 1, e1 100 (.istore 5) 2 5, ec 102 (.iconst 0) 1 0, e1 103 (.istore 6) 2 6], 105),
  (105, [true, true, true, true, true, true, true], [e1 105 (.iload 6) 2 6, e1 107 (.aload_n 0) 1 0, e3 108 (.getfield 167) 3 22 9 0, e1 111 (.if_icmp .ge 40) 3 151, e1 114 (.aload_n 0) 1 0, e3 115 (.getfield 84) 3 22 31 2, e1 118 (.iload 6) 2 6, e1 120 (.aload_n 0) 1 0, e3 121 (.getfield 84) 3 22 31 2, e1 124 (.iload 6) 2 6, e0 126 (.iaload) 1, e1 127 (.iload 4) 2 4, e1 129 (.if_icmp .ne 8) 3 137, e1 132 (.iload 5) 2 5, e1 134 (.goto 10) 3 144], 137),
  (137, [true, true, true, true, true, true, true], [e1 137 (.aload_n 0) 1 0, e3 138 (.getfield 84) 3 22 31 2, e1 141 (.iload 6) 2 6, e0 143 (.iaload) 1], 144),
  (144, [true, true, true, true, true, true, true], [e0 144 (.iastore) 1, ek 145 (.iinc 6 1) 3 1 6, e1 148 (.goto (-43)) 3 105], 151),
  (151, [true, true, true, true, false, false, false], [ek 151 (.iinc 3 1) 3 1 3, e1 154 (.goto (-129)) 3 25], 157),
  (157, [false, false, false, false, false, false, false], [e0 157 (.return_) 1], 158)]
set_option maxRecDepth 100000 in
def K_X12_told : List XB := [(0, [true, true, true, true, true, false], [ec 0 (.iconst 0) 1 0, e1 1 (.istore 5) 2 5], 3),
  (3, [true, true, true, true, true, true], [e1 3 (.iload 5) 2 5, e1 5 (.aload_n 0) 1 0, e3 6 (.getfield 170) 3 22 22 0, e1 9 (.if_icmp .ge 57) 3 66, e1 12 (.aload_n 0) 1 0, e3 13 (.getfield 66) 3 22 23 2, e1 16 (.iload 5) 2 5, e0 18 (.iaload) 1, e1 19 (.iload_n 1) 1 1, e1 20 (.if_icmp .ne 40) 3 60, e1 23 (.aload_n 0) 1 0, e3 24 (.getfield 69) 3 22 24 2, e1 27 (.iload 5) 2 5, e0 29 (.iaload) 1, e1 30 (.iload_n 2) 1 2, e1 31 (.if_icmp .ne 29) 3 60, e1 34 (.aload_n 0) 1 0, e3 35 (.getfield 72) 3 22 25 2, e1 38 (.iload 5) 2 5, e0 40 (.iaload) 1, e1 41 (.iload_n 3) 1 3, e1 42 (.if_icmp .ne 18) 3 60, e1 45 (.aload_n 0) 1 0, e3 46 (.getfield 75) 3 22 26 2, e1 49 (.iload 5) 2 5, e0 51 (.iaload) 1, e1 52 (.iload 4) 2 4, e1 54 (.if_icmp .ne 6) 3 60, e1 57 (.iload 5) 2 5, e1 59 (.ireturn) 1 0], 60),
  (60, [true, true, true, true, true, true], [ek 60 (.iinc 5 1) 3 1 5, e1 63 (.goto (-60)) 3 3], 66),
  (66, [false, false, false, false, false, false], [ec 66 (.bipush (-9)) 2 (-9), e1 68 (.ireturn) 1 0], 69)]
set_option maxRecDepth 100000 in
def K_X12_earlier : List XB := [(0, [true, true], [e1 0 (.iload_n 0) 1 0, ec 1 (.bipush (-9)) 2 (-9), e1 3 (.if_icmp .ne 7) 3 10, e1 6 (.iload_n 1) 1 1, e1 7 (.goto 19) 3 26], 10),
  (10, [true, true], [e1 10 (.iload_n 1) 1 1, ec 11 (.bipush (-9)) 2 (-9), e1 13 (.if_icmp .eq 8) 3 21, e1 16 (.iload_n 0) 1 0, e1 17 (.iload_n 1) 1 1, e1 18 (.if_icmp .ge 7) 3 25], 21),
  (21, [true, false], [e1 21 (.iload_n 0) 1 0, e1 22 (.goto 4) 3 26], 25),
  (25, [false, true], [e1 25 (.iload_n 1) 1 1], 26),
  (26, [false, false], [e1 26 (.ireturn) 1 0], 27)]
set_option maxRecDepth 100000 in
def K_X12_hasBy : List XB := [(0, [true, true, true, true, false], [e1 0 (.aload_n 0) 1 0, e3 1 (.getfield 81) 3 22 30 2, e1 4 (.iload_n 1) 1 1, e0 5 (.iaload) 1, ec 6 (.iconst 5) 1 5, e1 7 (.if_icmp .ne 63) 3 70, e1 10 (.aload_n 0) 1 0, e1 11 (.iload_n 1) 1 1, e1 12 (.aload_n 0) 1 0, e3 13 (.getfield 170) 3 22 22 0, ei 16 (.invokevirtual 344) 3 22 252 3 3, e1 19 (.aload_n 0) 1 0, e3 20 (.getfield 84) 3 22 31 2, e1 23 (.iload_n 2) 1 2, e0 24 (.iaload) 1, e1 25 (.aload_n 0) 1 0, e3 26 (.getfield 84) 3 22 31 2, e1 29 (.iload_n 3) 1 3, e0 30 (.iaload) 1, e1 31 (.if_icmp .eq 6) 3 37, ec 34 (.bipush (-9)) 2 (-9), e1 36 (.ireturn) 1 0], 37),
  (37, [true, true, true, true, false], [ec 37 (.iconst 0) 1 0, e1 38 (.istore 4) 2 4], 40),
  (40, [true, true, true, true, true], [ek 40 (.iinc 4 1) 3 1 4, e1 43 (.aload_n 0) 1 0, e1 44 (.iload_n 1) 1 1, e1 45 (.iload 4) 2 4, ei 47 (.invokevirtual 344) 3 22 252 3 3, e1 50 (.aload_n 0) 1 0, e3 51 (.getfield 84) 3 22 31 2, e1 54 (.iload_n 2) 1 2, e0 55 (.iaload) 1, e1 56 (.aload_n 0) 1 0, e3 57 (.getfield 84) 3 22 31 2, e1 60 (.iload_n 3) 1 3, e0 61 (.iaload) 1, e1 62 (.if_icmp .ne (-22)) 3 40, e1 65 (.iload 4) 2 4, ec 67 (.iconst 1) 1 1, e0 68 (.isub) 1, e1 69 (.ireturn) 1 0], 70),
  (70, [true, true, true, true, false], [e1 70 (.aload_n 0) 1 0, ec 71 (.bipush 6) 2 6, e1 73 (.iload_n 1) 1 1, e1 74 (.iload_n 2) 1 2, e1 75 (.iload_n 3) 1 3, ei 76 (.invokevirtual 348) 3 22 253 5 0, e1 79 (.istore 4) 2 4, e1 81 (.aload_n 0) 1 0, e3 82 (.getfield 81) 3 22 30 2, e1 85 (.iload_n 1) 1 1, e0 86 (.iaload) 1, ec 87 (.iconst 4) 1 4, e1 88 (.if_icmp .ne 20) 3 108, e1 91 (.iload 4) 2 4, e1 93 (.aload_n 0) 1 0, ec 94 (.bipush 6) 2 6, e1 96 (.iload_n 1) 1 1, e1 97 (.iload_n 3) 1 3, e1 98 (.iload_n 2) 1 2, ei 99 (.invokevirtual 348) 3 22 253 5 0, ei 102 (.invokestatic 351) 3 0 254 2 0, e1 105 (.goto 5) 3 110], 108),
  (108, [false, false, false, false, true], [e1 108 (.iload 4) 2 4], 110),
  (110, [false, false, false, false, false], [e1 110 (.ireturn) 1 0], 111)]
set_option maxRecDepth 100000 in
def K_X12_has : List XB := [(0, [true, true, true, true], [e1 0 (.iload_n 2) 1 2, e1 1 (.iload_n 3) 1 3, e1 2 (.if_icmp .ne 21) 3 23, e1 5 (.aload_n 0) 1 0, e3 6 (.getfield 81) 3 22 30 2, e1 9 (.iload_n 1) 1 1, e0 10 (.iaload) 1, ec 11 (.iconst 5) 1 5, e1 12 (.if_icmp .ne 7) 3 19, ec 15 (.iconst 1) 1 1, e1 16 (.goto 24) 3 40], 19),
  (19, [false, false, false, false], [ec 19 (.iconst 0) 1 0, e1 20 (.goto 20) 3 40], 23),
  (23, [true, true, true, true], [e1 23 (.aload_n 0) 1 0, e1 24 (.iload_n 1) 1 1, e1 25 (.iload_n 2) 1 2, e1 26 (.iload_n 3) 1 3, ei 27 (.invokevirtual 354) 3 22 255 4 0, ec 30 (.bipush (-9)) 2 (-9), e1 32 (.if_icmp .eq 7) 3 39, ec 35 (.iconst 1) 1 1, e1 36 (.goto 4) 3 40], 39),
  (39, [false, false, false, false], [ec 39 (.iconst 0) 1 0], 40),
  (40, [false, false, false, false], [e1 40 (.ireturn) 1 1], 41)]
set_option maxRecDepth 100000 in
def K_X12_deniedBy : List XB := [(0, [true, true, true, true, false], [e1 0 (.aload_n 0) 1 0, e3 1 (.getfield 81) 3 22 30 2, e1 4 (.iload_n 1) 1 1, e0 5 (.iaload) 1, ec 6 (.iconst 5) 1 5, e1 7 (.if_icmp .ne 143) 3 150, e1 10 (.aload_n 0) 1 0, e1 11 (.iload_n 1) 1 1, e1 12 (.aload_n 0) 1 0, e3 13 (.getfield 170) 3 22 22 0, ei 16 (.invokevirtual 344) 3 22 252 3 3, ec 19 (.iconst 0) 1 0, e1 20 (.istore 4) 2 4], 22),
  (22, [true, true, true, true, true], [e1 22 (.iload 4) 2 4, e1 24 (.aload_n 0) 1 0, e3 25 (.getfield 170) 3 22 22 0, e1 28 (.if_icmp .ge 119) 3 147, e1 31 (.aload_n 0) 1 0, e3 32 (.getfield 66) 3 22 23 2, e1 35 (.iload 4) 2 4, e0 37 (.iaload) 1, ec 38 (.bipush 7) 2 7, e1 40 (.if_icmp .ne 101) 3 141, e1 43 (.aload_n 0) 1 0, e3 44 (.getfield 69) 3 22 24 2, e1 47 (.iload 4) 2 4, e0 49 (.iaload) 1, e1 50 (.iload_n 1) 1 1, e1 51 (.if_icmp .ne 90) 3 141, e1 54 (.aload_n 0) 1 0, e3 55 (.getfield 84) 3 22 31 2, e1 58 (.aload_n 0) 1 0, e3 59 (.getfield 72) 3 22 25 2, e1 62 (.iload 4) 2 4, e0 64 (.iaload) 1, e0 65 (.iaload) 1, e1 66 (.aload_n 0) 1 0, e3 67 (.getfield 84) 3 22 31 2, e1 70 (.iload_n 2) 1 2, e0 71 (.iaload) 1, e1 72 (.if_icmp .ne 24) 3 96, e1 75 (.aload_n 0) 1 0, e3 76 (.getfield 84) 3 22 31 2, e1 79 (.aload_n 0) 1 0, e3 80 (.getfield 75) 3 22 26 2, e1 83 (.iload 4) 2 4, e0 85 (.iaload) 1, e0 86 (.iaload) 1, e1 87 (.aload_n 0) 1 0, e3 88 (.getfield 84) 3 22 31 2, e1 91 (.iload_n 3) 1 3, e0 92 (.iaload) 1, e1 93 (.if_icmp .eq 45) 3 138], 96),
  (96, [true, true, true, true, true], [e1 96 (.aload_n 0) 1 0, e3 97 (.getfield 84) 3 22 31 2, e1 100 (.aload_n 0) 1 0, e3 101 (.getfield 72) 3 22 25 2, e1 104 (.iload 4) 2 4, e0 106 (.iaload) 1, e0 107 (.iaload) 1, e1 108 (.aload_n 0) 1 0, e3 109 (.getfield 84) 3 22 31 2, e1 112 (.iload_n 3) 1 3, e0 113 (.iaload) 1, e1 114 (.if_icmp .ne 27) 3 141, e1 117 (.aload_n 0) 1 0, e3 118 (.getfield 84) 3 22 31 2, e1 121 (.aload_n 0) 1 0, e3 122 (.getfield 75) 3 22 26 2, e1 125 (.iload 4) 2 4, e0 127 (.iaload) 1, e0 128 (.iaload) 1, e1 129 (.aload_n 0) 1 0, e3 130 (.getfield 84) 3 22 31 2, e1 133 (.iload_n 2) 1 2, e0 134 (.iaload) 1, e1 135 (.if_icmp .ne 6) 3 141], 138),
  (138, [false, false, false, false, true], [e1 138 (.iload 4) 2 4, e1 140 (.ireturn) 1 0], 141),
  (141, [true, true, true, true, true], [ek 141 (.iinc 4 1) 3 1 4, e1 144 (.goto (-122)) 3 22], 147),
  (147, [false, false, false, false, false], [ec 147 (.bipush (-9)) 2 (-9), e1 149 (.ireturn) 1 0], 150),
  (150, [true, true, true, true, false], [e1 150 (.aload_n 0) 1 0, ec 151 (.bipush 7) 2 7, e1 153 (.iload_n 1) 1 1, e1 154 (.iload_n 2) 1 2, e1 155 (.iload_n 3) 1 3, ei 156 (.invokevirtual 348) 3 22 253 5 0, e1 159 (.istore 4) 2 4, e1 161 (.aload_n 0) 1 0, e3 162 (.getfield 81) 3 22 30 2, e1 165 (.iload_n 1) 1 1, e0 166 (.iaload) 1, ec 167 (.iconst 4) 1 4, e1 168 (.if_icmp .ne 20) 3 188, e1 171 (.iload 4) 2 4, e1 173 (.aload_n 0) 1 0, ec 174 (.bipush 7) 2 7, e1 176 (.iload_n 1) 1 1, e1 177 (.iload_n 3) 1 3, e1 178 (.iload_n 2) 1 2, ei 179 (.invokevirtual 348) 3 22 253 5 0, ei 182 (.invokestatic 351) 3 0 254 2 0, e1 185 (.goto 5) 3 190], 188),
  (188, [false, false, false, false, true], [e1 188 (.iload 4) 2 4], 190),
  (190, [false, false, false, false, false], [e1 190 (.ireturn) 1 0], 191)]
set_option maxRecDepth 100000 in
def K_X12_oneOnly : List XB := [(0, [true, true, true, true, false, false], [e1 0 (.aload_n 0) 1 0, e3 1 (.getfield 81) 3 22 30 2, e1 4 (.iload_n 1) 1 1, e0 5 (.iaload) 1, e1 6 (.istore 4) 2 4, ec 8 (.iconst 0) 1 0, e1 9 (.istore 5) 2 5], 11),
  (11, [true, true, true, true, true, true], [e1 11 (.iload 5) 2 5, e1 13 (.aload_n 0) 1 0, e3 14 (.getfield 170) 3 22 22 0, e1 17 (.if_icmp .ge 57) 3 74, e1 20 (.iload 4) 2 4, e1 22 (.ifCond .eq 9) 3 31, e1 25 (.iload 4) 2 4, ec 27 (.iconst 2) 1 2, e1 28 (.if_icmp .ne 46) 3 74], 31),
  (31, [true, true, true, true, true, true], [e1 31 (.aload_n 0) 1 0, e3 32 (.getfield 66) 3 22 23 2, e1 35 (.iload 5) 2 5, e0 37 (.iaload) 1, ec 38 (.bipush 6) 2 6, e1 40 (.if_icmp .ne 28) 3 68, e1 43 (.aload_n 0) 1 0, e3 44 (.getfield 69) 3 22 24 2, e1 47 (.iload 5) 2 5, e0 49 (.iaload) 1, e1 50 (.iload_n 1) 1 1, e1 51 (.if_icmp .ne 17) 3 68, e1 54 (.aload_n 0) 1 0, e3 55 (.getfield 72) 3 22 25 2, e1 58 (.iload 5) 2 5, e0 60 (.iaload) 1, e1 61 (.iload_n 2) 1 2, e1 62 (.if_icmp .ne 6) 3 68, e1 65 (.iload 5) 2 5, e1 67 (.ireturn) 1 0], 68),
  (68, [true, true, true, true, true, true], [ek 68 (.iinc 5 1) 3 1 5, e1 71 (.goto (-60)) 3 11], 74),
  (74, [true, true, false, true, true, false], [ec 74 (.iconst 0) 1 0, e1 75 (.istore 5) 2 5], 77),
  (77, [true, true, false, true, true, true], [e1 77 (.iload 5) 2 5, e1 79 (.aload_n 0) 1 0, e3 80 (.getfield 170) 3 22 22 0, e1 83 (.if_icmp .ge 52) 3 135, e1 86 (.iload 4) 2 4, ec 88 (.iconst 2) 1 2, e1 89 (.if_icmp .ge 46) 3 135, e1 92 (.aload_n 0) 1 0, e3 93 (.getfield 66) 3 22 23 2, e1 96 (.iload 5) 2 5, e0 98 (.iaload) 1, ec 99 (.bipush 6) 2 6, e1 101 (.if_icmp .ne 28) 3 129, e1 104 (.aload_n 0) 1 0, e3 105 (.getfield 69) 3 22 24 2, e1 108 (.iload 5) 2 5, e0 110 (.iaload) 1, e1 111 (.iload_n 1) 1 1, e1 112 (.if_icmp .ne 17) 3 129, e1 115 (.aload_n 0) 1 0, e3 116 (.getfield 75) 3 22 26 2, e1 119 (.iload 5) 2 5, e0 121 (.iaload) 1, e1 122 (.iload_n 3) 1 3, e1 123 (.if_icmp .ne 6) 3 129, e1 126 (.iload 5) 2 5, e1 128 (.ireturn) 1 0], 129),
  (129, [true, true, false, true, true, true], [ek 129 (.iinc 5 1) 3 1 5, e1 132 (.goto (-55)) 3 77], 135),
  (135, [false, false, false, false, false, false], [ec 135 (.bipush (-9)) 2 (-9), e1 137 (.ireturn) 1 0], 138)]
set_option maxRecDepth 100000 in
def K_X12_relation : List XB := [(0, [true, true], [e1 0 (.iload_n 1) 1 1, e0 1 (.i2l) 1, ec 2 (.lconst 0) 1 0, ec 3 (.ldc2_w 357) 3 5, ei 6 (.invokestatic 191) 3 0 189 3 0, e1 9 (.ifCond .ne 6) 3 15, ec 12 (.bipush (-2)) 2 (-2), e1 14 (.ireturn) 1 0], 15),
  (15, [true, true], [e1 15 (.aload_n 0) 1 0, e3 16 (.getfield 173) 3 22 29 0, ec 19 (.bipush 8) 2 8, e1 21 (.if_icmp .ne 6) 3 27, ec 24 (.bipush (-4)) 2 (-4), e1 26 (.ireturn) 1 0], 27),
  (27, [true, true], [e1 27 (.aload_n 0) 1 0, e3 28 (.getfield 81) 3 22 30 2, e1 31 (.aload_n 0) 1 0, e3 32 (.getfield 173) 3 22 29 0, e1 35 (.iload_n 1) 1 1, e0 36 (.iastore) 1, e1 37 (.aload_n 0) 1 0, e0 38 (.dup) 1, e3 39 (.getfield 173) 3 22 29 0, ec 42 (.iconst 1) 1 1, e0 43 (.iadd) 1, e3 44 (.putfield 173) 3 22 29 0, e1 47 (.aload_n 0) 1 0, e3 48 (.getfield 173) 3 22 29 0, ec 51 (.iconst 1) 1 1, e0 52 (.isub) 1, e1 53 (.ireturn) 1 0], 54)]
set_option maxRecDepth 100000 in
def K_X12_isCouple : List XB := [(0, [true, true, true, true], [e1 0 (.aload_n 0) 1 0, e1 1 (.iload_n 1) 1 1, ei 2 (.invokevirtual 359) 3 22 251 2 0, e1 5 (.ifCond .eq 25) 3 30, e1 8 (.aload_n 0) 1 0, e1 9 (.iload_n 2) 1 2, e0 10 (.i2l) 1, ei 11 (.invokevirtual 262) 3 22 203 2 0, e1 14 (.ifCond .eq 16) 3 30, e1 17 (.aload_n 0) 1 0, e1 18 (.iload_n 3) 1 3, e0 19 (.i2l) 1, ei 20 (.invokevirtual 262) 3 22 203 2 0, e1 23 (.ifCond .eq 7) 3 30, ec 26 (.iconst 1) 1 1, e1 27 (.goto 4) 3 31], 30),
  (30, [false, false, false, false], [ec 30 (.iconst 0) 1 0], 31),
  (31, [false, false, false, false], [e1 31 (.ireturn) 1 1], 32)]
set_option maxRecDepth 100000 in
def K_X12_relate : List XB := [(0, [true, true, true, true, false], [e1 0 (.aload_n 0) 1 0, e1 1 (.iload_n 1) 1 1, e1 2 (.iload_n 2) 1 2, e1 3 (.iload_n 3) 1 3, ei 4 (.invokevirtual 362) 3 22 260 4 0, e1 7 (.ifCond .ne 5) 3 12, ec 10 (.iconst (-1)) 1 (-1), e1 11 (.ireturn) 1 0], 12),
  (12, [true, true, true, true, false], [e1 12 (.iload_n 2) 1 2, e1 13 (.iload_n 3) 1 3, e1 14 (.if_icmp .eq 13) 3 27, e1 17 (.aload_n 0) 1 0, e1 18 (.iload_n 1) 1 1, e1 19 (.iload_n 2) 1 2, e1 20 (.iload_n 3) 1 3, ei 21 (.invokevirtual 366) 3 22 256 4 0, e1 24 (.ifCond .eq 6) 3 30], 27),
  (27, [false, false, false, false, false], [ec 27 (.bipush (-3)) 2 (-3), e1 29 (.ireturn) 1 0], 30),
  (30, [true, true, true, true, false], [e1 30 (.aload_n 0) 1 0, e3 31 (.getfield 170) 3 22 22 0, ec 34 (.sipush 300) 3 300, e1 37 (.if_icmp .ne 6) 3 43, ec 40 (.bipush (-4)) 2 (-4), e1 42 (.ireturn) 1 0], 43),
  (43, [true, true, true, true, false], [e1 43 (.aload_n 0) 1 0, e1 44 (.iload_n 1) 1 1, e1 45 (.iload_n 2) 1 2, e1 46 (.iload_n 3) 1 3, ei 47 (.invokevirtual 369) 3 22 257 4 0, e1 50 (.istore 4) 2 4, e1 52 (.iload 4) 2 4, ec 54 (.bipush (-9)) 2 (-9), e1 56 (.if_icmp .ne 13) 3 69, e1 59 (.aload_n 0) 1 0, e1 60 (.iload_n 1) 1 1, e1 61 (.iload_n 2) 1 2, e1 62 (.iload_n 3) 1 3, ei 63 (.invokevirtual 372) 3 22 258 4 0, e1 66 (.goto 5) 3 71], 69),
  (69, [true, true, true, true, true], [e1 69 (.iload 4) 2 4], 71),
  (71, [true, true, true, true, false], [e1 71 (.istore 4) 2 4, e1 73 (.iload 4) 2 4, ec 75 (.bipush (-9)) 2 (-9), e1 77 (.if_icmp .eq 11) 3 88, e1 80 (.iload 4) 2 4, ei 82 (.invokestatic 281) 3 0 211 1 0, e1 85 (.goto 12) 3 97], 88),
  (88, [true, true, true, true, false], [e1 88 (.aload_n 0) 1 0, ec 89 (.bipush 6) 2 6, e1 91 (.iload_n 1) 1 1, e1 92 (.iload_n 2) 1 2, e1 93 (.iload_n 3) 1 3, ei 94 (.invokevirtual 258) 3 22 210 5 0], 97),
  (97, [false, false, false, false, false], [e1 97 (.ireturn) 1 0], 98)]
set_option maxRecDepth 100000 in
def K_X12_deny : List XB := [(0, [true, true, true, true, false], [e1 0 (.aload_n 0) 1 0, e1 1 (.iload_n 1) 1 1, e1 2 (.iload_n 2) 1 2, e1 3 (.iload_n 3) 1 3, ei 4 (.invokevirtual 362) 3 22 260 4 0, e1 7 (.ifCond .ne 5) 3 12, ec 10 (.iconst (-1)) 1 (-1), e1 11 (.ireturn) 1 0], 12),
  (12, [true, true, true, true, false], [e1 12 (.iload_n 2) 1 2, e1 13 (.iload_n 3) 1 3, e1 14 (.if_icmp .eq 17) 3 31, e1 17 (.aload_n 0) 1 0, ec 18 (.bipush 7) 2 7, e1 20 (.iload_n 1) 1 1, e1 21 (.iload_n 2) 1 2, e1 22 (.iload_n 3) 1 3, ei 23 (.invokevirtual 348) 3 22 253 5 0, ec 26 (.bipush (-9)) 2 (-9), e1 28 (.if_icmp .eq 6) 3 34], 31),
  (31, [false, false, false, false, false], [ec 31 (.bipush (-3)) 2 (-3), e1 33 (.ireturn) 1 0], 34),
  (34, [true, true, true, true, false], [e1 34 (.aload_n 0) 1 0, e3 35 (.getfield 170) 3 22 22 0, ec 38 (.sipush 300) 3 300, e1 41 (.if_icmp .ne 6) 3 47, ec 44 (.bipush (-4)) 2 (-4), e1 46 (.ireturn) 1 0], 47),
  (47, [true, true, true, true, false], [e1 47 (.aload_n 0) 1 0, e1 48 (.iload_n 1) 1 1, e1 49 (.iload_n 2) 1 2, e1 50 (.iload_n 3) 1 3, ei 51 (.invokevirtual 354) 3 22 255 4 0, e1 54 (.istore 4) 2 4, e1 56 (.iload 4) 2 4, ec 58 (.bipush (-9)) 2 (-9), e1 60 (.if_icmp .eq 11) 3 71, e1 63 (.iload 4) 2 4, ei 65 (.invokestatic 281) 3 0 211 1 0, e1 68 (.goto 12) 3 80], 71),
  (71, [true, true, true, true, false], [e1 71 (.aload_n 0) 1 0, ec 72 (.bipush 7) 2 7, e1 74 (.iload_n 1) 1 1, e1 75 (.iload_n 2) 1 2, e1 76 (.iload_n 3) 1 3, ei 77 (.invokevirtual 258) 3 22 210 5 0], 80),
  (80, [false, false, false, false, false], [e1 80 (.ireturn) 1 0], 81)]
set_option maxRecDepth 100000 in
def K_X12_related : List XB := [(0, [true, true, true, true], [e1 0 (.aload_n 0) 1 0, e1 1 (.iload_n 1) 1 1, e1 2 (.iload_n 2) 1 2, e1 3 (.iload_n 3) 1 3, ei 4 (.invokevirtual 362) 3 22 260 4 0, e1 7 (.ifCond .ne 7) 3 14, ec 10 (.iconst (-1)) 1 (-1), e1 11 (.goto 18) 3 29], 14),
  (14, [true, true, true, true], [e1 14 (.aload_n 0) 1 0, e1 15 (.iload_n 1) 1 1, e1 16 (.iload_n 2) 1 2, e1 17 (.iload_n 3) 1 3, ei 18 (.invokevirtual 366) 3 22 256 4 0, e1 21 (.ifCond .eq 7) 3 28, ec 24 (.iconst 1) 1 1, e1 25 (.goto 4) 3 29], 28),
  (28, [false, false, false, false], [ec 28 (.iconst 0) 1 0], 29),
  (29, [false, false, false, false], [e1 29 (.ireturn) 1 0], 30)]
set_option maxRecDepth 100000 in
def K_X12_couples : List XB := [(0, [true, true, false, false], [e1 0 (.aload_n 0) 1 0, e3 1 (.getfield 81) 3 22 30 2, e1 4 (.iload_n 1) 1 1, e0 5 (.iaload) 1, ec 6 (.iconst 5) 1 5, e1 7 (.if_icmp .ne 12) 3 19, e1 10 (.aload_n 0) 1 0, e1 11 (.iload_n 1) 1 1, e1 12 (.aload_n 0) 1 0, e3 13 (.getfield 170) 3 22 22 0, ei 16 (.invokevirtual 344) 3 22 252 3 3], 19),
  (19, [true, true, false, false], [ec 19 (.iconst 0) 1 0, e1 20 (.istore_n 2) 1 2], 21),
  (21, [true, true, true, false], [e1 21 (.iload_n 2) 1 2, e1 22 (.aload_n 0) 1 0, e3 23 (.getfield 167) 3 22 9 0, e1 26 (.if_icmp .ge 71) 3 97, ec 29 (.iconst 0) 1 0, e1 30 (.istore_n 3) 1 3], 31),
  (31, [true, true, true, true], [e1 31 (.iload_n 3) 1 3, e1 32 (.aload_n 0) 1 0, e3 33 (.getfield 167) 3 22 9 0, e1 36 (.if_icmp .ge 55) 3 91, e1 39 (.aload_n 0) 1 0, e3 40 (.getfield 93) 3 22 34 2, ec 43 (.bipush 64) 2 64, e1 45 (.iload_n 2) 1 2, e0 46 (.imul) 1, e1 47 (.iload_n 3) 1 3, e0 48 (.iadd) 1, e1 49 (.aload_n 0) 1 0, e3 50 (.getfield 81) 3 22 30 2, e1 53 (.iload_n 1) 1 1, e0 54 (.iaload) 1, ec 55 (.iconst 5) 1 5, e1 56 (.if_icmp .ne 27) 3 83, e1 59 (.iload_n 2) 1 2, e1 60 (.iload_n 3) 1 3, e1 61 (.if_icmp .eq 22) 3 83, e1 64 (.aload_n 0) 1 0, e3 65 (.getfield 84) 3 22 31 2, e1 68 (.iload_n 2) 1 2, e0 69 (.iaload) 1, e1 70 (.aload_n 0) 1 0, e3 71 (.getfield 84) 3 22 31 2, e1 74 (.iload_n 3) 1 3, e0 75 (.iaload) 1, e1 76 (.if_icmp .ne 7) 3 83, ec 79 (.iconst 1) 1 1, e1 80 (.goto 4) 3 84], 83),
  (83, [true, true, true, true], [ec 83 (.iconst 0) 1 0], 84),
  (84, [true, true, true, true], [e0 84 (.bastore) 1, ek 85 (.iinc 3 1) 3 1 3, e1 88 (.goto (-57)) 3 31], 91),
  (91, [true, true, true, false], [ek 91 (.iinc 2 1) 3 1 2, e1 94 (.goto (-73)) 3 21], 97),
  (97, [true, true, false, false], [ec 97 (.iconst 0) 1 0, e1 98 (.istore_n 2) 1 2], 99),
  (99, [true, true, true, false], [e1 99 (.iload_n 2) 1 2, e1 100 (.aload_n 0) 1 0, e3 101 (.getfield 170) 3 22 22 0, e1 104 (.if_icmp .ge 101) 3 205, e1 107 (.aload_n 0) 1 0, e3 108 (.getfield 81) 3 22 30 2, e1 111 (.iload_n 1) 1 1, e0 112 (.iaload) 1, ec 113 (.iconst 5) 1 5, e1 114 (.if_icmp .eq 91) 3 205, e1 117 (.aload_n 0) 1 0, e3 118 (.getfield 66) 3 22 23 2, e1 121 (.iload_n 2) 1 2, e0 122 (.iaload) 1, ec 123 (.bipush 6) 2 6, e1 125 (.if_icmp .ne 74) 3 199, e1 128 (.aload_n 0) 1 0, e3 129 (.getfield 69) 3 22 24 2, e1 132 (.iload_n 2) 1 2, e0 133 (.iaload) 1, e1 134 (.iload_n 1) 1 1, e1 135 (.if_icmp .ne 64) 3 199, e1 138 (.aload_n 0) 1 0, e3 139 (.getfield 93) 3 22 34 2, ec 142 (.bipush 64) 2 64, e1 144 (.aload_n 0) 1 0, e3 145 (.getfield 72) 3 22 25 2, e1 148 (.iload_n 2) 1 2, e0 149 (.iaload) 1, e0 150 (.imul) 1, e1 151 (.aload_n 0) 1 0, e3 152 (.getfield 75) 3 22 26 2, e1 155 (.iload_n 2) 1 2, e0 156 (.iaload) 1, e0 157 (.iadd) 1, ec 158 (.iconst 1) 1 1, e0 159 (.bastore) 1, e1 160 (.aload_n 0) 1 0, e3 161 (.getfield 93) 3 22 34 2, ec 164 (.bipush 64) 2 64, e1 166 (.aload_n 0) 1 0, e3 167 (.getfield 75) 3 22 26 2, e1 170 (.iload_n 2) 1 2, e0 171 (.iaload) 1, e0 172 (.imul) 1, e1 173 (.aload_n 0) 1 0, e3 174 (.getfield 72) 3 22 25 2, e1 177 (.iload_n 2) 1 2, e0 178 (.iaload) 1, e0 179 (.iadd) 1, e0 180 (.dup2) 1, e0 181 (.baload) 1, e1 182 (.aload_n 0) 1 0, e3 183 (.getfield 81) 3 22 30 2, e1 186 (.iload_n 1) 1 1, e0 187 (.iaload) 1, ec 188 (.iconst 4) 1 4, e1 189 (.if_icmp .ne 7) 3 196, ec 192 (.iconst 1) 1 1, e1 193 (.goto 4) 3 197], 196),
  (196, [true, true, true, false], [ec 196 (.iconst 0) 1 0], 197),
  (197, [true, true, true, false], [e0 197 (.ior) 1, e0 198 (.bastore) 1], 199),
  (199, [true, true, true, false], [ek 199 (.iinc 2 1) 3 1 2, e1 202 (.goto (-103)) 3 99], 205),
  (205, [false, false, false, false], [e0 205 (.return_) 1], 206)]
set_option maxRecDepth 100000 in
def K_X12_goBack : List XB := [(0, [true, true, false, false, false], [ec 0 (.iconst 0) 1 0, e1 1 (.istore_n 2) 1 2], 2),
  (2, [true, true, true, false, false], [e1 2 (.iload_n 2) 1 2, e1 3 (.aload_n 0) 1 0, e3 4 (.getfield 167) 3 22 9 0, e1 7 (.if_icmp .ge 17) 3 24, e1 10 (.aload_n 0) 1 0, e3 11 (.getfield 87) 3 22 32 2, e1 14 (.iload_n 2) 1 2, ec 15 (.bipush (-9)) 2 (-9), e0 17 (.iastore) 1, ek 18 (.iinc 2 1) 3 1 2, e1 21 (.goto (-19)) 3 2], 24),
  (24, [true, true, false, false, false], [e1 24 (.aload_n 0) 1 0, e3 25 (.getfield 87) 3 22 32 2, e1 28 (.iload_n 1) 1 1, ec 29 (.iconst 0) 1 0, e0 30 (.iastore) 1, e1 31 (.aload_n 0) 1 0, e3 32 (.getfield 90) 3 22 33 2, ec 35 (.iconst 0) 1 0, e1 36 (.iload_n 1) 1 1, e0 37 (.iastore) 1, ec 38 (.iconst 1) 1 1, e1 39 (.istore_n 2) 1 2, ec 40 (.iconst 0) 1 0, e1 41 (.istore_n 3) 1 3], 42),
  (42, [true, false, true, true, false], [e1 42 (.iload_n 3) 1 3, e1 43 (.iload_n 2) 1 2, e1 44 (.if_icmp .ge 90) 3 134, ec 47 (.iconst 0) 1 0, e1 48 (.istore 4) 2 4], 50),
  (50, [true, false, true, true, true], [e1 50 (.iload 4) 2 4, e1 52 (.aload_n 0) 1 0, e3 53 (.getfield 167) 3 22 9 0, e1 56 (.if_icmp .ge 72) 3 128, e1 59 (.aload_n 0) 1 0, e3 60 (.getfield 87) 3 22 32 2, e1 63 (.iload 4) 2 4, e0 65 (.iaload) 1, ec 66 (.bipush (-9)) 2 (-9), e1 68 (.if_icmp .ne 54) 3 122, e1 71 (.aload_n 0) 1 0, e3 72 (.getfield 93) 3 22 34 2, ec 75 (.bipush 64) 2 64, e1 77 (.iload 4) 2 4, e0 79 (.imul) 1, e1 80 (.aload_n 0) 1 0, e3 81 (.getfield 90) 3 22 33 2, e1 84 (.iload_n 3) 1 3, e0 85 (.iaload) 1, e0 86 (.iadd) 1, e0 87 (.baload) 1, e1 88 (.ifCond .eq 34) 3 122, e1 91 (.aload_n 0) 1 0, e3 92 (.getfield 87) 3 22 32 2, e1 95 (.iload 4) 2 4, e1 97 (.aload_n 0) 1 0, e3 98 (.getfield 87) 3 22 32 2, e1 101 (.aload_n 0) 1 0, e3 102 (.getfield 90) 3 22 33 2, e1 105 (.iload_n 3) 1 3, e0 106 (.iaload) 1, e0 107 (.iaload) 1, ec 108 (.iconst 1) 1 1, e0 109 (.iadd) 1, e0 110 (.iastore) 1, e1 111 (.aload_n 0) 1 0, e3 112 (.getfield 90) 3 22 33 2, e1 115 (.iload_n 2) 1 2, e1 116 (.iload 4) 2 4, e0 118 (.iastore) 1, ek 119 (.iinc 2 1) 3 1 2], 122),
  (122, [true, false, true, true, true], [ek 122 (.iinc 4 1) 3 1 4, e1 125 (.goto (-75)) 3 50], 128),
  (128, [true, false, true, true, false], [ek 128 (.iinc 3 1) 3 1 3, e1 131 (.goto (-89)) 3 42], 134),
  (134, [false, false, false, false, false], [e0 134 (.return_) 1], 135)]
set_option maxRecDepth 100000 in
def K_X12_along : List XB := [(0, [true, true, true, true], [e1 0 (.aload_n 0) 1 0, e1 1 (.iload_n 1) 1 1, e1 2 (.iload_n 2) 1 2, e1 3 (.iload_n 3) 1 3, ei 4 (.invokevirtual 362) 3 22 260 4 0, e1 7 (.ifCond .ne 5) 3 12, ec 10 (.iconst (-1)) 1 (-1), e1 11 (.ireturn) 1 0], 12),
  (12, [true, true, true, true], [e1 12 (.aload_n 0) 1 0, e1 13 (.iload_n 1) 1 1, ei 14 (.invokevirtual 375) 3 22 264 2 3, e1 17 (.aload_n 0) 1 0, e1 18 (.iload_n 3) 1 3, ei 19 (.invokevirtual 379) 3 22 265 2 3, e1 22 (.aload_n 0) 1 0, e3 23 (.getfield 87) 3 22 32 2, e1 26 (.iload_n 2) 1 2, e0 27 (.iaload) 1, e1 28 (.ireturn) 1 0], 29)]
set_option maxRecDepth 100000 in
def K_X12_next : List XB := [(0, [true, true, true, true, false], [e1 0 (.aload_n 0) 1 0, e1 1 (.iload_n 1) 1 1, e1 2 (.iload_n 2) 1 2, e1 3 (.iload_n 3) 1 3, ei 4 (.invokevirtual 362) 3 22 260 4 0, e1 7 (.ifCond .ne 5) 3 12, ec 10 (.iconst (-1)) 1 (-1), e1 11 (.ireturn) 1 0], 12),
  (12, [true, true, true, true, false], [e1 12 (.aload_n 0) 1 0, e1 13 (.iload_n 1) 1 1, ei 14 (.invokevirtual 375) 3 22 264 2 3, e1 17 (.aload_n 0) 1 0, e1 18 (.iload_n 3) 1 3, ei 19 (.invokevirtual 379) 3 22 265 2 3, e1 22 (.iload_n 2) 1 2, e1 23 (.iload_n 3) 1 3, e1 24 (.if_icmp .eq 14) 3 38, e1 27 (.aload_n 0) 1 0, e3 28 (.getfield 87) 3 22 32 2, e1 31 (.iload_n 2) 1 2, e0 32 (.iaload) 1, ec 33 (.bipush (-9)) 2 (-9), e1 35 (.if_icmp .ne 6) 3 41], 38),
  (38, [false, false, false, false, false], [ec 38 (.bipush (-9)) 2 (-9), e1 40 (.ireturn) 1 0], 41),
  (41, [true, false, true, false, false], [ec 41 (.iconst 0) 1 0, e1 42 (.istore 4) 2 4], 44),
  (44, [true, false, true, false, true], [e1 44 (.aload_n 0) 1 0, e3 45 (.getfield 93) 3 22 34 2, ec 48 (.bipush 64) 2 64, e1 50 (.iload_n 2) 1 2, e0 51 (.imul) 1, e1 52 (.iload 4) 2 4, e0 54 (.iadd) 1, e0 55 (.baload) 1, e1 56 (.ifCond .eq 21) 3 77, e1 59 (.aload_n 0) 1 0, e3 60 (.getfield 87) 3 22 32 2, e1 63 (.iload 4) 2 4, e0 65 (.iaload) 1, e1 66 (.aload_n 0) 1 0, e3 67 (.getfield 87) 3 22 32 2, e1 70 (.iload_n 2) 1 2, e0 71 (.iaload) 1, ec 72 (.iconst 1) 1 1, e0 73 (.isub) 1, e1 74 (.if_icmp .eq 9) 3 83], 77),
  (77, [true, false, true, false, true], [ek 77 (.iinc 4 1) 3 1 4, e1 80 (.goto (-36)) 3 44], 83),
  (83, [false, false, false, false, true], [e1 83 (.iload 4) 2 4, e1 85 (.ireturn) 1 0], 86)]
set_option maxRecDepth 100000 in
def K_X12_isRoom : List XB := [(0, [true, true], [e1 0 (.aload_n 0) 1 0, e1 1 (.iload_n 1) 1 1, e0 2 (.i2l) 1, ei 3 (.invokevirtual 262) 3 22 203 2 0, e1 6 (.ifCond .eq 16) 3 22, e1 9 (.aload_n 0) 1 0, e1 10 (.iload_n 1) 1 1, ei 11 (.invokevirtual 230) 3 22 204 2 0, ec 14 (.iconst 1) 1 1, e1 15 (.if_icmp .ne 7) 3 22, ec 18 (.iconst 1) 1 1, e1 19 (.goto 4) 3 23], 22),
  (22, [false, false], [ec 22 (.iconst 0) 1 0], 23),
  (23, [false, false], [e1 23 (.ireturn) 1 1], 24)]
set_option maxRecDepth 100000 in
def K_X12_lead : List XB := [(0, [true, true, true, true, true, true], [e1 0 (.aload_n 0) 1 0, e3 1 (.getfield 96) 3 22 35 2, e1 4 (.iload_n 1) 1 1, e1 5 (.iload_n 2) 1 2, e0 6 (.iastore) 1, e1 7 (.aload_n 0) 1 0, e3 8 (.getfield 99) 3 22 36 2, e1 11 (.iload_n 1) 1 1, e1 12 (.iload_n 3) 1 3, e0 13 (.iastore) 1, e1 14 (.aload_n 0) 1 0, e3 15 (.getfield 102) 3 22 37 2, e1 18 (.iload_n 1) 1 1, e1 19 (.iload 4) 2 4, e0 21 (.iastore) 1, e1 22 (.aload_n 0) 1 0, e3 23 (.getfield 105) 3 22 38 2, e1 26 (.iload_n 1) 1 1, e1 27 (.iload 5) 2 5, e0 29 (.iastore) 1, e0 30 (.return_) 1], 31)]
set_option maxRecDepth 100000 in
def K_X12_exit : List XB := [(0, [true, true, true, true, false, false, false], [e1 0 (.aload_n 0) 1 0, e1 1 (.iload_n 1) 1 1, ei 2 (.invokevirtual 382) 3 22 268 2 0, e1 5 (.ifCond .eq 17) 3 22, e1 8 (.iload_n 3) 1 3, ec 9 (.bipush (-9)) 2 (-9), e1 11 (.if_icmp .eq 13) 3 24, e1 14 (.aload_n 0) 1 0, e1 15 (.iload_n 3) 1 3, ei 16 (.invokevirtual 382) 3 22 268 2 0, e1 19 (.ifCond .ne 5) 3 24], 22),
  (22, [false, false, false, false, false, false, false], [ec 22 (.iconst (-1)) 1 (-1), e1 23 (.ireturn) 1 0], 24),
  (24, [true, true, true, true, false, false, false], [e1 24 (.iload_n 2) 1 2, e0 25 (.i2l) 1, ec 26 (.lconst 0) 1 0, ec 27 (.ldc2_w 385) 3 7, ei 30 (.invokestatic 191) 3 0 189 3 0, e1 33 (.ifCond .ne 6) 3 39, ec 36 (.bipush (-2)) 2 (-2), e1 38 (.ireturn) 1 0], 39),
  (39, [true, true, true, true, false, false, false], [ec 39 (.bipush 8) 2 8, e1 41 (.iload_n 1) 1 1, e0 42 (.imul) 1, e1 43 (.iload_n 2) 1 2, e0 44 (.iadd) 1, e1 45 (.istore 4) 2 4, e1 47 (.aload_n 0) 1 0, e3 48 (.getfield 96) 3 22 35 2, e1 51 (.iload 4) 2 4, e0 53 (.iaload) 1, ec 54 (.iconst 2) 1 2, e1 55 (.if_icmp .eq 14) 3 69, e1 58 (.aload_n 0) 1 0, e3 59 (.getfield 96) 3 22 35 2, e1 62 (.iload 4) 2 4, e0 64 (.iaload) 1, ec 65 (.iconst 4) 1 4, e1 66 (.if_icmp .ne 17) 3 83], 69),
  (69, [true, true, true, true, true, false, false], [e1 69 (.aload_n 0) 1 0, e3 70 (.getfield 99) 3 22 36 2, e1 73 (.iload 4) 2 4, e0 75 (.iaload) 1, e1 76 (.iload_n 3) 1 3, e1 77 (.if_icmp .ne 6) 3 83, ec 80 (.bipush (-3)) 2 (-3), e1 82 (.ireturn) 1 0], 83),
  (83, [true, true, true, true, true, false, false], [e1 83 (.aload_n 0) 1 0, e3 84 (.getfield 170) 3 22 22 0, ec 87 (.sipush 300) 3 300, e1 90 (.if_icmp .ne 6) 3 96, ec 93 (.bipush (-4)) 2 (-4), e1 95 (.ireturn) 1 0], 96),
  (96, [true, true, true, true, true, false, false], [e1 96 (.aload_n 0) 1 0, e3 97 (.getfield 96) 3 22 35 2, e1 100 (.iload 4) 2 4, e0 102 (.iaload) 1, ec 103 (.iconst 1) 1 1, e1 104 (.if_icmp .le 14) 3 118, e1 107 (.aload_n 0) 1 0, e3 108 (.getfield 102) 3 22 37 2, e1 111 (.iload 4) 2 4, e0 113 (.iaload) 1, ei 114 (.invokestatic 281) 3 0 211 1 0, e1 117 (.ireturn) 1 0], 118),
  (118, [true, true, true, true, true, false, false], [e1 118 (.aload_n 0) 1 0, ec 119 (.bipush 8) 2 8, e1 121 (.iload_n 1) 1 1, e1 122 (.iload_n 2) 1 2, e1 123 (.iload_n 3) 1 3, ei 124 (.invokevirtual 258) 3 22 210 5 0, e1 127 (.istore 5) 2 5, e1 129 (.aload_n 0) 1 0, e1 130 (.iload 4) 2 4, e1 132 (.iload_n 3) 1 3, ec 133 (.bipush (-9)) 2 (-9), e1 135 (.if_icmp .ne 7) 3 142, ec 138 (.iconst 4) 1 4, e1 139 (.goto 4) 3 143], 142),
  (142, [true, true, true, true, false, true, false], [ec 142 (.iconst 2) 1 2], 143),
  (143, [true, true, true, true, false, true, false], [e1 143 (.iload_n 3) 1 3, e1 144 (.iload 5) 2 5, ec 146 (.bipush (-9)) 2 (-9), ei 148 (.invokevirtual 387) 3 22 269 6 3, ec 151 (.bipush 8) 2 8, e1 153 (.iload_n 3) 1 3, e0 154 (.imul) 1, e1 155 (.iload_n 2) 1 2, ec 156 (.iconst 1) 1 1, e0 157 (.ixor) 1, e0 158 (.iadd) 1, e1 159 (.istore 6) 2 6, e1 161 (.iload_n 3) 1 3, ec 162 (.bipush (-9)) 2 (-9), e1 164 (.if_icmp .eq 25) 3 189, e1 167 (.aload_n 0) 1 0, e3 168 (.getfield 96) 3 22 35 2, e1 171 (.iload 6) 2 6, e0 173 (.iaload) 1, e1 174 (.ifCond .ne 15) 3 189, e1 177 (.aload_n 0) 1 0, e1 178 (.iload 6) 2 6, ec 180 (.iconst 1) 1 1, e1 181 (.iload_n 1) 1 1, ec 182 (.bipush (-9)) 2 (-9), ec 184 (.bipush (-9)) 2 (-9), ei 186 (.invokevirtual 387) 3 22 269 6 3], 189),
  (189, [false, false, false, false, false, true, false], [e1 189 (.iload 5) 2 5, e1 191 (.ireturn) 1 0], 192)]
set_option maxRecDepth 100000 in
def K_X12_door : List XB := [(0, [true, true, true, true, true, false, false, false], [e1 0 (.aload_n 0) 1 0, e1 1 (.iload_n 1) 1 1, e0 2 (.i2l) 1, ei 3 (.invokevirtual 262) 3 22 203 2 0, e1 6 (.ifCond .eq 20) 3 26, e1 9 (.aload_n 0) 1 0, e1 10 (.iload_n 2) 1 2, ei 11 (.invokevirtual 382) 3 22 268 2 0, e1 14 (.ifCond .eq 12) 3 26, e1 17 (.aload_n 0) 1 0, e1 18 (.iload 4) 2 4, ei 20 (.invokevirtual 382) 3 22 268 2 0, e1 23 (.ifCond .ne 5) 3 28], 26),
  (26, [false, false, false, false, false, false, false, false], [ec 26 (.iconst (-1)) 1 (-1), e1 27 (.ireturn) 1 0], 28),
  (28, [true, true, true, true, true, false, false, false], [e1 28 (.iload_n 3) 1 3, e0 29 (.i2l) 1, ec 30 (.lconst 0) 1 0, ec 31 (.ldc2_w 385) 3 7, ei 34 (.invokestatic 191) 3 0 189 3 0, e1 37 (.ifCond .ne 6) 3 43, ec 40 (.bipush (-2)) 2 (-2), e1 42 (.ireturn) 1 0], 43),
  (43, [true, true, true, true, true, false, false, false], [e1 43 (.aload_n 0) 1 0, e1 44 (.iload_n 1) 1 1, ei 45 (.invokevirtual 230) 3 22 204 2 0, ec 48 (.iconst 2) 1 2, e1 49 (.if_icmp .ne 9) 3 58, e1 52 (.iload_n 2) 1 2, e1 53 (.iload 4) 2 4, e1 55 (.if_icmp .ne 6) 3 61], 58),
  (58, [false, false, false, false, false, false, false, false], [ec 58 (.bipush (-3)) 2 (-3), e1 60 (.ireturn) 1 0], 61),
  (61, [true, true, true, true, true, false, false, false], [e1 61 (.aload_n 0) 1 0, e3 62 (.getfield 170) 3 22 22 0, ec 65 (.sipush 300) 3 300, e1 68 (.if_icmp .ne 6) 3 74, ec 71 (.bipush (-4)) 2 (-4), e1 73 (.ireturn) 1 0], 74),
  (74, [true, true, true, true, true, false, false, false], [ec 74 (.iconst 0) 1 0, e1 75 (.istore 5) 2 5], 77),
  (77, [true, true, true, true, true, true, false, false], [e1 77 (.iload 5) 2 5, e1 79 (.aload_n 0) 1 0, e3 80 (.getfield 170) 3 22 22 0, e1 83 (.if_icmp .ge 38) 3 121, e1 86 (.aload_n 0) 1 0, e3 87 (.getfield 66) 3 22 23 2, e1 90 (.iload 5) 2 5, e0 92 (.iaload) 1, ec 93 (.bipush 9) 2 9, e1 95 (.if_icmp .ne 20) 3 115, e1 98 (.aload_n 0) 1 0, e3 99 (.getfield 69) 3 22 24 2, e1 102 (.iload 5) 2 5, e0 104 (.iaload) 1, e1 105 (.iload_n 1) 1 1, e1 106 (.if_icmp .ne 9) 3 115, e1 109 (.iload 5) 2 5, ei 111 (.invokestatic 281) 3 0 211 1 0, e1 114 (.ireturn) 1 0], 115),
  (115, [true, true, true, true, true, true, false, false], [ek 115 (.iinc 5 1) 3 1 5, e1 118 (.goto (-41)) 3 77], 121),
  (121, [true, true, true, true, true, false, false, false], [ec 121 (.bipush 8) 2 8, e1 123 (.iload_n 2) 1 2, e0 124 (.imul) 1, e1 125 (.iload_n 3) 1 3, e0 126 (.iadd) 1, e1 127 (.istore 5) 2 5, ec 129 (.bipush 8) 2 8, e1 131 (.iload 4) 2 4, e0 133 (.imul) 1, e1 134 (.iload_n 3) 1 3, ec 135 (.iconst 1) 1 1, e0 136 (.ixor) 1, e0 137 (.iadd) 1, e1 138 (.istore 6) 2 6, e1 140 (.aload_n 0) 1 0, e3 141 (.getfield 96) 3 22 35 2, e1 144 (.iload 5) 2 5, e0 146 (.iaload) 1, ec 147 (.iconst 1) 1 1, e1 148 (.if_icmp .le 14) 3 162, e1 151 (.aload_n 0) 1 0, e3 152 (.getfield 102) 3 22 37 2, e1 155 (.iload 5) 2 5, e0 157 (.iaload) 1, ei 158 (.invokestatic 281) 3 0 211 1 0, e1 161 (.ireturn) 1 0], 162),
  (162, [true, true, true, true, true, true, true, false], [e1 162 (.aload_n 0) 1 0, e3 163 (.getfield 96) 3 22 35 2, e1 166 (.iload 6) 2 6, e0 168 (.iaload) 1, ec 169 (.iconst 1) 1 1, e1 170 (.if_icmp .le 14) 3 184, e1 173 (.aload_n 0) 1 0, e3 174 (.getfield 102) 3 22 37 2, e1 177 (.iload 6) 2 6, e0 179 (.iaload) 1, ei 180 (.invokestatic 281) 3 0 211 1 0, e1 183 (.ireturn) 1 0], 184),
  (184, [true, true, true, true, true, true, true, false], [e1 184 (.aload_n 0) 1 0, ec 185 (.bipush 9) 2 9, e1 187 (.iload_n 1) 1 1, e1 188 (.iload_n 2) 1 2, e1 189 (.iload_n 3) 1 3, ei 190 (.invokevirtual 258) 3 22 210 5 0, e1 193 (.istore 7) 2 7, e1 195 (.aload_n 0) 1 0, e1 196 (.iload 5) 2 5, ec 198 (.iconst 3) 1 3, e1 199 (.iload 4) 2 4, e1 201 (.iload 7) 2 7, e1 203 (.iload_n 1) 1 1, ei 204 (.invokevirtual 387) 3 22 269 6 3, e1 207 (.aload_n 0) 1 0, e1 208 (.iload 6) 2 6, ec 210 (.iconst 3) 1 3, e1 211 (.iload_n 2) 1 2, e1 212 (.iload 7) 2 7, e1 214 (.iload_n 1) 1 1, ei 215 (.invokevirtual 387) 3 22 269 6 3, e1 218 (.iload 7) 2 7, e1 220 (.ireturn) 1 0], 221)]
set_option maxRecDepth 100000 in
def K_X12_leads : List XB := [(0, [true, true, true], [e1 0 (.aload_n 0) 1 0, e1 1 (.iload_n 1) 1 1, ei 2 (.invokevirtual 382) 3 22 268 2 0, e1 5 (.ifCond .ne 7) 3 12, ec 8 (.iconst (-1)) 1 (-1), e1 9 (.goto 50) 3 59], 12),
  (12, [true, true, true], [e1 12 (.iload_n 2) 1 2, e0 13 (.i2l) 1, ec 14 (.lconst 0) 1 0, ec 15 (.ldc2_w 385) 3 7, ei 18 (.invokestatic 191) 3 0 189 3 0, e1 21 (.ifCond .ne 8) 3 29, ec 24 (.bipush (-2)) 2 (-2), e1 26 (.goto 33) 3 59], 29),
  (29, [true, true, true], [e1 29 (.aload_n 0) 1 0, e3 30 (.getfield 96) 3 22 35 2, ec 33 (.bipush 8) 2 8, e1 35 (.iload_n 1) 1 1, e0 36 (.imul) 1, e1 37 (.iload_n 2) 1 2, e0 38 (.iadd) 1, e0 39 (.iaload) 1, e1 40 (.ifCond .ne 8) 3 48, ec 43 (.bipush (-9)) 2 (-9), e1 45 (.goto 14) 3 59], 48),
  (48, [true, true, true], [e1 48 (.aload_n 0) 1 0, e3 49 (.getfield 99) 3 22 36 2, ec 52 (.bipush 8) 2 8, e1 54 (.iload_n 1) 1 1, e0 55 (.imul) 1, e1 56 (.iload_n 2) 1 2, e0 57 (.iadd) 1, e0 58 (.iaload) 1], 59),
  (59, [false, false, false], [e1 59 (.ireturn) 1 0], 60)]
set_option maxRecDepth 100000 in
def K_X12_sort : List XB := [(0, [true, true, true], [e1 0 (.aload_n 0) 1 0, e1 1 (.iload_n 1) 1 1, ei 2 (.invokevirtual 382) 3 22 268 2 0, e1 5 (.ifCond .ne 7) 3 12, ec 8 (.iconst (-1)) 1 (-1), e1 9 (.goto 31) 3 40], 12),
  (12, [true, true, true], [e1 12 (.iload_n 2) 1 2, e0 13 (.i2l) 1, ec 14 (.lconst 0) 1 0, ec 15 (.ldc2_w 385) 3 7, ei 18 (.invokestatic 191) 3 0 189 3 0, e1 21 (.ifCond .ne 8) 3 29, ec 24 (.bipush (-2)) 2 (-2), e1 26 (.goto 14) 3 40], 29),
  (29, [true, true, true], [e1 29 (.aload_n 0) 1 0, e3 30 (.getfield 96) 3 22 35 2, ec 33 (.bipush 8) 2 8, e1 35 (.iload_n 1) 1 1, e0 36 (.imul) 1, e1 37 (.iload_n 2) 1 2, e0 38 (.iadd) 1, e0 39 (.iaload) 1], 40),
  (40, [false, false, false], [e1 40 (.ireturn) 1 0], 41)]
set_option maxRecDepth 100000 in
def K_X12_goes : List XB := [(0, [true, true, true], [e1 0 (.aload_n 0) 1 0, e3 1 (.getfield 96) 3 22 35 2, e1 4 (.iload_n 1) 1 1, e0 5 (.iaload) 1, e1 6 (.ifCond .le 46) 3 52, e1 9 (.aload_n 0) 1 0, e3 10 (.getfield 99) 3 22 36 2, e1 13 (.iload_n 1) 1 1, e0 14 (.iaload) 1, ec 15 (.bipush (-9)) 2 (-9), e1 17 (.if_icmp .eq 35) 3 52, e1 20 (.iload_n 2) 1 2, e1 21 (.ifCond .ne 27) 3 48, e1 24 (.aload_n 0) 1 0, e3 25 (.getfield 96) 3 22 35 2, e1 28 (.iload_n 1) 1 1, e0 29 (.iaload) 1, ec 30 (.iconst 3) 1 3, e1 31 (.if_icmp .ne 17) 3 48, e1 34 (.aload_n 0) 1 0, e3 35 (.getfield 42) 3 22 14 2, e1 38 (.aload_n 0) 1 0, e3 39 (.getfield 105) 3 22 38 2, e1 42 (.iload_n 1) 1 1, e0 43 (.iaload) 1, e0 44 (.baload) 1, e1 45 (.ifCond .eq 7) 3 52], 48),
  (48, [false, false, false], [ec 48 (.iconst 1) 1 1, e1 49 (.goto 4) 3 53], 52),
  (52, [false, false, false], [ec 52 (.iconst 0) 1 0], 53),
  (53, [false, false, false], [e1 53 (.ireturn) 1 1], 54)]
set_option maxRecDepth 100000 in
def K_X12_routeBack : List XB := [(0, [true, true, true, false, false, false, false, false], [ec 0 (.iconst 0) 1 0, e1 1 (.istore_n 3) 1 3], 2),
  (2, [true, true, true, true, false, false, false, false], [e1 2 (.iload_n 3) 1 3, e1 3 (.aload_n 0) 1 0, e3 4 (.getfield 167) 3 22 9 0, e1 7 (.if_icmp .ge 17) 3 24, e1 10 (.aload_n 0) 1 0, e3 11 (.getfield 87) 3 22 32 2, e1 14 (.iload_n 3) 1 3, ec 15 (.bipush (-9)) 2 (-9), e0 17 (.iastore) 1, ek 18 (.iinc 3 1) 3 1 3, e1 21 (.goto (-19)) 3 2], 24),
  (24, [true, true, true, false, false, false, false, false], [e1 24 (.aload_n 0) 1 0, e3 25 (.getfield 87) 3 22 32 2, e1 28 (.iload_n 1) 1 1, ec 29 (.iconst 0) 1 0, e0 30 (.iastore) 1, e1 31 (.aload_n 0) 1 0, e3 32 (.getfield 90) 3 22 33 2, ec 35 (.iconst 0) 1 0, e1 36 (.iload_n 1) 1 1, e0 37 (.iastore) 1, ec 38 (.iconst 1) 1 1, e1 39 (.istore_n 3) 1 3, ec 40 (.iconst 0) 1 0, e1 41 (.istore 4) 2 4], 43),
  (43, [true, false, true, true, true, false, false, false], [e1 43 (.iload 4) 2 4, e1 45 (.iload_n 3) 1 3, e1 46 (.if_icmp .ge 155) 3 201, ec 49 (.iconst 0) 1 0, e1 50 (.istore 5) 2 5], 52),
  (52, [true, false, true, true, true, true, false, false], [e1 52 (.iload 5) 2 5, e1 54 (.aload_n 0) 1 0, e3 55 (.getfield 167) 3 22 9 0, e1 58 (.if_icmp .ge 137) 3 195, ec 61 (.iconst 0) 1 0, e1 62 (.istore 6) 2 6, ec 64 (.iconst 0) 1 0, e1 65 (.istore 7) 2 7], 67),
  (67, [true, false, true, true, true, true, true, true], [e1 67 (.iload 7) 2 7, ec 69 (.bipush 8) 2 8, e1 71 (.if_icmp .ge 69) 3 140, e1 74 (.aload_n 0) 1 0, e1 75 (.iload 5) 2 5, ei 77 (.invokevirtual 382) 3 22 268 2 0, e1 80 (.ifCond .eq 60) 3 140, e1 83 (.iload 6) 2 6, e1 85 (.ifCond .ne 42) 3 127, e1 88 (.aload_n 0) 1 0, ec 89 (.bipush 8) 2 8, e1 91 (.iload 5) 2 5, e0 93 (.imul) 1, e1 94 (.iload 7) 2 7, e0 96 (.iadd) 1, e1 97 (.iload_n 2) 1 2, ei 98 (.invokevirtual 391) 3 22 274 3 0, e1 101 (.ifCond .eq 30) 3 131, e1 104 (.aload_n 0) 1 0, e3 105 (.getfield 99) 3 22 36 2, ec 108 (.bipush 8) 2 8, e1 110 (.iload 5) 2 5, e0 112 (.imul) 1, e1 113 (.iload 7) 2 7, e0 115 (.iadd) 1, e0 116 (.iaload) 1, e1 117 (.aload_n 0) 1 0, e3 118 (.getfield 90) 3 22 33 2, e1 121 (.iload 4) 2 4, e0 123 (.iaload) 1, e1 124 (.if_icmp .ne 7) 3 131], 127),
  (127, [true, false, true, true, true, true, false, true], [ec 127 (.iconst 1) 1 1, e1 128 (.goto 4) 3 132], 131),
  (131, [true, false, true, true, true, true, false, true], [ec 131 (.iconst 0) 1 0], 132),
  (132, [true, false, true, true, true, true, false, true], [e1 132 (.istore 6) 2 6, ek 134 (.iinc 7 1) 3 1 7, e1 137 (.goto (-70)) 3 67], 140),
  (140, [true, false, true, true, true, true, true, false], [e1 140 (.iload 6) 2 6, e1 142 (.ifCond .eq 47) 3 189, e1 145 (.aload_n 0) 1 0, e3 146 (.getfield 87) 3 22 32 2, e1 149 (.iload 5) 2 5, e0 151 (.iaload) 1, ec 152 (.bipush (-9)) 2 (-9), e1 154 (.if_icmp .ne 35) 3 189, e1 157 (.aload_n 0) 1 0, e3 158 (.getfield 87) 3 22 32 2, e1 161 (.iload 5) 2 5, e1 163 (.aload_n 0) 1 0, e3 164 (.getfield 87) 3 22 32 2, e1 167 (.aload_n 0) 1 0, e3 168 (.getfield 90) 3 22 33 2, e1 171 (.iload 4) 2 4, e0 173 (.iaload) 1, e0 174 (.iaload) 1, ec 175 (.iconst 1) 1 1, e0 176 (.iadd) 1, e0 177 (.iastore) 1, e1 178 (.aload_n 0) 1 0, e3 179 (.getfield 90) 3 22 33 2, e1 182 (.iload_n 3) 1 3, e1 183 (.iload 5) 2 5, e0 185 (.iastore) 1, ek 186 (.iinc 3 1) 3 1 3], 189),
  (189, [true, false, true, true, true, true, false, false], [ek 189 (.iinc 5 1) 3 1 5, e1 192 (.goto (-140)) 3 52], 195),
  (195, [true, false, true, true, true, false, false, false], [ek 195 (.iinc 4 1) 3 1 4, e1 198 (.goto (-155)) 3 43], 201),
  (201, [false, false, false, false, false, false, false, false], [e0 201 (.return_) 1], 202)]
set_option maxRecDepth 100000 in
def K_X12_route : List XB := [(0, [true, true, true, true], [e1 0 (.aload_n 0) 1 0, e1 1 (.iload_n 1) 1 1, ei 2 (.invokevirtual 382) 3 22 268 2 0, e1 5 (.ifCond .eq 11) 3 16, e1 8 (.aload_n 0) 1 0, e1 9 (.iload_n 2) 1 2, ei 10 (.invokevirtual 382) 3 22 268 2 0, e1 13 (.ifCond .ne 5) 3 18], 16),
  (16, [false, false, false, false], [ec 16 (.iconst (-1)) 1 (-1), e1 17 (.ireturn) 1 0], 18),
  (18, [true, true, true, true], [e1 18 (.aload_n 0) 1 0, e1 19 (.iload_n 2) 1 2, e1 20 (.iload_n 3) 1 3, ei 21 (.invokevirtual 395) 3 22 275 3 3, e1 24 (.aload_n 0) 1 0, e3 25 (.getfield 87) 3 22 32 2, e1 28 (.iload_n 1) 1 1, e0 29 (.iaload) 1, e1 30 (.ireturn) 1 0], 31)]
set_option maxRecDepth 100000 in
def K_X12_first_ : List XB := [(0, [true, true, true, true, false], [e1 0 (.aload_n 0) 1 0, e1 1 (.iload_n 1) 1 1, ei 2 (.invokevirtual 382) 3 22 268 2 0, e1 5 (.ifCond .eq 11) 3 16, e1 8 (.aload_n 0) 1 0, e1 9 (.iload_n 2) 1 2, ei 10 (.invokevirtual 382) 3 22 268 2 0, e1 13 (.ifCond .ne 5) 3 18], 16),
  (16, [false, false, false, false, false], [ec 16 (.iconst (-1)) 1 (-1), e1 17 (.ireturn) 1 0], 18),
  (18, [true, true, true, true, false], [e1 18 (.aload_n 0) 1 0, e1 19 (.iload_n 2) 1 2, e1 20 (.iload_n 3) 1 3, ei 21 (.invokevirtual 395) 3 22 275 3 3, e1 24 (.iload_n 1) 1 1, e1 25 (.iload_n 2) 1 2, e1 26 (.if_icmp .eq 14) 3 40, e1 29 (.aload_n 0) 1 0, e3 30 (.getfield 87) 3 22 32 2, e1 33 (.iload_n 1) 1 1, e0 34 (.iaload) 1, ec 35 (.bipush (-9)) 2 (-9), e1 37 (.if_icmp .ne 6) 3 43], 40),
  (40, [false, false, false, false, false], [ec 40 (.bipush (-9)) 2 (-9), e1 42 (.ireturn) 1 0], 43),
  (43, [true, true, false, true, false], [ec 43 (.iconst 0) 1 0, e1 44 (.istore 4) 2 4], 46),
  (46, [true, true, false, true, true], [e1 46 (.aload_n 0) 1 0, ec 47 (.bipush 8) 2 8, e1 49 (.iload_n 1) 1 1, e0 50 (.imul) 1, e1 51 (.iload 4) 2 4, e0 53 (.iadd) 1, e1 54 (.iload_n 3) 1 3, ei 55 (.invokevirtual 391) 3 22 274 3 0, e1 58 (.ifCond .eq 31) 3 89, e1 61 (.aload_n 0) 1 0, e3 62 (.getfield 87) 3 22 32 2, e1 65 (.aload_n 0) 1 0, e3 66 (.getfield 99) 3 22 36 2, ec 69 (.bipush 8) 2 8, e1 71 (.iload_n 1) 1 1, e0 72 (.imul) 1, e1 73 (.iload 4) 2 4, e0 75 (.iadd) 1, e0 76 (.iaload) 1, e0 77 (.iaload) 1, e1 78 (.aload_n 0) 1 0, e3 79 (.getfield 87) 3 22 32 2, e1 82 (.iload_n 1) 1 1, e0 83 (.iaload) 1, ec 84 (.iconst 1) 1 1, e0 85 (.isub) 1, e1 86 (.if_icmp .eq 9) 3 95], 89),
  (89, [true, true, false, true, true], [ek 89 (.iinc 4 1) 3 1 4, e1 92 (.goto (-46)) 3 46], 95),
  (95, [false, false, false, false, true], [e1 95 (.iload 4) 2 4, e1 97 (.ireturn) 1 0], 98)]
set_option maxRecDepth 100000 in
def K_X12_isShelf : List XB := [(0, [true, true], [e1 0 (.iload_n 1) 1 1, e0 1 (.i2l) 1, ec 2 (.lconst 0) 1 0, e1 3 (.aload_n 0) 1 0, e3 4 (.getfield 176) 3 22 39 0, ec 7 (.iconst 1) 1 1, e0 8 (.isub) 1, e0 9 (.i2l) 1, ei 10 (.invokestatic 191) 3 0 189 3 0, e1 13 (.ireturn) 1 1], 14)]
set_option maxRecDepth 100000 in
def K_X12_takes : List XB := [(0, [true, true, true], [e1 0 (.iload_n 2) 1 2, ec 1 (.bipush (-9)) 2 (-9), e1 3 (.if_icmp .eq 21) 3 24, e1 6 (.aload_n 0) 1 0, e1 7 (.aload_n 0) 1 0, e1 8 (.iload_n 2) 1 2, ei 9 (.invokevirtual 230) 3 22 204 2 0, e1 12 (.aload_n 0) 1 0, e3 13 (.getfield 108) 3 22 40 2, e1 16 (.iload_n 1) 1 1, e0 17 (.iaload) 1, ei 18 (.invokevirtual 199) 3 22 194 3 0, e1 21 (.ifCond .eq 7) 3 28], 24),
  (24, [false, false, false], [ec 24 (.iconst 1) 1 1, e1 25 (.goto 4) 3 29], 28),
  (28, [false, false, false], [ec 28 (.iconst 0) 1 0], 29),
  (29, [false, false, false], [e1 29 (.ireturn) 1 1], 30)]
set_option maxRecDepth 100000 in
def K_X12_shelf : List XB := [(0, [true, true, true, false], [e1 0 (.aload_n 0) 1 0, e1 1 (.iload_n 1) 1 1, ei 2 (.invokevirtual 195) 3 22 192 2 0, e1 5 (.ifCond .ne 5) 3 10, ec 8 (.iconst (-1)) 1 (-1), e1 9 (.ireturn) 1 0], 10),
  (10, [true, true, true, false], [e1 10 (.iload_n 2) 1 2, ec 11 (.bipush 16) 2 16, e1 13 (.if_icmp .le 6) 3 19, ec 16 (.bipush (-2)) 2 (-2), e1 18 (.ireturn) 1 0], 19),
  (19, [true, true, true, false], [e1 19 (.aload_n 0) 1 0, e3 20 (.getfield 176) 3 22 39 0, ec 23 (.bipush 10) 2 10, e1 25 (.if_icmp .ne 6) 3 31, ec 28 (.bipush (-4)) 2 (-4), e1 30 (.ireturn) 1 0], 31),
  (31, [true, true, true, false], [e1 31 (.iload_n 2) 1 2, e1 32 (.ifCond .ge 10) 3 42, e1 35 (.aload_n 0) 1 0, ec 36 (.bipush (-15)) 2 (-15), ei 38 (.invokevirtual 223) 3 22 190 2 0, e1 41 (.ireturn) 1 0], 42),
  (42, [true, true, true, false], [e1 42 (.aload_n 0) 1 0, e3 43 (.getfield 108) 3 22 40 2, e1 46 (.aload_n 0) 1 0, e3 47 (.getfield 176) 3 22 39 0, e1 50 (.aload_n 0) 1 0, e1 51 (.iload_n 1) 1 1, ei 52 (.invokevirtual 205) 3 22 195 2 0, e0 55 (.iastore) 1, e1 56 (.aload_n 0) 1 0, e3 57 (.getfield 111) 3 22 41 2, e1 60 (.aload_n 0) 1 0, e3 61 (.getfield 176) 3 22 39 0, e1 64 (.iload_n 2) 1 2, e0 65 (.iastore) 1, ec 66 (.iconst 0) 1 0, e1 67 (.istore_n 3) 1 3], 68),
  (68, [true, false, false, true], [e1 68 (.iload_n 3) 1 3, ec 69 (.bipush 16) 2 16, e1 71 (.if_icmp .ge 25) 3 96, e1 74 (.aload_n 0) 1 0, e3 75 (.getfield 114) 3 22 42 2, ec 78 (.bipush 16) 2 16, e1 80 (.aload_n 0) 1 0, e3 81 (.getfield 176) 3 22 39 0, e0 84 (.imul) 1, e1 85 (.iload_n 3) 1 3, e0 86 (.iadd) 1, ec 87 (.bipush (-9)) 2 (-9), e0 89 (.iastore) 1, ek 90 (.iinc 3 1) 3 1 3, e1 93 (.goto (-25)) 3 68], 96),
  (96, [true, false, false, false], [e1 96 (.aload_n 0) 1 0, e0 97 (.dup) 1, e3 98 (.getfield 176) 3 22 39 0, ec 101 (.iconst 1) 1 1, e0 102 (.iadd) 1, e3 103 (.putfield 176) 3 22 39 0, e1 106 (.aload_n 0) 1 0, e3 107 (.getfield 176) 3 22 39 0, ec 110 (.iconst 1) 1 1, e0 111 (.isub) 1, e1 112 (.ireturn) 1 0], 113)]
set_option maxRecDepth 100000 in
def K_X12_stand : List XB := [(0, [true, true, true, true], [e1 0 (.aload_n 0) 1 0, e1 1 (.iload_n 1) 1 1, ei 2 (.invokevirtual 399) 3 22 278 2 0, e1 5 (.ifCond .eq 18) 3 23, e1 8 (.iload_n 3) 1 3, ec 9 (.bipush (-9)) 2 (-9), e1 11 (.if_icmp .eq 14) 3 25, e1 14 (.aload_n 0) 1 0, e1 15 (.iload_n 3) 1 3, e0 16 (.i2l) 1, ei 17 (.invokevirtual 262) 3 22 203 2 0, e1 20 (.ifCond .ne 5) 3 25], 23),
  (23, [false, false, false, false], [ec 23 (.iconst (-1)) 1 (-1), e1 24 (.ireturn) 1 0], 25),
  (25, [true, true, true, true], [e1 25 (.iload_n 2) 1 2, e0 26 (.i2l) 1, ec 27 (.lconst 0) 1 0, e1 28 (.aload_n 0) 1 0, e3 29 (.getfield 111) 3 22 41 2, e1 32 (.iload_n 1) 1 1, e0 33 (.iaload) 1, ec 34 (.iconst 1) 1 1, e0 35 (.isub) 1, e0 36 (.i2l) 1, ei 37 (.invokestatic 191) 3 0 189 3 0, e1 40 (.ifCond .ne 10) 3 50, e1 43 (.aload_n 0) 1 0, ec 44 (.bipush (-12)) 2 (-12), ei 46 (.invokevirtual 223) 3 22 190 2 0, e1 49 (.ireturn) 1 0], 50),
  (50, [true, true, true, true], [e1 50 (.aload_n 0) 1 0, e1 51 (.iload_n 1) 1 1, e1 52 (.iload_n 3) 1 3, ei 53 (.invokevirtual 402) 3 22 279 3 0, e1 56 (.ifCond .ne 10) 3 66, e1 59 (.aload_n 0) 1 0, ec 60 (.bipush (-14)) 2 (-14), ei 62 (.invokevirtual 223) 3 22 190 2 0, e1 65 (.ireturn) 1 0], 66),
  (66, [true, true, true, true], [e1 66 (.aload_n 0) 1 0, e3 67 (.getfield 114) 3 22 42 2, ec 70 (.bipush 16) 2 16, e1 72 (.iload_n 1) 1 1, e0 73 (.imul) 1, e1 74 (.iload_n 2) 1 2, e0 75 (.iadd) 1, e1 76 (.iload_n 3) 1 3, e0 77 (.iastore) 1, ec 78 (.iconst 1) 1 1, e1 79 (.ireturn) 1 0], 80)]
set_option maxRecDepth 100000 in
def K_X12_stands : List XB := [(0, [true, true, true], [e1 0 (.aload_n 0) 1 0, e1 1 (.iload_n 1) 1 1, ei 2 (.invokevirtual 399) 3 22 278 2 0, e1 5 (.ifCond .ne 7) 3 12, ec 8 (.iconst (-1)) 1 (-1), e1 9 (.goto 41) 3 50], 12),
  (12, [true, true, true], [e1 12 (.iload_n 2) 1 2, e0 13 (.i2l) 1, ec 14 (.lconst 0) 1 0, e1 15 (.aload_n 0) 1 0, e3 16 (.getfield 111) 3 22 41 2, e1 19 (.iload_n 1) 1 1, e0 20 (.iaload) 1, ec 21 (.iconst 1) 1 1, e0 22 (.isub) 1, e0 23 (.i2l) 1, ei 24 (.invokestatic 191) 3 0 189 3 0, e1 27 (.ifCond .eq 17) 3 44, e1 30 (.aload_n 0) 1 0, e3 31 (.getfield 114) 3 22 42 2, ec 34 (.bipush 16) 2 16, e1 36 (.iload_n 1) 1 1, e0 37 (.imul) 1, e1 38 (.iload_n 2) 1 2, e0 39 (.iadd) 1, e0 40 (.iaload) 1, e1 41 (.goto 9) 3 50], 44),
  (44, [true, false, false], [e1 44 (.aload_n 0) 1 0, ec 45 (.bipush (-12)) 2 (-12), ei 47 (.invokevirtual 223) 3 22 190 2 0], 50),
  (50, [false, false, false], [e1 50 (.ireturn) 1 0], 51)]
set_option maxRecDepth 100000 in
def K_X12_haul : List XB := [(0, [true, true, true, true, true, true, false], [e1 0 (.aload_n 0) 1 0, e1 1 (.iload_n 1) 1 1, ei 2 (.invokevirtual 399) 3 22 278 2 0, e1 5 (.ifCond .eq 11) 3 16, e1 8 (.aload_n 0) 1 0, e1 9 (.iload_n 3) 1 3, ei 10 (.invokevirtual 399) 3 22 278 2 0, e1 13 (.ifCond .ne 5) 3 18], 16),
  (16, [false, false, false, false, false, false, false], [ec 16 (.iconst (-1)) 1 (-1), e1 17 (.ireturn) 1 0], 18),
  (18, [true, true, true, true, true, true, false], [e1 18 (.iload_n 2) 1 2, e1 19 (.ifCond .lt 48) 3 67, e1 22 (.iload 4) 2 4, e1 24 (.ifCond .lt 43) 3 67, e1 27 (.iload 5) 2 5, e1 29 (.ifCond .lt 38) 3 67, e1 32 (.iload_n 2) 1 2, e0 33 (.i2l) 1, e1 34 (.iload 5) 2 5, e0 36 (.i2l) 1, e0 37 (.ladd) 1, e1 38 (.aload_n 0) 1 0, e3 39 (.getfield 111) 3 22 41 2, e1 42 (.iload_n 1) 1 1, e0 43 (.iaload) 1, e0 44 (.i2l) 1, e0 45 (.lcmp) 1, e1 46 (.ifCond .gt 21) 3 67, e1 49 (.iload 4) 2 4, e0 51 (.i2l) 1, e1 52 (.iload 5) 2 5, e0 54 (.i2l) 1, e0 55 (.ladd) 1, e1 56 (.aload_n 0) 1 0, e3 57 (.getfield 111) 3 22 41 2, e1 60 (.iload_n 3) 1 3, e0 61 (.iaload) 1, e0 62 (.i2l) 1, e0 63 (.lcmp) 1, e1 64 (.ifCond .le 10) 3 74], 67),
  (67, [true, false, false, false, false, false, false], [e1 67 (.aload_n 0) 1 0, ec 68 (.bipush (-12)) 2 (-12), ei 70 (.invokevirtual 223) 3 22 190 2 0, e1 73 (.ireturn) 1 0], 74),
  (74, [true, true, true, true, true, true, false], [ec 74 (.iconst 0) 1 0, e1 75 (.istore 6) 2 6], 77),
  (77, [true, true, true, true, true, true, true], [e1 77 (.iload 6) 2 6, e1 79 (.iload 5) 2 5, e1 81 (.if_icmp .ge 30) 3 111, e1 84 (.aload_n 0) 1 0, e3 85 (.getfield 117) 3 22 43 2, e1 88 (.iload 6) 2 6, e1 90 (.aload_n 0) 1 0, e3 91 (.getfield 114) 3 22 42 2, ec 94 (.bipush 16) 2 16, e1 96 (.iload_n 1) 1 1, e0 97 (.imul) 1, e1 98 (.iload_n 2) 1 2, e0 99 (.iadd) 1, e1 100 (.iload 6) 2 6, e0 102 (.iadd) 1, e0 103 (.iaload) 1, e0 104 (.iastore) 1, ek 105 (.iinc 6 1) 3 1 6, e1 108 (.goto (-31)) 3 77], 111),
  (111, [true, false, false, true, true, true, false], [e1 111 (.aload_n 0) 1 0, ec 112 (.iconst 0) 1 0, e3 113 (.putfield 188) 3 22 44 0], 116),
  (116, [true, false, false, true, true, true, false], [e1 116 (.aload_n 0) 1 0, e3 117 (.getfield 188) 3 22 44 0, e1 120 (.iload 5) 2 5, e1 122 (.if_icmp .ge 59) 3 181, e1 125 (.aload_n 0) 1 0, e1 126 (.iload_n 3) 1 3, e1 127 (.aload_n 0) 1 0, e3 128 (.getfield 117) 3 22 43 2, e1 131 (.aload_n 0) 1 0, e3 132 (.getfield 188) 3 22 44 0, e0 135 (.iaload) 1, ei 136 (.invokevirtual 402) 3 22 279 3 0, e1 139 (.ifCond .eq 42) 3 181, e1 142 (.aload_n 0) 1 0, e3 143 (.getfield 114) 3 22 42 2, ec 146 (.bipush 16) 2 16, e1 148 (.iload_n 3) 1 3, e0 149 (.imul) 1, e1 150 (.iload 4) 2 4, e0 152 (.iadd) 1, e1 153 (.aload_n 0) 1 0, e3 154 (.getfield 188) 3 22 44 0, e0 157 (.iadd) 1, e1 158 (.aload_n 0) 1 0, e3 159 (.getfield 117) 3 22 43 2, e1 162 (.aload_n 0) 1 0, e3 163 (.getfield 188) 3 22 44 0, e0 166 (.iaload) 1, e0 167 (.iastore) 1, e1 168 (.aload_n 0) 1 0, e0 169 (.dup) 1, e3 170 (.getfield 188) 3 22 44 0, ec 173 (.iconst 1) 1 1, e0 174 (.iadd) 1, e3 175 (.putfield 188) 3 22 44 0, e1 178 (.goto (-62)) 3 116], 181),
  (181, [true, false, false, false, false, true, false], [e1 181 (.aload_n 0) 1 0, e3 182 (.getfield 188) 3 22 44 0, e1 185 (.iload 5) 2 5, e1 187 (.if_icmp .ne 8) 3 195, e1 190 (.iload 5) 2 5, e1 192 (.goto 9) 3 201], 195),
  (195, [true, false, false, false, false, false, false], [e1 195 (.aload_n 0) 1 0, ec 196 (.bipush (-14)) 2 (-14), ei 198 (.invokevirtual 223) 3 22 190 2 0], 201),
  (201, [false, false, false, false, false, false, false], [e1 201 (.ireturn) 1 0], 202)]
set_option maxRecDepth 100000 in
def K_X12_came : List XB := [(0, [true], [e1 0 (.aload_n 0) 1 0, e3 1 (.getfield 188) 3 22 44 0, e1 4 (.ireturn) 1 0], 5)]
set_option maxRecDepth 100000 in
def K_X12_isTable : List XB := [(0, [true, true], [e1 0 (.iload_n 1) 1 1, e0 1 (.i2l) 1, ec 2 (.lconst 0) 1 0, e1 3 (.aload_n 0) 1 0, e3 4 (.getfield 179) 3 22 45 0, ec 7 (.iconst 1) 1 1, e0 8 (.isub) 1, e0 9 (.i2l) 1, ei 10 (.invokestatic 191) 3 0 189 3 0, e1 13 (.ireturn) 1 1], 14)]
set_option maxRecDepth 100000 in
def K_X12_table : List XB := [(0, [true, true, true, true, false, false, false], [e1 0 (.iload_n 1) 1 1, e0 1 (.i2l) 1, ec 2 (.lconst 1) 1 1, ec 3 (.ldc2_w 405) 3 16, ei 6 (.invokestatic 191) 3 0 189 3 0, e1 9 (.ifCond .eq 23) 3 32, e1 12 (.iload_n 2) 1 2, e0 13 (.i2l) 1, ec 14 (.lconst 1) 1 1, ec 15 (.ldc2_w 357) 3 5, ei 18 (.invokestatic 191) 3 0 189 3 0, e1 21 (.ifCond .eq 11) 3 32, e1 24 (.iload_n 3) 1 3, e1 25 (.ifCond .lt 7) 3 32, ec 28 (.iconst 1) 1 1, e1 29 (.goto 4) 3 33], 32),
  (32, [true, true, true, true, false, false, false], [ec 32 (.iconst 0) 1 0], 33),
  (33, [true, true, true, true, false, false, false], [e1 33 (.istore 4) 2 4, e1 35 (.iload_n 3) 1 3, e1 36 (.istore 5) 2 5, ec 38 (.iconst 0) 1 0, e1 39 (.istore 6) 2 6], 41),
  (41, [true, true, true, true, true, true, true], [e1 41 (.iload 6) 2 6, e1 43 (.iload_n 2) 1 2, e1 44 (.if_icmp .ge 38) 3 82, e1 47 (.iload 4) 2 4, e1 49 (.ifCond .eq 33) 3 82, e1 52 (.iload 5) 2 5, ec 54 (.bipush 10) 2 10, e0 56 (.irem) 1, ec 57 (.bipush 8) 2 8, e1 59 (.if_icmp .ge 7) 3 66, ec 62 (.iconst 1) 1 1, e1 63 (.goto 4) 3 67], 66),
  (66, [true, true, true, true, false, true, true], [ec 66 (.iconst 0) 1 0], 67),
  (67, [true, true, true, true, false, true, true], [e1 67 (.istore 4) 2 4, e1 69 (.iload 5) 2 5, ec 71 (.bipush 10) 2 10, e0 73 (.idiv) 1, e1 74 (.istore 5) 2 5, ek 76 (.iinc 6 1) 3 1 6, e1 79 (.goto (-38)) 3 41], 82),
  (82, [true, true, true, true, true, true, false], [e1 82 (.iload 4) 2 4, e1 84 (.ifCond .eq 8) 3 92, e1 87 (.iload 5) 2 5, e1 89 (.ifCond .le 6) 3 95], 92),
  (92, [false, false, false, false, false, false, false], [ec 92 (.bipush (-2)) 2 (-2), e1 94 (.ireturn) 1 0], 95),
  (95, [true, true, true, true, false, false, false], [e1 95 (.aload_n 0) 1 0, e3 96 (.getfield 179) 3 22 45 0, ec 99 (.bipush 6) 2 6, e1 101 (.if_icmp .ne 6) 3 107, ec 104 (.bipush (-4)) 2 (-4), e1 106 (.ireturn) 1 0], 107),
  (107, [true, true, true, true, false, false, false], [e1 107 (.aload_n 0) 1 0, e3 108 (.getfield 120) 3 22 46 2, e1 111 (.aload_n 0) 1 0, e3 112 (.getfield 179) 3 22 45 0, e1 115 (.iload_n 1) 1 1, e0 116 (.iastore) 1, e1 117 (.aload_n 0) 1 0, e3 118 (.getfield 123) 3 22 47 2, e1 121 (.aload_n 0) 1 0, e3 122 (.getfield 179) 3 22 45 0, e1 125 (.iload_n 2) 1 2, e0 126 (.iastore) 1, e1 127 (.iload_n 3) 1 3, e1 128 (.istore 5) 2 5, ec 130 (.iconst 0) 1 0, e1 131 (.istore 6) 2 6], 133),
  (133, [true, false, true, false, false, true, true], [e1 133 (.iload 6) 2 6, e1 135 (.iload_n 2) 1 2, e1 136 (.if_icmp .ge 35) 3 171, e1 139 (.aload_n 0) 1 0, e3 140 (.getfield 126) 3 22 48 2, ec 143 (.iconst 5) 1 5, e1 144 (.aload_n 0) 1 0, e3 145 (.getfield 179) 3 22 45 0, e0 148 (.imul) 1, e1 149 (.iload 6) 2 6, e0 151 (.iadd) 1, e1 152 (.iload 5) 2 5, ec 154 (.bipush 10) 2 10, e0 156 (.irem) 1, e0 157 (.iastore) 1, e1 158 (.iload 5) 2 5, ec 160 (.bipush 10) 2 10, e0 162 (.idiv) 1, e1 163 (.istore 5) 2 5, ek 165 (.iinc 6 1) 3 1 6, e1 168 (.goto (-35)) 3 133], 171),
  (171, [true, false, false, false, false, false, false], [ec 171 (.iconst 0) 1 0, e1 172 (.istore 6) 2 6], 174),
  (174, [true, false, false, false, false, false, true], [e1 174 (.iload 6) 2 6, ec 176 (.bipush 80) 2 80, e1 178 (.if_icmp .ge 25) 3 203, e1 181 (.aload_n 0) 1 0, e3 182 (.getfield 129) 3 22 49 2, ec 185 (.bipush 80) 2 80, e1 187 (.aload_n 0) 1 0, e3 188 (.getfield 179) 3 22 45 0, e0 191 (.imul) 1, e1 192 (.iload 6) 2 6, e0 194 (.iadd) 1, ec 195 (.iconst 1) 1 1, e0 196 (.bastore) 1, ek 197 (.iinc 6 1) 3 1 6, e1 200 (.goto (-26)) 3 174], 203),
  (203, [true, false, false, false, false, false, false], [e1 203 (.aload_n 0) 1 0, e0 204 (.dup) 1, e3 205 (.getfield 179) 3 22 45 0, ec 208 (.iconst 1) 1 1, e0 209 (.iadd) 1, e3 210 (.putfield 179) 3 22 45 0, e1 213 (.aload_n 0) 1 0, e3 214 (.getfield 179) 3 22 45 0, ec 217 (.iconst 1) 1 1, e0 218 (.isub) 1, e1 219 (.ireturn) 1 0], 220)]
set_option maxRecDepth 100000 in
def K_X12_isColumn : List XB := [(0, [true, true, true], [e1 0 (.iload_n 2) 1 2, e0 1 (.i2l) 1, ec 2 (.lconst 0) 1 0, e1 3 (.aload_n 0) 1 0, e3 4 (.getfield 123) 3 22 47 2, e1 7 (.iload_n 1) 1 1, e0 8 (.iaload) 1, ec 9 (.iconst 1) 1 1, e0 10 (.isub) 1, e0 11 (.i2l) 1, ei 12 (.invokestatic 191) 3 0 189 3 0, e1 15 (.ireturn) 1 1], 16)]
set_option maxRecDepth 100000 in
def K_X12_isCell : List XB := [(0, [true, true, true, true], [e1 0 (.iload_n 2) 1 2, e0 1 (.i2l) 1, ec 2 (.lconst 0) 1 0, e1 3 (.aload_n 0) 1 0, e3 4 (.getfield 120) 3 22 46 2, e1 7 (.iload_n 1) 1 1, e0 8 (.iaload) 1, ec 9 (.iconst 1) 1 1, e0 10 (.isub) 1, e0 11 (.i2l) 1, ei 12 (.invokestatic 191) 3 0 189 3 0, e1 15 (.ifCond .eq 16) 3 31, e1 18 (.aload_n 0) 1 0, e1 19 (.iload_n 1) 1 1, e1 20 (.iload_n 3) 1 3, ei 21 (.invokevirtual 407) 3 22 287 3 0, e1 24 (.ifCond .eq 7) 3 31, ec 27 (.iconst 1) 1 1, e1 28 (.goto 4) 3 32], 31),
  (31, [false, false, false, false], [ec 31 (.iconst 0) 1 0], 32),
  (32, [false, false, false, false], [e1 32 (.ireturn) 1 1], 33)]
set_option maxRecDepth 100000 in
def K_X12_cellAt : List XB := [(0, [true, true, true], [ec 0 (.bipush 80) 2 80, e1 2 (.iload_n 0) 1 0, e0 3 (.imul) 1, ec 4 (.iconst 5) 1 5, e1 5 (.iload_n 1) 1 1, e0 6 (.imul) 1, e0 7 (.iadd) 1, e1 8 (.iload_n 2) 1 2, e0 9 (.iadd) 1, e1 10 (.ireturn) 1 0], 11)]
set_option maxRecDepth 100000 in
def K_X12_fill : List XB := [(0, [true, true, true, true, true, false, false, false], [e1 0 (.aload_n 0) 1 0, e1 1 (.iload_n 1) 1 1, ei 2 (.invokevirtual 410) 3 22 285 2 0, e1 5 (.ifCond .ne 5) 3 10, ec 8 (.iconst (-1)) 1 (-1), e1 9 (.ireturn) 1 0], 10),
  (10, [true, true, true, true, true, false, false, false], [e1 10 (.aload_n 0) 1 0, e1 11 (.iload_n 1) 1 1, e1 12 (.iload_n 2) 1 2, e1 13 (.iload_n 3) 1 3, ei 14 (.invokevirtual 413) 3 22 288 4 0, e1 17 (.ifCond .ne 10) 3 27, e1 20 (.aload_n 0) 1 0, ec 21 (.bipush (-12)) 2 (-12), ei 23 (.invokevirtual 223) 3 22 190 2 0, e1 26 (.ireturn) 1 0], 27),
  (27, [true, true, true, true, true, false, false, false], [e1 27 (.iload_n 1) 1 1, e1 28 (.iload_n 2) 1 2, e1 29 (.iload_n 3) 1 3, ei 30 (.invokestatic 416) 3 0 289 3 0, e1 33 (.istore 6) 2 6, e1 35 (.aload_n 0) 1 0, e3 36 (.getfield 126) 3 22 48 2, ec 39 (.iconst 5) 1 5, e1 40 (.iload_n 1) 1 1, e0 41 (.imul) 1, e1 42 (.iload_n 3) 1 3, e0 43 (.iadd) 1, e0 44 (.iaload) 1, e1 45 (.istore 7) 2 7, e1 47 (.aload_n 0) 1 0, e3 48 (.getfield 129) 3 22 49 2, e1 51 (.iload 6) 2 6, ec 53 (.iconst 0) 1 0, e0 54 (.bastore) 1, e1 55 (.aload_n 0) 1 0, e3 56 (.getfield 132) 3 22 50 2, e1 59 (.iload 6) 2 6, e1 61 (.iload 7) 2 7, e1 63 (.lload 4) 2 4, ei 65 (.invokestatic 226) 3 0 199 2 1, e0 68 (.lastore) 1, e1 69 (.aload_n 0) 1 0, e3 70 (.getfield 135) 3 22 51 2, e1 73 (.iload 6) 2 6, e1 75 (.iload 7) 2 7, ec 77 (.bipush 6) 2 6, e1 79 (.if_icmp .ne 10) 3 89, e1 82 (.lload 4) 2 4, e0 84 (.l2f) 1, e0 85 (.f2d) 1, e1 86 (.goto 17) 3 103], 89),
  (89, [false, false, false, false, true, false, false, true], [e1 89 (.iload 7) 2 7, ec 91 (.bipush 7) 2 7, e1 93 (.if_icmp .ne 9) 3 102, e1 96 (.lload 4) 2 4, e0 98 (.l2d) 1, e1 99 (.goto 4) 3 103], 102),
  (102, [false, false, false, false, false, false, false, false], [ec 102 (.dconst 0) 1 0], 103),
  (103, [false, false, false, false, false, false, false, false], [e0 103 (.dastore) 1, ec 104 (.iconst 1) 1 1, e1 105 (.ireturn) 1 0], 106)]
set_option maxRecDepth 100000 in
def K_X12_blank : List XB := [(0, [true, true, true, true, false, false], [e1 0 (.aload_n 0) 1 0, e1 1 (.iload_n 1) 1 1, ei 2 (.invokevirtual 410) 3 22 285 2 0, e1 5 (.ifCond .ne 5) 3 10, ec 8 (.iconst (-1)) 1 (-1), e1 9 (.ireturn) 1 0], 10),
  (10, [true, true, true, true, false, false], [e1 10 (.aload_n 0) 1 0, e1 11 (.iload_n 1) 1 1, e1 12 (.iload_n 2) 1 2, e1 13 (.iload_n 3) 1 3, ei 14 (.invokevirtual 413) 3 22 288 4 0, e1 17 (.ifCond .ne 10) 3 27, e1 20 (.aload_n 0) 1 0, ec 21 (.bipush (-12)) 2 (-12), ei 23 (.invokevirtual 223) 3 22 190 2 0, e1 26 (.ireturn) 1 0], 27),
  (27, [true, true, true, true, false, false], [e1 27 (.iload_n 1) 1 1, e1 28 (.iload_n 2) 1 2, e1 29 (.iload_n 3) 1 3, ei 30 (.invokestatic 416) 3 0 289 3 0, e1 33 (.istore 4) 2 4, e1 35 (.aload_n 0) 1 0, e3 36 (.getfield 129) 3 22 49 2, e1 39 (.iload 4) 2 4, e0 41 (.baload) 1, e1 42 (.ifCond .eq 7) 3 49, ec 45 (.iconst 0) 1 0, e1 46 (.goto 4) 3 50], 49),
  (49, [true, false, false, false, true, false], [ec 49 (.iconst 1) 1 1], 50),
  (50, [true, false, false, false, true, false], [e1 50 (.istore 5) 2 5, e1 52 (.aload_n 0) 1 0, e3 53 (.getfield 129) 3 22 49 2, e1 56 (.iload 4) 2 4, ec 58 (.iconst 1) 1 1, e0 59 (.bastore) 1, e1 60 (.iload 5) 2 5, e1 62 (.ireturn) 1 0], 63)]
set_option maxRecDepth 100000 in
def K_X12_read : List XB := [(0, [true, true, true, true, false], [e1 0 (.aload_n 0) 1 0, e1 1 (.iload_n 1) 1 1, ei 2 (.invokevirtual 410) 3 22 285 2 0, e1 5 (.ifCond .ne 7) 3 12, ec 8 (.ldc2_w 287) 3 (-1), e0 11 (.lreturn) 1], 12),
  (12, [true, true, true, true, false], [e1 12 (.aload_n 0) 1 0, e1 13 (.iload_n 1) 1 1, e1 14 (.iload_n 2) 1 2, e1 15 (.iload_n 3) 1 3, ei 16 (.invokevirtual 413) 3 22 288 4 0, e1 19 (.ifCond .ne 11) 3 30, e1 22 (.aload_n 0) 1 0, ec 23 (.bipush (-12)) 2 (-12), ei 25 (.invokevirtual 223) 3 22 190 2 0, e0 28 (.i2l) 1, e0 29 (.lreturn) 1], 30),
  (30, [true, true, true, true, false], [e1 30 (.iload_n 1) 1 1, e1 31 (.iload_n 2) 1 2, e1 32 (.iload_n 3) 1 3, ei 33 (.invokestatic 416) 3 0 289 3 0, e1 36 (.istore 4) 2 4, e1 38 (.aload_n 0) 1 0, e3 39 (.getfield 129) 3 22 49 2, e1 42 (.iload 4) 2 4, e0 44 (.baload) 1, e1 45 (.ifCond .eq 13) 3 58, e1 48 (.aload_n 0) 1 0, ec 49 (.bipush (-11)) 2 (-11), ei 51 (.invokevirtual 223) 3 22 190 2 0, e0 54 (.i2l) 1, e1 55 (.goto 10) 3 65], 58),
  (58, [true, false, false, false, true], [e1 58 (.aload_n 0) 1 0, e3 59 (.getfield 132) 3 22 50 2, e1 62 (.iload 4) 2 4, e0 64 (.laload) 1], 65),
  (65, [false, false, false, false, false], [e0 65 (.lreturn) 1], 66)]
set_option maxRecDepth 100000 in
def K_X12_choose : List XB := [(0, [true, true, true, true, false, true, false, false], [e1 0 (.aload_n 0) 1 0, e1 1 (.iload_n 1) 1 1, ei 2 (.invokevirtual 410) 3 22 285 2 0, e1 5 (.ifCond .ne 5) 3 10, ec 8 (.iconst (-1)) 1 (-1), e1 9 (.ireturn) 1 0], 10),
  (10, [true, true, true, true, false, true, false, false], [e1 10 (.iload 5) 2 5, e0 12 (.i2l) 1, ec 13 (.lconst 0) 1 0, ec 14 (.ldc2_w 419) 3 15, ei 17 (.invokestatic 191) 3 0 189 3 0, e1 20 (.ifCond .ne 6) 3 26, ec 23 (.bipush (-2)) 2 (-2), e1 25 (.ireturn) 1 0], 26),
  (26, [true, true, true, true, false, true, false, false], [e1 26 (.aload_n 0) 1 0, e1 27 (.iload_n 1) 1 1, e1 28 (.iload_n 2) 1 2, ei 29 (.invokevirtual 407) 3 22 287 3 0, e1 32 (.ifCond .ne 10) 3 42, e1 35 (.aload_n 0) 1 0, ec 36 (.bipush (-12)) 2 (-12), ei 38 (.invokevirtual 223) 3 22 190 2 0, e1 41 (.ireturn) 1 0], 42),
  (42, [true, true, true, true, false, true, false, false], [e1 42 (.iload 5) 2 5, e1 44 (.istore 6) 2 6], 46),
  (46, [true, true, true, true, false, false, true, false], [e1 46 (.iload 6) 2 6, e1 48 (.aload_n 0) 1 0, e3 49 (.getfield 120) 3 22 46 2, e1 52 (.iload_n 1) 1 1, e0 53 (.iaload) 1, e1 54 (.if_icmp .ge 43) 3 97, e1 57 (.iload_n 1) 1 1, e1 58 (.iload 6) 2 6, e1 60 (.iload_n 2) 1 2, ei 61 (.invokestatic 416) 3 0 289 3 0, e1 64 (.istore 7) 2 7, e1 66 (.aload_n 0) 1 0, e3 67 (.getfield 129) 3 22 49 2, e1 70 (.iload 7) 2 7, e0 72 (.baload) 1, e1 73 (.ifCond .ne 18) 3 91, e1 76 (.aload_n 0) 1 0, e3 77 (.getfield 132) 3 22 50 2, e1 80 (.iload 7) 2 7, e0 82 (.laload) 1, e1 83 (.lload_n 3) 1 3, e0 84 (.lcmp) 1, e1 85 (.ifCond .ne 6) 3 91, e1 88 (.iload 6) 2 6, e1 90 (.ireturn) 1 0], 91),
  (91, [true, true, true, true, false, false, true, false], [ek 91 (.iinc 6 1) 3 1 6, e1 94 (.goto (-48)) 3 46], 97),
  (97, [false, false, false, false, false, false, false, false], [ec 97 (.bipush (-9)) 2 (-9), e1 99 (.ireturn) 1 0], 100)]
set_option maxRecDepth 100000 in
def K_X12_isAhead : List XB := [(0, [true, true, true, true, true, true, false, false, false, false, false], [e1 0 (.iload_n 1) 1 1, e1 1 (.iload_n 3) 1 3, e1 2 (.iload_n 2) 1 2, ei 3 (.invokestatic 416) 3 0 289 3 0, e1 6 (.istore 6) 2 6, e1 8 (.iload_n 1) 1 1, e1 9 (.iload 4) 2 4, e1 11 (.iload_n 2) 1 2, ei 12 (.invokestatic 416) 3 0 289 3 0, e1 15 (.istore 7) 2 7, e1 17 (.aload_n 0) 1 0, e3 18 (.getfield 129) 3 22 49 2, e1 21 (.iload 6) 2 6, e0 23 (.baload) 1, e1 24 (.ifCond .ne 13) 3 37, e1 27 (.aload_n 0) 1 0, e3 28 (.getfield 129) 3 22 49 2, e1 31 (.iload 7) 2 7, e0 33 (.baload) 1, e1 34 (.ifCond .eq 29) 3 63], 37),
  (37, [true, false, false, false, false, false, true, true, false, false, false], [e1 37 (.aload_n 0) 1 0, e3 38 (.getfield 129) 3 22 49 2, e1 41 (.iload 6) 2 6, e0 43 (.baload) 1, e1 44 (.ifCond .ne 17) 3 61, e1 47 (.aload_n 0) 1 0, e3 48 (.getfield 129) 3 22 49 2, e1 51 (.iload 7) 2 7, e0 53 (.baload) 1, e1 54 (.ifCond .eq 7) 3 61, ec 57 (.iconst 1) 1 1, e1 58 (.goto 4) 3 62], 61),
  (61, [false, false, false, false, false, false, false, false, false, false, false], [ec 61 (.iconst 0) 1 0], 62),
  (62, [false, false, false, false, false, false, false, false, false, false, false], [e1 62 (.ireturn) 1 1], 63),
  (63, [true, true, true, false, false, true, true, true, false, false, false], [e1 63 (.aload_n 0) 1 0, e3 64 (.getfield 126) 3 22 48 2, ec 67 (.iconst 5) 1 5, e1 68 (.iload_n 1) 1 1, e0 69 (.imul) 1, e1 70 (.iload_n 2) 1 2, e0 71 (.iadd) 1, e0 72 (.iaload) 1, e1 73 (.istore 8) 2 8, e1 75 (.iload 8) 2 8, ec 77 (.bipush 6) 2 6, e1 79 (.if_icmp .eq 10) 3 89, e1 82 (.iload 8) 2 8, ec 84 (.bipush 7) 2 7, e1 86 (.if_icmp .ne 29) 3 115], 89),
  (89, [true, false, false, false, false, true, true, true, true, false, false], [e1 89 (.aload_n 0) 1 0, e3 90 (.getfield 135) 3 22 51 2, e1 93 (.iload 6) 2 6, e0 95 (.daload) 1, e1 96 (.aload_n 0) 1 0, e3 97 (.getfield 135) 3 22 51 2, e1 100 (.iload 7) 2 7, e0 102 (.daload) 1, e0 103 (.dcmp .g) 1, e1 104 (.ifCond .ge 7) 3 111, ec 107 (.iconst 1) 1 1, e1 108 (.goto 30) 3 138], 111),
  (111, [true, false, false, false, false, true, true, true, true, false, false], [ec 111 (.iconst 0) 1 0, e1 112 (.goto 26) 3 138], 115),
  (115, [true, false, false, false, false, true, true, true, true, false, false], [e1 115 (.aload_n 0) 1 0, e3 116 (.getfield 132) 3 22 50 2, e1 119 (.iload 6) 2 6, e0 121 (.laload) 1, e1 122 (.aload_n 0) 1 0, e3 123 (.getfield 132) 3 22 50 2, e1 126 (.iload 7) 2 7, e0 128 (.laload) 1, e0 129 (.lcmp) 1, e1 130 (.ifCond .ge 7) 3 137, ec 133 (.iconst 1) 1 1, e1 134 (.goto 4) 3 138], 137),
  (137, [true, false, false, false, false, true, true, true, true, false, false], [ec 137 (.iconst 0) 1 0], 138),
  (138, [true, false, false, false, false, true, true, true, true, false, false], [e1 138 (.istore 9) 2 9, e1 140 (.iload 8) 2 8, ec 142 (.bipush 6) 2 6, e1 144 (.if_icmp .eq 10) 3 154, e1 147 (.iload 8) 2 8, ec 149 (.bipush 7) 2 7, e1 151 (.if_icmp .ne 29) 3 180], 154),
  (154, [true, false, false, false, false, true, true, true, false, true, false], [e1 154 (.aload_n 0) 1 0, e3 155 (.getfield 135) 3 22 51 2, e1 158 (.iload 6) 2 6, e0 160 (.daload) 1, e1 161 (.aload_n 0) 1 0, e3 162 (.getfield 135) 3 22 51 2, e1 165 (.iload 7) 2 7, e0 167 (.daload) 1, e0 168 (.dcmp .l) 1, e1 169 (.ifCond .le 7) 3 176, ec 172 (.iconst 1) 1 1, e1 173 (.goto 30) 3 203], 176),
  (176, [false, false, false, false, false, true, false, false, false, true, false], [ec 176 (.iconst 0) 1 0, e1 177 (.goto 26) 3 203], 180),
  (180, [true, false, false, false, false, true, true, true, false, true, false], [e1 180 (.aload_n 0) 1 0, e3 181 (.getfield 132) 3 22 50 2, e1 184 (.iload 6) 2 6, e0 186 (.laload) 1, e1 187 (.aload_n 0) 1 0, e3 188 (.getfield 132) 3 22 50 2, e1 191 (.iload 7) 2 7, e0 193 (.laload) 1, e0 194 (.lcmp) 1, e1 195 (.ifCond .le 7) 3 202, ec 198 (.iconst 1) 1 1, e1 199 (.goto 4) 3 203], 202),
  (202, [false, false, false, false, false, true, false, false, false, true, false], [ec 202 (.iconst 0) 1 0], 203),
  (203, [false, false, false, false, false, true, false, false, false, true, false], [e1 203 (.istore 10) 2 10, e1 205 (.iload 5) 2 5, e1 207 (.ifCond .eq 8) 3 215, e1 210 (.iload 10) 2 10, e1 212 (.goto 5) 3 217], 215),
  (215, [false, false, false, false, false, false, false, false, false, true, false], [e1 215 (.iload 9) 2 9], 217),
  (217, [false, false, false, false, false, false, false, false, false, false, false], [e1 217 (.ireturn) 1 1], 218)]
set_option maxRecDepth 100000 in
def K_X12_rank : List XB := [(0, [true, true, true, true, false, false, false], [e1 0 (.aload_n 0) 1 0, e1 1 (.iload_n 1) 1 1, ei 2 (.invokevirtual 410) 3 22 285 2 0, e1 5 (.ifCond .ne 5) 3 10, ec 8 (.iconst (-1)) 1 (-1), e1 9 (.ireturn) 1 0], 10),
  (10, [true, true, true, true, false, false, false], [e1 10 (.aload_n 0) 1 0, e1 11 (.iload_n 1) 1 1, e1 12 (.iload_n 2) 1 2, ei 13 (.invokevirtual 407) 3 22 287 3 0, e1 16 (.ifCond .ne 10) 3 26, e1 19 (.aload_n 0) 1 0, ec 20 (.bipush (-12)) 2 (-12), ei 22 (.invokevirtual 223) 3 22 190 2 0, e1 25 (.ireturn) 1 0], 26),
  (26, [true, true, true, true, false, false, false], [ec 26 (.iconst 0) 1 0, e1 27 (.istore 4) 2 4], 29),
  (29, [true, true, true, true, true, false, false], [e1 29 (.iload 4) 2 4, e1 31 (.aload_n 0) 1 0, e3 32 (.getfield 120) 3 22 46 2, e1 35 (.iload_n 1) 1 1, e0 36 (.iaload) 1, e1 37 (.if_icmp .ge 70) 3 107, e1 40 (.iload 4) 2 4, e1 42 (.istore 5) 2 5], 44),
  (44, [true, true, true, true, true, true, false], [e1 44 (.iload 5) 2 5, e1 46 (.ifCond .le 46) 3 92, e1 49 (.aload_n 0) 1 0, e1 50 (.iload_n 1) 1 1, e1 51 (.iload_n 2) 1 2, e1 52 (.iload 4) 2 4, e1 54 (.aload_n 0) 1 0, e3 55 (.getfield 139) 3 22 52 2, e1 58 (.iload 5) 2 5, ec 60 (.iconst 1) 1 1, e0 61 (.isub) 1, e0 62 (.iaload) 1, e1 63 (.iload_n 3) 1 3, ei 64 (.invokevirtual 421) 3 22 294 6 0, e1 67 (.ifCond .eq 25) 3 92, e1 70 (.aload_n 0) 1 0, e3 71 (.getfield 139) 3 22 52 2, e1 74 (.iload 5) 2 5, e1 76 (.aload_n 0) 1 0, e3 77 (.getfield 139) 3 22 52 2, e1 80 (.iload 5) 2 5, ec 82 (.iconst 1) 1 1, e0 83 (.isub) 1, e0 84 (.iaload) 1, e0 85 (.iastore) 1, ek 86 (.iinc 5 (-1)) 3 (-1) 5, e1 89 (.goto (-45)) 3 44], 92),
  (92, [true, true, true, true, true, true, false], [e1 92 (.aload_n 0) 1 0, e3 93 (.getfield 139) 3 22 52 2, e1 96 (.iload 5) 2 5, e1 98 (.iload 4) 2 4, e0 100 (.iastore) 1, ek 101 (.iinc 4 1) 3 1 4, e1 104 (.goto (-75)) 3 29], 107),
  (107, [true, true, false, false, false, false, false], [ec 107 (.iconst 0) 1 0, e1 108 (.istore 4) 2 4], 110),
  (110, [true, true, false, false, true, false, false], [e1 110 (.iload 4) 2 4, ec 112 (.bipush 80) 2 80, e1 114 (.if_icmp .ge 66) 3 180, e1 117 (.aload_n 0) 1 0, e3 118 (.getfield 142) 3 22 53 2, e1 121 (.iload 4) 2 4, e1 123 (.aload_n 0) 1 0, e3 124 (.getfield 129) 3 22 49 2, ec 127 (.bipush 80) 2 80, e1 129 (.iload_n 1) 1 1, e0 130 (.imul) 1, e1 131 (.iload 4) 2 4, e0 133 (.iadd) 1, e0 134 (.baload) 1, e0 135 (.bastore) 1, e1 136 (.aload_n 0) 1 0, e3 137 (.getfield 145) 3 22 54 2, e1 140 (.iload 4) 2 4, e1 142 (.aload_n 0) 1 0, e3 143 (.getfield 132) 3 22 50 2, ec 146 (.bipush 80) 2 80, e1 148 (.iload_n 1) 1 1, e0 149 (.imul) 1, e1 150 (.iload 4) 2 4, e0 152 (.iadd) 1, e0 153 (.laload) 1, e0 154 (.lastore) 1, e1 155 (.aload_n 0) 1 0, e3 156 (.getfield 148) 3 22 55 2, e1 159 (.iload 4) 2 4, e1 161 (.aload_n 0) 1 0, e3 162 (.getfield 135) 3 22 51 2, ec 165 (.bipush 80) 2 80, e1 167 (.iload_n 1) 1 1, e0 168 (.imul) 1, e1 169 (.iload 4) 2 4, e0 171 (.iadd) 1, e0 172 (.daload) 1, e0 173 (.dastore) 1, ek 174 (.iinc 4 1) 3 1 4, e1 177 (.goto (-67)) 3 110], 180),
  (180, [true, true, false, false, false, false, false], [ec 180 (.iconst 0) 1 0, e1 181 (.istore 4) 2 4, ec 183 (.iconst 0) 1 0, e1 184 (.istore 5) 2 5], 186),
  (186, [true, true, false, false, true, true, false], [e1 186 (.iload 5) 2 5, e1 188 (.aload_n 0) 1 0, e3 189 (.getfield 120) 3 22 46 2, e1 192 (.iload_n 1) 1 1, e0 193 (.iaload) 1, e1 194 (.if_icmp .ge 148) 3 342, e1 197 (.iload 4) 2 4, e1 199 (.aload_n 0) 1 0, e3 200 (.getfield 139) 3 22 52 2, e1 203 (.iload 5) 2 5, e0 205 (.iaload) 1, e1 206 (.iload 5) 2 5, e1 208 (.if_icmp .eq 7) 3 215, ec 211 (.iconst 1) 1 1, e1 212 (.goto 4) 3 216], 215),
  (215, [true, true, false, false, false, true, false], [ec 215 (.iconst 0) 1 0], 216),
  (216, [true, true, false, false, false, true, false], [e0 216 (.iadd) 1, e1 217 (.istore 4) 2 4, ec 219 (.iconst 0) 1 0, e1 220 (.istore 6) 2 6], 222),
  (222, [true, true, false, false, true, true, true], [e1 222 (.iload 6) 2 6, ec 224 (.iconst 5) 1 5, e1 225 (.if_icmp .ge 111) 3 336, e1 228 (.aload_n 0) 1 0, e3 229 (.getfield 129) 3 22 49 2, ec 232 (.bipush 80) 2 80, e1 234 (.iload_n 1) 1 1, e0 235 (.imul) 1, ec 236 (.iconst 5) 1 5, e1 237 (.iload 5) 2 5, e0 239 (.imul) 1, e0 240 (.iadd) 1, e1 241 (.iload 6) 2 6, e0 243 (.iadd) 1, e1 244 (.aload_n 0) 1 0, e3 245 (.getfield 142) 3 22 53 2, ec 248 (.iconst 5) 1 5, e1 249 (.aload_n 0) 1 0, e3 250 (.getfield 139) 3 22 52 2, e1 253 (.iload 5) 2 5, e0 255 (.iaload) 1, e0 256 (.imul) 1, e1 257 (.iload 6) 2 6, e0 259 (.iadd) 1, e0 260 (.baload) 1, e0 261 (.bastore) 1, e1 262 (.aload_n 0) 1 0, e3 263 (.getfield 132) 3 22 50 2, ec 266 (.bipush 80) 2 80, e1 268 (.iload_n 1) 1 1, e0 269 (.imul) 1, ec 270 (.iconst 5) 1 5, e1 271 (.iload 5) 2 5, e0 273 (.imul) 1, e0 274 (.iadd) 1, e1 275 (.iload 6) 2 6, e0 277 (.iadd) 1, e1 278 (.aload_n 0) 1 0, e3 279 (.getfield 145) 3 22 54 2, ec 282 (.iconst 5) 1 5, e1 283 (.aload_n 0) 1 0, e3 284 (.getfield 139) 3 22 52 2, e1 287 (.iload 5) 2 5, e0 289 (.iaload) 1, e0 290 (.imul) 1, e1 291 (.iload 6) 2 6, e0 293 (.iadd) 1, e0 294 (.laload) 1, e0 295 (.lastore) 1, e1 296 (.aload_n 0) 1 0, e3 297 (.getfield 135) 3 22 51 2, ec 300 (.bipush 80) 2 80, e1 302 (.iload_n 1) 1 1, e0 303 (.imul) 1, ec 304 (.iconst 5) 1 5, e1 305 (.iload 5) 2 5, e0 307 (.imul) 1, e0 308 (.iadd) 1, e1 309 (.iload 6) 2 6, e0 311 (.iadd) 1, e1 312 (.aload_n 0) 1 0, e3 313 (.getfield 148) 3 22 55 2, ec 316 (.iconst 5) 1 5, e1 317 (.aload_n 0) 1 0, e3 318 (.getfield 139) 3 22 52 2, e1 321 (.iload 5) 2 5, e0 323 (.iaload) 1, e0 324 (.imul) 1, e1 325 (.iload 6) 2 6, e0 327 (.iadd) 1, e0 328 (.daload) 1, e0 329 (.dastore) 1, ek 330 (.iinc 6 1) 3 1 6, e1 333 (.goto (-111)) 3 222], 336),
  (336, [true, true, false, false, true, true, false], [ek 336 (.iinc 5 1) 3 1 5, e1 339 (.goto (-153)) 3 186], 342),
  (342, [false, false, false, false, true, false, false], [e1 342 (.iload 4) 2 4, e1 344 (.ireturn) 1 0], 345)]
set_option maxRecDepth 100000 in
def K_X12_filledIn : List XB := [(0, [true, true, true, false, false], [ec 0 (.iconst 0) 1 0, e1 1 (.istore_n 3) 1 3, ec 2 (.iconst 0) 1 0, e1 3 (.istore 4) 2 4], 5),
  (5, [true, true, true, true, true], [e1 5 (.iload 4) 2 4, e1 7 (.aload_n 0) 1 0, e3 8 (.getfield 120) 3 22 46 2, e1 11 (.iload_n 1) 1 1, e0 12 (.iaload) 1, e1 13 (.if_icmp .ge 32) 3 45, e1 16 (.iload_n 3) 1 3, e1 17 (.aload_n 0) 1 0, e3 18 (.getfield 129) 3 22 49 2, e1 21 (.iload_n 1) 1 1, e1 22 (.iload 4) 2 4, e1 24 (.iload_n 2) 1 2, ei 25 (.invokestatic 416) 3 0 289 3 0, e0 28 (.baload) 1, e1 29 (.ifCond .eq 7) 3 36, ec 32 (.iconst 0) 1 0, e1 33 (.goto 4) 3 37], 36),
  (36, [true, true, true, false, true], [ec 36 (.iconst 1) 1 1], 37),
  (37, [true, true, true, false, true], [e0 37 (.iadd) 1, e1 38 (.istore_n 3) 1 3, ek 39 (.iinc 4 1) 3 1 4, e1 42 (.goto (-37)) 3 5], 45),
  (45, [false, false, false, true, false], [e1 45 (.iload_n 3) 1 3, e1 46 (.ireturn) 1 0], 47)]
set_option maxRecDepth 100000 in
def K_X12_sumOf : List XB := [(0, [true, true, true, false, false, false, false], [ec 0 (.lconst 0) 1 0, e1 1 (.lstore_n 3) 1 3, ec 2 (.iconst 0) 1 0, e1 3 (.istore 5) 2 5], 5),
  (5, [true, true, true, true, false, true, false], [e1 5 (.iload 5) 2 5, e1 7 (.aload_n 0) 1 0, e3 8 (.getfield 120) 3 22 46 2, e1 11 (.iload_n 1) 1 1, e0 12 (.iaload) 1, e1 13 (.if_icmp .ge 42) 3 55, e1 16 (.iload_n 1) 1 1, e1 17 (.iload 5) 2 5, e1 19 (.iload_n 2) 1 2, ei 20 (.invokestatic 416) 3 0 289 3 0, e1 23 (.istore 6) 2 6, e1 25 (.lload_n 3) 1 3, e1 26 (.aload_n 0) 1 0, e3 27 (.getfield 129) 3 22 49 2, e1 30 (.iload 6) 2 6, e0 32 (.baload) 1, e1 33 (.ifCond .eq 7) 3 40, ec 36 (.lconst 0) 1 0, e1 37 (.goto 10) 3 47], 40),
  (40, [true, true, true, false, false, true, true], [e1 40 (.aload_n 0) 1 0, e3 41 (.getfield 132) 3 22 50 2, e1 44 (.iload 6) 2 6, e0 46 (.laload) 1], 47),
  (47, [true, true, true, false, false, true, false], [e0 47 (.ladd) 1, e1 48 (.lstore_n 3) 1 3, ek 49 (.iinc 5 1) 3 1 5, e1 52 (.goto (-47)) 3 5], 55),
  (55, [false, false, false, true, false, false, false], [e1 55 (.lload_n 3) 1 3, e0 56 (.lreturn) 1], 57)]
set_option maxRecDepth 100000 in
def K_X12_total : List XB := [(0, [true, true, true], [e1 0 (.aload_n 0) 1 0, e1 1 (.iload_n 1) 1 1, ei 2 (.invokevirtual 410) 3 22 285 2 0, e1 5 (.ifCond .ne 9) 3 14, ec 8 (.ldc2_w 287) 3 (-1), e1 11 (.goto 28) 3 39], 14),
  (14, [true, true, true], [e1 14 (.aload_n 0) 1 0, e1 15 (.iload_n 1) 1 1, e1 16 (.iload_n 2) 1 2, ei 17 (.invokevirtual 407) 3 22 287 3 0, e1 20 (.ifCond .eq 12) 3 32, e1 23 (.aload_n 0) 1 0, e1 24 (.iload_n 1) 1 1, e1 25 (.iload_n 2) 1 2, ei 26 (.invokevirtual 425) 3 22 297 3 1, e1 29 (.goto 10) 3 39], 32),
  (32, [true, false, false], [e1 32 (.aload_n 0) 1 0, ec 33 (.bipush (-12)) 2 (-12), ei 35 (.invokevirtual 223) 3 22 190 2 0, e0 38 (.i2l) 1], 39),
  (39, [false, false, false], [e0 39 (.lreturn) 1], 40)]
set_option maxRecDepth 100000 in
def K_X12_mean : List XB := [(0, [true, true, true, false], [e1 0 (.aload_n 0) 1 0, e1 1 (.iload_n 1) 1 1, ei 2 (.invokevirtual 410) 3 22 285 2 0, e1 5 (.ifCond .ne 7) 3 12, ec 8 (.ldc2_w 287) 3 (-1), e0 11 (.lreturn) 1], 12),
  (12, [true, true, true, false], [e1 12 (.aload_n 0) 1 0, e1 13 (.iload_n 1) 1 1, e1 14 (.iload_n 2) 1 2, ei 15 (.invokevirtual 407) 3 22 287 3 0, e1 18 (.ifCond .ne 11) 3 29, e1 21 (.aload_n 0) 1 0, ec 22 (.bipush (-12)) 2 (-12), ei 24 (.invokevirtual 223) 3 22 190 2 0, e0 27 (.i2l) 1, e0 28 (.lreturn) 1], 29),
  (29, [true, true, true, false], [e1 29 (.aload_n 0) 1 0, e1 30 (.iload_n 1) 1 1, e1 31 (.iload_n 2) 1 2, ei 32 (.invokevirtual 428) 3 22 296 3 0, e1 35 (.istore_n 3) 1 3, e1 36 (.iload_n 3) 1 3, e1 37 (.ifCond .ne 13) 3 50, e1 40 (.aload_n 0) 1 0, ec 41 (.bipush (-16)) 2 (-16), ei 43 (.invokevirtual 223) 3 22 190 2 0, e0 46 (.i2l) 1, e1 47 (.goto 12) 3 59], 50),
  (50, [true, true, true, true], [e1 50 (.aload_n 0) 1 0, e1 51 (.iload_n 1) 1 1, e1 52 (.iload_n 2) 1 2, ei 53 (.invokevirtual 425) 3 22 297 3 1, e1 56 (.iload_n 3) 1 3, e0 57 (.i2l) 1, e0 58 (.ldiv) 1], 59),
  (59, [false, false, false, false], [e0 59 (.lreturn) 1], 60)]
set_option maxRecDepth 100000 in
def K_X12_add : List XB := [(0, [true, true], [e1 0 (.aload_n 0) 1 0, e3 1 (.getfield 151) 3 22 57 2, e1 4 (.aload_n 0) 1 0, e3 5 (.getfield 182) 3 22 56 0, e1 8 (.iload_n 1) 1 1, e0 9 (.iastore) 1, e1 10 (.aload_n 0) 1 0, e0 11 (.dup) 1, e3 12 (.getfield 182) 3 22 56 0, ec 15 (.iconst 1) 1 1, e0 16 (.iadd) 1, e3 17 (.putfield 182) 3 22 56 0, e0 20 (.return_) 1], 21)]
set_option maxRecDepth 100000 in
def K_X12_make : List XB := [(0, [true, false, false, false, false], [ec 0 (.iconst 0) 1 0, e1 1 (.istore_n 1) 1 1, ec 2 (.iconst 0) 1 0, e1 3 (.istore_n 2) 1 2], 4),
  (4, [true, true, true, false, false], [e1 4 (.iload_n 2) 1 2, e1 5 (.aload_n 0) 1 0, e3 6 (.getfield 167) 3 22 9 0, e1 9 (.if_icmp .ge 27) 3 36, e1 12 (.iload_n 1) 1 1, e1 13 (.ifCond .ne 11) 3 24, e1 16 (.aload_n 0) 1 0, e1 17 (.iload_n 2) 1 2, ei 18 (.invokevirtual 382) 3 22 268 2 0, e1 21 (.ifCond .eq 7) 3 28], 24),
  (24, [true, false, true, false, false], [ec 24 (.iconst 1) 1 1, e1 25 (.goto 4) 3 29], 28),
  (28, [true, false, true, false, false], [ec 28 (.iconst 0) 1 0], 29),
  (29, [true, false, true, false, false], [e1 29 (.istore_n 1) 1 1, ek 30 (.iinc 2 1) 3 1 2, e1 33 (.goto (-29)) 3 4], 36),
  (36, [true, true, false, false, false], [e1 36 (.iload_n 1) 1 1, e1 37 (.ifCond .eq 10) 3 47, e1 40 (.aload_n 0) 1 0, ei 41 (.invokevirtual 328) 3 22 244 1 0, e1 44 (.ifCond .le 6) 3 50], 47),
  (47, [false, false, false, false, false], [ec 47 (.bipush (-3)) 2 (-3), e1 49 (.ireturn) 1 0], 50),
  (50, [true, false, false, false, false], [e1 50 (.aload_n 0) 1 0, ec 51 (.iconst 0) 1 0, e3 52 (.putfield 182) 3 22 56 0, e1 55 (.aload_n 0) 1 0, e1 56 (.aload_n 0) 1 0, e3 57 (.getfield 161) 3 22 1 0, ei 60 (.invokevirtual 431) 3 22 300 2 3, e1 63 (.aload_n 0) 1 0, e1 64 (.aload_n 0) 1 0, e3 65 (.getfield 167) 3 22 9 0, ei 68 (.invokevirtual 431) 3 22 300 2 3, ec 71 (.iconst 0) 1 0, e1 72 (.istore_n 2) 1 2], 73),
  (73, [true, false, true, false, false], [e1 73 (.iload_n 2) 1 2, e1 74 (.aload_n 0) 1 0, e3 75 (.getfield 167) 3 22 9 0, e1 78 (.if_icmp .ge 84) 3 162, e1 81 (.aload_n 0) 1 0, e1 82 (.aload_n 0) 1 0, e3 83 (.getfield 30) 3 22 10 2, e1 86 (.iload_n 2) 1 2, e0 87 (.iaload) 1, ei 88 (.invokevirtual 431) 3 22 300 2 3, e1 91 (.aload_n 0) 1 0, e1 92 (.aload_n 0) 1 0, e1 93 (.iload_n 2) 1 2, ei 94 (.invokevirtual 241) 3 22 215 2 0, ei 97 (.invokevirtual 431) 3 22 300 2 3, e1 100 (.aload_n 0) 1 0, e1 101 (.aload_n 0) 1 0, e3 102 (.getfield 33) 3 22 11 2, e1 105 (.iload_n 2) 1 2, e0 106 (.iaload) 1, ei 107 (.invokevirtual 431) 3 22 300 2 3, ec 110 (.iconst 0) 1 0, e1 111 (.istore_n 3) 1 3], 112),
  (112, [true, false, true, true, false], [e1 112 (.iload_n 3) 1 3, e1 113 (.aload_n 0) 1 0, e3 114 (.getfield 164) 3 22 3 0, e1 117 (.if_icmp .ge 39) 3 156, e1 120 (.aload_n 0) 1 0, e1 121 (.aload_n 0) 1 0, e3 122 (.getfield 30) 3 22 10 2, e1 125 (.iload_n 2) 1 2, e0 126 (.iaload) 1, e1 127 (.aload_n 0) 1 0, e3 128 (.getfield 13) 3 22 4 2, e1 131 (.iload_n 3) 1 3, e0 132 (.iaload) 1, ei 133 (.invokevirtual 199) 3 22 194 3 0, e1 136 (.ifCond .eq 14) 3 150, e1 139 (.aload_n 0) 1 0, e1 140 (.aload_n 0) 1 0, e1 141 (.iload_n 2) 1 2, e1 142 (.iload_n 3) 1 3, ei 143 (.invokevirtual 291) 3 22 224 3 1, e0 146 (.l2i) 1, ei 147 (.invokevirtual 431) 3 22 300 2 3], 150),
  (150, [true, false, true, true, false], [ek 150 (.iinc 3 1) 3 1 3, e1 153 (.goto (-41)) 3 112], 156),
  (156, [true, false, true, false, false], [ek 156 (.iinc 2 1) 3 1 2, e1 159 (.goto (-86)) 3 73], 162),
  (162, [true, false, false, false, false], [ec 162 (.iconst 0) 1 0, e1 163 (.istore_n 2) 1 2], 164),
  (164, [true, false, true, false, false], [e1 164 (.iload_n 2) 1 2, e1 165 (.aload_n 0) 1 0, e3 166 (.getfield 167) 3 22 9 0, e1 169 (.if_icmp .ge 41) 3 210, ec 172 (.iconst 0) 1 0, e1 173 (.istore_n 3) 1 3], 174),
  (174, [true, false, true, true, false], [e1 174 (.iload_n 3) 1 3, ec 175 (.bipush 8) 2 8, e1 177 (.if_icmp .ge 27) 3 204, e1 180 (.aload_n 0) 1 0, e1 181 (.iload_n 2) 1 2, ei 182 (.invokevirtual 382) 3 22 268 2 0, e1 185 (.ifCond .eq 19) 3 204, e1 188 (.aload_n 0) 1 0, e1 189 (.aload_n 0) 1 0, e1 190 (.iload_n 2) 1 2, e1 191 (.iload_n 3) 1 3, ei 192 (.invokevirtual 434) 3 22 272 3 0, ei 195 (.invokevirtual 431) 3 22 300 2 3, ek 198 (.iinc 3 1) 3 1 3, e1 201 (.goto (-27)) 3 174], 204),
  (204, [true, false, true, false, false], [ek 204 (.iinc 2 1) 3 1 2, e1 207 (.goto (-43)) 3 164], 210),
  (210, [true, false, false, false, false], [ec 210 (.iconst 0) 1 0, e1 211 (.istore_n 2) 1 2], 212),
  (212, [true, false, true, false, false], [e1 212 (.iload_n 2) 1 2, e1 213 (.aload_n 0) 1 0, e3 214 (.getfield 173) 3 22 29 0, e1 217 (.if_icmp .ge 82) 3 299, e1 220 (.aload_n 0) 1 0, e1 221 (.iload_n 2) 1 2, ei 222 (.invokevirtual 375) 3 22 264 2 3, ec 225 (.iconst 0) 1 0, e1 226 (.istore_n 3) 1 3, ec 227 (.iconst 0) 1 0, e1 228 (.istore 4) 2 4], 230),
  (230, [true, false, true, true, true], [e1 230 (.iload 4) 2 4, ec 232 (.bipush 64) 2 64, e1 234 (.aload_n 0) 1 0, e3 235 (.getfield 167) 3 22 9 0, e0 238 (.imul) 1, e1 239 (.if_icmp .ge 39) 3 278, e1 242 (.iload_n 3) 1 3, e1 243 (.iload 4) 2 4, ec 245 (.bipush 64) 2 64, e0 247 (.irem) 1, e1 248 (.aload_n 0) 1 0, e3 249 (.getfield 167) 3 22 9 0, e1 252 (.if_icmp .ge 17) 3 269, e1 255 (.aload_n 0) 1 0, e3 256 (.getfield 93) 3 22 34 2, e1 259 (.iload 4) 2 4, e0 261 (.baload) 1, e1 262 (.ifCond .eq 7) 3 269, ec 265 (.iconst 1) 1 1, e1 266 (.goto 4) 3 270], 269),
  (269, [true, false, true, false, true], [ec 269 (.iconst 0) 1 0], 270),
  (270, [true, false, true, false, true], [e0 270 (.iadd) 1, e1 271 (.istore_n 3) 1 3, ek 272 (.iinc 4 1) 3 1 4, e1 275 (.goto (-45)) 3 230], 278),
  (278, [true, false, true, true, false], [e1 278 (.aload_n 0) 1 0, e1 279 (.aload_n 0) 1 0, e3 280 (.getfield 81) 3 22 30 2, e1 283 (.iload_n 2) 1 2, e0 284 (.iaload) 1, ei 285 (.invokevirtual 431) 3 22 300 2 3, e1 288 (.aload_n 0) 1 0, e1 289 (.iload_n 3) 1 3, ei 290 (.invokevirtual 431) 3 22 300 2 3, ek 293 (.iinc 2 1) 3 1 2, e1 296 (.goto (-84)) 3 212], 299),
  (299, [true, false, false, false, false], [e1 299 (.aload_n 0) 1 0, e3 300 (.getfield 182) 3 22 56 0, e1 303 (.ireturn) 1 0], 304)]
set_option maxRecDepth 100000 in
def K_X12_word : List XB := [(0, [true, true], [e1 0 (.iload_n 1) 1 1, e0 1 (.i2l) 1, ec 2 (.lconst 0) 1 0, e1 3 (.aload_n 0) 1 0, e3 4 (.getfield 182) 3 22 56 0, ec 7 (.iconst 1) 1 1, e0 8 (.isub) 1, e0 9 (.i2l) 1, ei 10 (.invokestatic 191) 3 0 189 3 0, e1 13 (.ifCond .eq 12) 3 25, e1 16 (.aload_n 0) 1 0, e3 17 (.getfield 151) 3 22 57 2, e1 20 (.iload_n 1) 1 1, e0 21 (.iaload) 1, e1 22 (.goto 5) 3 27], 25),
  (25, [false, false], [ec 25 (.bipush (-9)) 2 (-9)], 27),
  (27, [false, false], [e1 27 (.ireturn) 1 0], 28)]
set_option maxRecDepth 100000 in
def K_X12_digest : List XB := [(0, [true, false, false, false], [ec 0 (.ldc2_w 437) 3 17, e1 3 (.lstore_n 1) 1 1, ec 4 (.iconst 0) 1 0, e1 5 (.istore_n 3) 1 3], 6),
  (6, [true, true, false, true], [e1 6 (.iload_n 3) 1 3, e1 7 (.aload_n 0) 1 0, e3 8 (.getfield 182) 3 22 56 0, e1 11 (.if_icmp .ge 23) 3 34, ec 14 (.ldc2_w 439) 3 31, e1 17 (.lload_n 1) 1 1, e0 18 (.lmul) 1, e1 19 (.aload_n 0) 1 0, e3 20 (.getfield 151) 3 22 57 2, e1 23 (.iload_n 3) 1 3, e0 24 (.iaload) 1, e0 25 (.i2l) 1, e0 26 (.ladd) 1, e1 27 (.lstore_n 1) 1 1, ek 28 (.iinc 3 1) 3 1 3, e1 31 (.goto (-25)) 3 6], 34),
  (34, [false, true, false, false], [e1 34 (.lload_n 1) 1 1, e0 35 (.lreturn) 1], 36)]
set_option maxRecDepth 100000 in
def K_X12_sentence : List XB := [(0, [true, true, true], [e1 0 (.iload_n 1) 1 1, e0 1 (.i2l) 1, ec 2 (.lconst 0) 1 0, e1 3 (.aload_n 0) 1 0, e3 4 (.getfield 170) 3 22 22 0, ec 7 (.iconst 1) 1 1, e0 8 (.isub) 1, e0 9 (.i2l) 1, ei 10 (.invokestatic 191) 3 0 189 3 0, e1 13 (.ifCond .ne 5) 3 18, ec 16 (.iconst (-1)) 1 (-1), e1 17 (.ireturn) 1 0], 18),
  (18, [true, true, true], [e1 18 (.iload_n 2) 1 2, e1 19 (.ifCond .ne 12) 3 31, e1 22 (.aload_n 0) 1 0, e3 23 (.getfield 66) 3 22 23 2, e1 26 (.iload_n 1) 1 1, e0 27 (.iaload) 1, e1 28 (.goto 33) 3 61], 31),
  (31, [true, true, true], [e1 31 (.iload_n 2) 1 2, ec 32 (.iconst 1) 1 1, e1 33 (.if_icmp .ne 12) 3 45, e1 36 (.aload_n 0) 1 0, e3 37 (.getfield 69) 3 22 24 2, e1 40 (.iload_n 1) 1 1, e0 41 (.iaload) 1, e1 42 (.goto 19) 3 61], 45),
  (45, [true, true, true], [e1 45 (.iload_n 2) 1 2, ec 46 (.iconst 2) 1 2, e1 47 (.if_icmp .ne 12) 3 59, e1 50 (.aload_n 0) 1 0, e3 51 (.getfield 72) 3 22 25 2, e1 54 (.iload_n 1) 1 1, e0 55 (.iaload) 1, e1 56 (.goto 5) 3 61], 59),
  (59, [false, false, false], [ec 59 (.bipush (-2)) 2 (-2)], 61),
  (61, [false, false, false], [e1 61 (.ireturn) 1 0], 62)]
set_option maxRecDepth 100000 in
def K_X12_count : List XB := [(0, [true, true], [e1 0 (.iload_n 1) 1 1, es 1 (.tableswitch 105 0 9 #[55, 60, 65, 70, 75, 80, 85, 90, 95, 100]) 55 0 106 [56, 61, 66, 71, 76, 81, 86, 91, 96, 101]], 56),
  (56, [true, false], [e1 56 (.aload_n 0) 1 0, e3 57 (.getfield 161) 3 22 1 0, e1 60 (.ireturn) 1 0], 61),
  (61, [true, false], [e1 61 (.aload_n 0) 1 0, e3 62 (.getfield 164) 3 22 3 0, e1 65 (.ireturn) 1 0], 66),
  (66, [true, false], [e1 66 (.aload_n 0) 1 0, e3 67 (.getfield 167) 3 22 9 0, e1 70 (.ireturn) 1 0], 71),
  (71, [true, false], [e1 71 (.aload_n 0) 1 0, e3 72 (.getfield 170) 3 22 22 0, e1 75 (.ireturn) 1 0], 76),
  (76, [true, false], [e1 76 (.aload_n 0) 1 0, e3 77 (.getfield 173) 3 22 29 0, e1 80 (.ireturn) 1 0], 81),
  (81, [true, false], [e1 81 (.aload_n 0) 1 0, e3 82 (.getfield 176) 3 22 39 0, e1 85 (.ireturn) 1 0], 86),
  (86, [true, false], [e1 86 (.aload_n 0) 1 0, e3 87 (.getfield 179) 3 22 45 0, e1 90 (.ireturn) 1 0], 91),
  (91, [true, false], [e1 91 (.aload_n 0) 1 0, ei 92 (.invokevirtual 328) 3 22 244 1 0, e1 95 (.ireturn) 1 0], 96),
  (96, [true, false], [e1 96 (.aload_n 0) 1 0, e3 97 (.getfield 182) 3 22 56 0, e1 100 (.ireturn) 1 0], 101),
  (101, [true, false], [e1 101 (.aload_n 0) 1 0, e3 102 (.getfield 185) 3 22 27 0, e1 105 (.ireturn) 1 0], 106),
  (106, [false, false], [ec 106 (.bipush (-2)) 2 (-2), e1 108 (.ireturn) 1 0], 109)]
set_option maxRecDepth 100000 in
def K_X12_fault : List XB := [(0, [true], [e1 0 (.aload_n 0) 1 0, e3 1 (.getfield 157) 3 22 0 0, e1 4 (.ireturn) 1 0], 5)]
set_option maxRecDepth 100000 in
def K_X12_clear : List XB := [(0, [true, false], [e1 0 (.aload_n 0) 1 0, e3 1 (.getfield 167) 3 22 9 0, e1 4 (.istore_n 1) 1 1, e1 5 (.aload_n 0) 1 0, ei 6 (.invokevirtual 154) 3 22 191 1 3, e1 9 (.iload_n 1) 1 1, e1 10 (.ireturn) 1 0], 11)]
set_option maxRecDepth 100000 in
def K_J13_bitCount_95d88 : List XB := [(0, [true, false], [e1 0 (.lload_n 0) 1 0, e1 1 (.lload_n 0) 1 0, ec 2 (.iconst 1) 1 1, e0 3 (.lushr) 1, ec 4 (.ldc2_w 314) 3 6148914691236517205, e0 7 (.land) 1, e0 8 (.lsub) 1, e1 9 (.lstore_n 0) 1 0, e1 10 (.lload_n 0) 1 0, ec 11 (.ldc2_w 316) 3 3689348814741910323, e0 14 (.land) 1, e1 15 (.lload_n 0) 1 0, ec 16 (.iconst 2) 1 2, e0 17 (.lushr) 1, ec 18 (.ldc2_w 316) 3 3689348814741910323, e0 21 (.land) 1, e0 22 (.ladd) 1, e1 23 (.lstore_n 0) 1 0, e1 24 (.lload_n 0) 1 0, e1 25 (.lload_n 0) 1 0, ec 26 (.iconst 4) 1 4, e0 27 (.lushr) 1, e0 28 (.ladd) 1, ec 29 (.ldc2_w 318) 3 1085102592571150095, e0 32 (.land) 1, e1 33 (.lstore_n 0) 1 0, e1 34 (.lload_n 0) 1 0, e1 35 (.lload_n 0) 1 0, ec 36 (.bipush 8) 2 8, e0 38 (.lushr) 1, e0 39 (.ladd) 1, e1 40 (.lstore_n 0) 1 0, e1 41 (.lload_n 0) 1 0, e1 42 (.lload_n 0) 1 0, ec 43 (.bipush 16) 2 16, e0 45 (.lushr) 1, e0 46 (.ladd) 1, e1 47 (.lstore_n 0) 1 0, e1 48 (.lload_n 0) 1 0, e1 49 (.lload_n 0) 1 0, ec 50 (.bipush 32) 2 32, e0 52 (.lushr) 1, e0 53 (.ladd) 1, e1 54 (.lstore_n 0) 1 0, e1 55 (.lload_n 0) 1 0, e0 56 (.l2i) 1, ec 57 (.bipush 127) 2 127, e0 59 (.iand) 1, e1 60 (.ireturn) 1 0], 61)]
set_option maxRecDepth 100000 in
def K_J9_max_7cf53 : List XB := [(0, [true, true], [e1 0 (.iload_n 0) 1 0, e1 1 (.iload_n 1) 1 1, e1 2 (.if_icmp .lt 7) 3 9, e1 5 (.iload_n 0) 1 0, e1 6 (.goto 4) 3 10], 9),
  (9, [false, true], [e1 9 (.iload_n 1) 1 1], 10),
  (10, [false, false], [e1 10 (.ireturn) 1 0], 11)]
set_option maxRecDepth 100000 in
def K_L_law : List XB := [(0, [true, false, false, false], [e1 0 (.new 7) 3 21, e0 3 (.dup) 1, ei 4 (.invokespecial 9) 3 21 119 1 3, e1 7 (.astore_n 1) 1 1, e1 8 (.new 10) 3 22, e0 11 (.dup) 1, ei 12 (.invokespecial 12) 3 22 188 1 3, e1 15 (.astore_n 2) 1 2, ec 16 (.iconst 0) 1 0, e1 17 (.istore_n 3) 1 3], 18),
  (18, [true, true, true, true], [e1 18 (.iload_n 3) 1 3, e1 19 (.aload_n 0) 1 0, e0 20 (.arraylength) 1, ec 21 (.bipush 6) 2 6, e0 23 (.isub) 1, e1 24 (.if_icmp .gt 2385) 3 2409, e1 27 (.aload_n 0) 1 0, e1 28 (.iload_n 3) 1 3, e0 29 (.iaload) 1, ec 30 (.bipush 63) 2 63, e0 32 (.iand) 1, es 33 (.tableswitch 2370 0 53 #[231, 254, 287, 330, 403, 436, 469, 502, 575, 609, 642, 686, 719, 752, 795, 828, 871, 920, 983, 1042, 1075, 1088, 1112, 1135, 1178, 1221, 1264, 1307, 1350, 1393, 1446, 1479, 1512, 1571, 1630, 1663, 1706, 1739, 1802, 1815, 1858, 1941, 1984, 2028, 2111, 2170, 2204, 2238, 2251, 2274, 2288, 2321, 2344, 2357]) 231 0 2403 [264, 287, 320, 363, 436, 469, 502, 535, 608, 642, 675, 719, 752, 785, 828, 861, 904, 953, 1016, 1075, 1108, 1121, 1145, 1168, 1211, 1254, 1297, 1340, 1383, 1426, 1479, 1512, 1545, 1604, 1663, 1696, 1739, 1772, 1835, 1848, 1891, 1974, 2017, 2061, 2144, 2203, 2237, 2271, 2284, 2307, 2321, 2354, 2377, 2390]], 264),
  (264, [true, true, true, true], [e1 264 (.aload_n 1) 1 1, e1 265 (.aload_n 0) 1 0, e1 266 (.iload_n 3) 1 3, ec 267 (.iconst 1) 1 1, e0 268 (.iadd) 1, e0 269 (.iaload) 1, ei 270 (.invokevirtual 13) 3 21 124 2 0, e1 273 (.aload_n 2) 1 2, e1 274 (.aload_n 0) 1 0, e1 275 (.iload_n 3) 1 3, ec 276 (.iconst 1) 1 1, e0 277 (.iadd) 1, e0 278 (.iaload) 1, ei 279 (.invokevirtual 17) 3 22 196 2 0, e1 282 (.if_icmp .eq 2121) 3 2403, ec 285 (.iconst 0) 1 0, e1 286 (.ireturn) 1 1], 287),
  (287, [true, true, true, true], [e1 287 (.aload_n 1) 1 1, e1 288 (.aload_n 0) 1 0, e1 289 (.iload_n 3) 1 3, ec 290 (.iconst 1) 1 1, e0 291 (.iadd) 1, e0 292 (.iaload) 1, e1 293 (.aload_n 0) 1 0, e1 294 (.iload_n 3) 1 3, ec 295 (.iconst 2) 1 2, e0 296 (.iadd) 1, e0 297 (.iaload) 1, ei 298 (.invokevirtual 18) 3 21 125 3 0, e1 301 (.aload_n 2) 1 2, e1 302 (.aload_n 0) 1 0, e1 303 (.iload_n 3) 1 3, ec 304 (.iconst 1) 1 1, e0 305 (.iadd) 1, e0 306 (.iaload) 1, e1 307 (.aload_n 0) 1 0, e1 308 (.iload_n 3) 1 3, ec 309 (.iconst 2) 1 2, e0 310 (.iadd) 1, e0 311 (.iaload) 1, ei 312 (.invokevirtual 22) 3 22 197 3 0, e1 315 (.if_icmp .eq 2088) 3 2403, ec 318 (.iconst 0) 1 0, e1 319 (.ireturn) 1 1], 320),
  (320, [true, true, true, true], [e1 320 (.aload_n 1) 1 1, e1 321 (.aload_n 0) 1 0, e1 322 (.iload_n 3) 1 3, ec 323 (.iconst 1) 1 1, e0 324 (.iadd) 1, e0 325 (.iaload) 1, e1 326 (.aload_n 0) 1 0, e1 327 (.iload_n 3) 1 3, ec 328 (.iconst 2) 1 2, e0 329 (.iadd) 1, e0 330 (.iaload) 1, e1 331 (.aload_n 0) 1 0, e1 332 (.iload_n 3) 1 3, ec 333 (.iconst 3) 1 3, e0 334 (.iadd) 1, e0 335 (.iaload) 1, ei 336 (.invokevirtual 23) 3 21 126 4 0, e1 339 (.aload_n 2) 1 2, e1 340 (.aload_n 0) 1 0, e1 341 (.iload_n 3) 1 3, ec 342 (.iconst 1) 1 1, e0 343 (.iadd) 1, e0 344 (.iaload) 1, e1 345 (.aload_n 0) 1 0, e1 346 (.iload_n 3) 1 3, ec 347 (.iconst 2) 1 2, e0 348 (.iadd) 1, e0 349 (.iaload) 1, e1 350 (.aload_n 0) 1 0, e1 351 (.iload_n 3) 1 3, ec 352 (.iconst 3) 1 3, e0 353 (.iadd) 1, e0 354 (.iaload) 1, ei 355 (.invokevirtual 27) 3 22 198 4 0, e1 358 (.if_icmp .eq 2045) 3 2403, ec 361 (.iconst 0) 1 0, e1 362 (.ireturn) 1 1], 363),
  (363, [true, true, true, true], [e1 363 (.aload_n 1) 1 1, e1 364 (.aload_n 0) 1 0, e1 365 (.iload_n 3) 1 3, ec 366 (.iconst 1) 1 1, e0 367 (.iadd) 1, e0 368 (.iaload) 1, e1 369 (.aload_n 0) 1 0, e1 370 (.iload_n 3) 1 3, ec 371 (.iconst 2) 1 2, e0 372 (.iadd) 1, e0 373 (.iaload) 1, e1 374 (.aload_n 0) 1 0, e1 375 (.iload_n 3) 1 3, ec 376 (.iconst 3) 1 3, e0 377 (.iadd) 1, e0 378 (.iaload) 1, e0 379 (.i2l) 1, ec 380 (.bipush 32) 2 32, e0 382 (.lshl) 1, e1 383 (.aload_n 0) 1 0, e1 384 (.iload_n 3) 1 3, ec 385 (.iconst 4) 1 4, e0 386 (.iadd) 1, e0 387 (.iaload) 1, e0 388 (.i2l) 1, ec 389 (.ldc2_w 28) 3 4294967295, e0 392 (.land) 1, e0 393 (.lor) 1, ei 394 (.invokevirtual 30) 3 21 127 4 0, e1 397 (.aload_n 2) 1 2, e1 398 (.aload_n 0) 1 0, e1 399 (.iload_n 3) 1 3, ec 400 (.iconst 1) 1 1, e0 401 (.iadd) 1, e0 402 (.iaload) 1, e1 403 (.aload_n 0) 1 0, e1 404 (.iload_n 3) 1 3, ec 405 (.iconst 2) 1 2, e0 406 (.iadd) 1, e0 407 (.iaload) 1, e1 408 (.aload_n 0) 1 0, e1 409 (.iload_n 3) 1 3, ec 410 (.iconst 3) 1 3, e0 411 (.iadd) 1, e0 412 (.iaload) 1, e0 413 (.i2l) 1, ec 414 (.bipush 32) 2 32, e0 416 (.lshl) 1, e1 417 (.aload_n 0) 1 0, e1 418 (.iload_n 3) 1 3, ec 419 (.iconst 4) 1 4, e0 420 (.iadd) 1, e0 421 (.iaload) 1, e0 422 (.i2l) 1, ec 423 (.ldc2_w 28) 3 4294967295, e0 426 (.land) 1, e0 427 (.lor) 1, ei 428 (.invokevirtual 34) 3 22 202 4 0, e1 431 (.if_icmp .eq 1972) 3 2403, ec 434 (.iconst 0) 1 0, e1 435 (.ireturn) 1 1], 436),
  (436, [true, true, true, true], [e1 436 (.aload_n 1) 1 1, e1 437 (.aload_n 0) 1 0, e1 438 (.iload_n 3) 1 3, ec 439 (.iconst 1) 1 1, e0 440 (.iadd) 1, e0 441 (.iaload) 1, e1 442 (.aload_n 0) 1 0, e1 443 (.iload_n 3) 1 3, ec 444 (.iconst 2) 1 2, e0 445 (.iadd) 1, e0 446 (.iaload) 1, ei 447 (.invokevirtual 35) 3 21 128 3 0, e1 450 (.aload_n 2) 1 2, e1 451 (.aload_n 0) 1 0, e1 452 (.iload_n 3) 1 3, ec 453 (.iconst 1) 1 1, e0 454 (.iadd) 1, e0 455 (.iaload) 1, e1 456 (.aload_n 0) 1 0, e1 457 (.iload_n 3) 1 3, ec 458 (.iconst 2) 1 2, e0 459 (.iadd) 1, e0 460 (.iaload) 1, ei 461 (.invokevirtual 38) 3 22 209 3 0, e1 464 (.if_icmp .eq 1939) 3 2403, ec 467 (.iconst 0) 1 0, e1 468 (.ireturn) 1 1], 469),
  (469, [true, true, true, true], [e1 469 (.aload_n 1) 1 1, e1 470 (.aload_n 0) 1 0, e1 471 (.iload_n 3) 1 3, ec 472 (.iconst 1) 1 1, e0 473 (.iadd) 1, e0 474 (.iaload) 1, e1 475 (.aload_n 0) 1 0, e1 476 (.iload_n 3) 1 3, ec 477 (.iconst 2) 1 2, e0 478 (.iadd) 1, e0 479 (.iaload) 1, ei 480 (.invokevirtual 39) 3 21 129 3 0, e1 483 (.aload_n 2) 1 2, e1 484 (.aload_n 0) 1 0, e1 485 (.iload_n 3) 1 3, ec 486 (.iconst 1) 1 1, e0 487 (.iadd) 1, e0 488 (.iaload) 1, e1 489 (.aload_n 0) 1 0, e1 490 (.iload_n 3) 1 3, ec 491 (.iconst 2) 1 2, e0 492 (.iadd) 1, e0 493 (.iaload) 1, ei 494 (.invokevirtual 42) 3 22 221 3 0, e1 497 (.if_icmp .eq 1906) 3 2403, ec 500 (.iconst 0) 1 0, e1 501 (.ireturn) 1 1], 502),
  (502, [true, true, true, true], [e1 502 (.aload_n 1) 1 1, e1 503 (.aload_n 0) 1 0, e1 504 (.iload_n 3) 1 3, ec 505 (.iconst 1) 1 1, e0 506 (.iadd) 1, e0 507 (.iaload) 1, e1 508 (.aload_n 0) 1 0, e1 509 (.iload_n 3) 1 3, ec 510 (.iconst 2) 1 2, e0 511 (.iadd) 1, e0 512 (.iaload) 1, ei 513 (.invokevirtual 43) 3 21 130 3 0, e1 516 (.aload_n 2) 1 2, e1 517 (.aload_n 0) 1 0, e1 518 (.iload_n 3) 1 3, ec 519 (.iconst 1) 1 1, e0 520 (.iadd) 1, e0 521 (.iaload) 1, e1 522 (.aload_n 0) 1 0, e1 523 (.iload_n 3) 1 3, ec 524 (.iconst 2) 1 2, e0 525 (.iadd) 1, e0 526 (.iaload) 1, ei 527 (.invokevirtual 46) 3 22 222 3 0, e1 530 (.if_icmp .eq 1873) 3 2403, ec 533 (.iconst 0) 1 0, e1 534 (.ireturn) 1 1], 535),
  (535, [true, true, true, true], [e1 535 (.aload_n 1) 1 1, e1 536 (.aload_n 0) 1 0, e1 537 (.iload_n 3) 1 3, ec 538 (.iconst 1) 1 1, e0 539 (.iadd) 1, e0 540 (.iaload) 1, e1 541 (.aload_n 0) 1 0, e1 542 (.iload_n 3) 1 3, ec 543 (.iconst 2) 1 2, e0 544 (.iadd) 1, e0 545 (.iaload) 1, e1 546 (.aload_n 0) 1 0, e1 547 (.iload_n 3) 1 3, ec 548 (.iconst 3) 1 3, e0 549 (.iadd) 1, e0 550 (.iaload) 1, e0 551 (.i2l) 1, ec 552 (.bipush 32) 2 32, e0 554 (.lshl) 1, e1 555 (.aload_n 0) 1 0, e1 556 (.iload_n 3) 1 3, ec 557 (.iconst 4) 1 4, e0 558 (.iadd) 1, e0 559 (.iaload) 1, e0 560 (.i2l) 1, ec 561 (.ldc2_w 28) 3 4294967295, e0 564 (.land) 1, e0 565 (.lor) 1, ei 566 (.invokevirtual 47) 3 21 131 4 0, e1 569 (.aload_n 2) 1 2, e1 570 (.aload_n 0) 1 0, e1 571 (.iload_n 3) 1 3, ec 572 (.iconst 1) 1 1, e0 573 (.iadd) 1, e0 574 (.iaload) 1, e1 575 (.aload_n 0) 1 0, e1 576 (.iload_n 3) 1 3, ec 577 (.iconst 2) 1 2, e0 578 (.iadd) 1, e0 579 (.iaload) 1, e1 580 (.aload_n 0) 1 0, e1 581 (.iload_n 3) 1 3, ec 582 (.iconst 3) 1 3, e0 583 (.iadd) 1, e0 584 (.iaload) 1, e0 585 (.i2l) 1, ec 586 (.bipush 32) 2 32, e0 588 (.lshl) 1, e1 589 (.aload_n 0) 1 0, e1 590 (.iload_n 3) 1 3, ec 591 (.iconst 4) 1 4, e0 592 (.iadd) 1, e0 593 (.iaload) 1, e0 594 (.i2l) 1, ec 595 (.ldc2_w 28) 3 4294967295, e0 598 (.land) 1, e0 599 (.lor) 1, ei 600 (.invokevirtual 50) 3 22 223 4 0, e1 603 (.if_icmp .eq 1800) 3 2403, ec 606 (.iconst 0) 1 0, e1 607 (.ireturn) 1 1], 608),
  (608, [true, true, true, true], [e1 608 (.aload_n 1) 1 1, e1 609 (.aload_n 0) 1 0, e1 610 (.iload_n 3) 1 3, ec 611 (.iconst 1) 1 1, e0 612 (.iadd) 1, e0 613 (.iaload) 1, e1 614 (.aload_n 0) 1 0, e1 615 (.iload_n 3) 1 3, ec 616 (.iconst 2) 1 2, e0 617 (.iadd) 1, e0 618 (.iaload) 1, ei 619 (.invokevirtual 51) 3 21 132 3 1, e1 622 (.aload_n 2) 1 2, e1 623 (.aload_n 0) 1 0, e1 624 (.iload_n 3) 1 3, ec 625 (.iconst 1) 1 1, e0 626 (.iadd) 1, e0 627 (.iaload) 1, e1 628 (.aload_n 0) 1 0, e1 629 (.iload_n 3) 1 3, ec 630 (.iconst 2) 1 2, e0 631 (.iadd) 1, e0 632 (.iaload) 1, ei 633 (.invokevirtual 55) 3 22 225 3 1, e0 636 (.lcmp) 1, e1 637 (.ifCond .eq 1766) 3 2403, ec 640 (.iconst 0) 1 0, e1 641 (.ireturn) 1 1], 642),
  (642, [true, true, true, true], [e1 642 (.aload_n 1) 1 1, e1 643 (.aload_n 0) 1 0, e1 644 (.iload_n 3) 1 3, ec 645 (.iconst 1) 1 1, e0 646 (.iadd) 1, e0 647 (.iaload) 1, e1 648 (.aload_n 0) 1 0, e1 649 (.iload_n 3) 1 3, ec 650 (.iconst 2) 1 2, e0 651 (.iadd) 1, e0 652 (.iaload) 1, ei 653 (.invokevirtual 56) 3 21 133 3 0, e1 656 (.aload_n 2) 1 2, e1 657 (.aload_n 0) 1 0, e1 658 (.iload_n 3) 1 3, ec 659 (.iconst 1) 1 1, e0 660 (.iadd) 1, e0 661 (.iaload) 1, e1 662 (.aload_n 0) 1 0, e1 663 (.iload_n 3) 1 3, ec 664 (.iconst 2) 1 2, e0 665 (.iadd) 1, e0 666 (.iaload) 1, ei 667 (.invokevirtual 59) 3 22 226 3 0, e1 670 (.if_icmp .eq 1733) 3 2403, ec 673 (.iconst 0) 1 0, e1 674 (.ireturn) 1 1], 675),
  (675, [true, true, true, true], [e1 675 (.aload_n 1) 1 1, e1 676 (.aload_n 0) 1 0, e1 677 (.iload_n 3) 1 3, ec 678 (.iconst 1) 1 1, e0 679 (.iadd) 1, e0 680 (.iaload) 1, e1 681 (.aload_n 0) 1 0, e1 682 (.iload_n 3) 1 3, ec 683 (.iconst 2) 1 2, e0 684 (.iadd) 1, e0 685 (.iaload) 1, e1 686 (.aload_n 0) 1 0, e1 687 (.iload_n 3) 1 3, ec 688 (.iconst 3) 1 3, e0 689 (.iadd) 1, e0 690 (.iaload) 1, ei 691 (.invokevirtual 60) 3 21 134 4 1, e1 694 (.aload_n 2) 1 2, e1 695 (.aload_n 0) 1 0, e1 696 (.iload_n 3) 1 3, ec 697 (.iconst 1) 1 1, e0 698 (.iadd) 1, e0 699 (.iaload) 1, e1 700 (.aload_n 0) 1 0, e1 701 (.iload_n 3) 1 3, ec 702 (.iconst 2) 1 2, e0 703 (.iadd) 1, e0 704 (.iaload) 1, e1 705 (.aload_n 0) 1 0, e1 706 (.iload_n 3) 1 3, ec 707 (.iconst 3) 1 3, e0 708 (.iadd) 1, e0 709 (.iaload) 1, ei 710 (.invokevirtual 64) 3 22 227 4 1, e0 713 (.lcmp) 1, e1 714 (.ifCond .eq 1689) 3 2403, ec 717 (.iconst 0) 1 0, e1 718 (.ireturn) 1 1], 719),
  (719, [true, true, true, true], [e1 719 (.aload_n 1) 1 1, e1 720 (.aload_n 0) 1 0, e1 721 (.iload_n 3) 1 3, ec 722 (.iconst 1) 1 1, e0 723 (.iadd) 1, e0 724 (.iaload) 1, e1 725 (.aload_n 0) 1 0, e1 726 (.iload_n 3) 1 3, ec 727 (.iconst 2) 1 2, e0 728 (.iadd) 1, e0 729 (.iaload) 1, ei 730 (.invokevirtual 65) 3 21 135 3 0, e1 733 (.aload_n 2) 1 2, e1 734 (.aload_n 0) 1 0, e1 735 (.iload_n 3) 1 3, ec 736 (.iconst 1) 1 1, e0 737 (.iadd) 1, e0 738 (.iaload) 1, e1 739 (.aload_n 0) 1 0, e1 740 (.iload_n 3) 1 3, ec 741 (.iconst 2) 1 2, e0 742 (.iadd) 1, e0 743 (.iaload) 1, ei 744 (.invokevirtual 68) 3 22 228 3 0, e1 747 (.if_icmp .eq 1656) 3 2403, ec 750 (.iconst 0) 1 0, e1 751 (.ireturn) 1 1], 752),
  (752, [true, true, true, true], [e1 752 (.aload_n 1) 1 1, e1 753 (.aload_n 0) 1 0, e1 754 (.iload_n 3) 1 3, ec 755 (.iconst 1) 1 1, e0 756 (.iadd) 1, e0 757 (.iaload) 1, e1 758 (.aload_n 0) 1 0, e1 759 (.iload_n 3) 1 3, ec 760 (.iconst 2) 1 2, e0 761 (.iadd) 1, e0 762 (.iaload) 1, ei 763 (.invokevirtual 69) 3 21 136 3 0, e1 766 (.aload_n 2) 1 2, e1 767 (.aload_n 0) 1 0, e1 768 (.iload_n 3) 1 3, ec 769 (.iconst 1) 1 1, e0 770 (.iadd) 1, e0 771 (.iaload) 1, e1 772 (.aload_n 0) 1 0, e1 773 (.iload_n 3) 1 3, ec 774 (.iconst 2) 1 2, e0 775 (.iadd) 1, e0 776 (.iaload) 1, ei 777 (.invokevirtual 72) 3 22 234 3 0, e1 780 (.if_icmp .eq 1623) 3 2403, ec 783 (.iconst 0) 1 0, e1 784 (.ireturn) 1 1], 785),
  (785, [true, true, true, true], [e1 785 (.aload_n 1) 1 1, e1 786 (.aload_n 0) 1 0, e1 787 (.iload_n 3) 1 3, ec 788 (.iconst 1) 1 1, e0 789 (.iadd) 1, e0 790 (.iaload) 1, e1 791 (.aload_n 0) 1 0, e1 792 (.iload_n 3) 1 3, ec 793 (.iconst 2) 1 2, e0 794 (.iadd) 1, e0 795 (.iaload) 1, e1 796 (.aload_n 0) 1 0, e1 797 (.iload_n 3) 1 3, ec 798 (.iconst 3) 1 3, e0 799 (.iadd) 1, e0 800 (.iaload) 1, ei 801 (.invokevirtual 73) 3 21 139 4 0, e1 804 (.aload_n 2) 1 2, e1 805 (.aload_n 0) 1 0, e1 806 (.iload_n 3) 1 3, ec 807 (.iconst 1) 1 1, e0 808 (.iadd) 1, e0 809 (.iaload) 1, e1 810 (.aload_n 0) 1 0, e1 811 (.iload_n 3) 1 3, ec 812 (.iconst 2) 1 2, e0 813 (.iadd) 1, e0 814 (.iaload) 1, e1 815 (.aload_n 0) 1 0, e1 816 (.iload_n 3) 1 3, ec 817 (.iconst 3) 1 3, e0 818 (.iadd) 1, e0 819 (.iaload) 1, ei 820 (.invokevirtual 76) 3 22 235 4 0, e1 823 (.if_icmp .eq 1580) 3 2403, ec 826 (.iconst 0) 1 0, e1 827 (.ireturn) 1 1], 828),
  (828, [true, true, true, true], [e1 828 (.aload_n 1) 1 1, e1 829 (.aload_n 0) 1 0, e1 830 (.iload_n 3) 1 3, ec 831 (.iconst 1) 1 1, e0 832 (.iadd) 1, e0 833 (.iaload) 1, e1 834 (.aload_n 0) 1 0, e1 835 (.iload_n 3) 1 3, ec 836 (.iconst 2) 1 2, e0 837 (.iadd) 1, e0 838 (.iaload) 1, ei 839 (.invokevirtual 77) 3 21 140 3 0, e1 842 (.aload_n 2) 1 2, e1 843 (.aload_n 0) 1 0, e1 844 (.iload_n 3) 1 3, ec 845 (.iconst 1) 1 1, e0 846 (.iadd) 1, e0 847 (.iaload) 1, e1 848 (.aload_n 0) 1 0, e1 849 (.iload_n 3) 1 3, ec 850 (.iconst 2) 1 2, e0 851 (.iadd) 1, e0 852 (.iaload) 1, ei 853 (.invokevirtual 80) 3 22 237 3 0, e1 856 (.if_icmp .eq 1547) 3 2403, ec 859 (.iconst 0) 1 0, e1 860 (.ireturn) 1 1], 861),
  (861, [true, true, true, true], [e1 861 (.aload_n 1) 1 1, e1 862 (.aload_n 0) 1 0, e1 863 (.iload_n 3) 1 3, ec 864 (.iconst 1) 1 1, e0 865 (.iadd) 1, e0 866 (.iaload) 1, e1 867 (.aload_n 0) 1 0, e1 868 (.iload_n 3) 1 3, ec 869 (.iconst 2) 1 2, e0 870 (.iadd) 1, e0 871 (.iaload) 1, e1 872 (.aload_n 0) 1 0, e1 873 (.iload_n 3) 1 3, ec 874 (.iconst 3) 1 3, e0 875 (.iadd) 1, e0 876 (.iaload) 1, ei 877 (.invokevirtual 81) 3 21 141 4 0, e1 880 (.aload_n 2) 1 2, e1 881 (.aload_n 0) 1 0, e1 882 (.iload_n 3) 1 3, ec 883 (.iconst 1) 1 1, e0 884 (.iadd) 1, e0 885 (.iaload) 1, e1 886 (.aload_n 0) 1 0, e1 887 (.iload_n 3) 1 3, ec 888 (.iconst 2) 1 2, e0 889 (.iadd) 1, e0 890 (.iaload) 1, e1 891 (.aload_n 0) 1 0, e1 892 (.iload_n 3) 1 3, ec 893 (.iconst 3) 1 3, e0 894 (.iadd) 1, e0 895 (.iaload) 1, ei 896 (.invokevirtual 84) 3 22 238 4 0, e1 899 (.if_icmp .eq 1504) 3 2403, ec 902 (.iconst 0) 1 0, e1 903 (.ireturn) 1 1], 904),
  (904, [true, true, true, true], [e1 904 (.aload_n 1) 1 1, e1 905 (.aload_n 0) 1 0, e1 906 (.iload_n 3) 1 3, ec 907 (.iconst 1) 1 1, e0 908 (.iadd) 1, e0 909 (.iaload) 1, e1 910 (.aload_n 0) 1 0, e1 911 (.iload_n 3) 1 3, ec 912 (.iconst 2) 1 2, e0 913 (.iadd) 1, e0 914 (.iaload) 1, e1 915 (.ifCond .eq 7) 3 922, ec 918 (.iconst 1) 1 1, e1 919 (.goto 4) 3 923], 922),
  (922, [true, true, true, true], [ec 922 (.iconst 0) 1 0], 923),
  (923, [true, true, true, true], [ei 923 (.invokevirtual 85) 3 21 142 3 0, e1 926 (.aload_n 2) 1 2, e1 927 (.aload_n 0) 1 0, e1 928 (.iload_n 3) 1 3, ec 929 (.iconst 1) 1 1, e0 930 (.iadd) 1, e0 931 (.iaload) 1, e1 932 (.aload_n 0) 1 0, e1 933 (.iload_n 3) 1 3, ec 934 (.iconst 2) 1 2, e0 935 (.iadd) 1, e0 936 (.iaload) 1, e1 937 (.ifCond .eq 7) 3 944, ec 940 (.iconst 1) 1 1, e1 941 (.goto 4) 3 945], 944),
  (944, [true, true, true, true], [ec 944 (.iconst 0) 1 0], 945),
  (945, [true, true, true, true], [ei 945 (.invokevirtual 89) 3 22 239 3 0, e1 948 (.if_icmp .eq 1455) 3 2403, ec 951 (.iconst 0) 1 0, e1 952 (.ireturn) 1 1], 953),
  (953, [true, true, true, true], [e1 953 (.aload_n 1) 1 1, e1 954 (.aload_n 0) 1 0, e1 955 (.iload_n 3) 1 3, ec 956 (.iconst 1) 1 1, e0 957 (.iadd) 1, e0 958 (.iaload) 1, e1 959 (.aload_n 0) 1 0, e1 960 (.iload_n 3) 1 3, ec 961 (.iconst 2) 1 2, e0 962 (.iadd) 1, e0 963 (.iaload) 1, e0 964 (.i2l) 1, ec 965 (.bipush 32) 2 32, e0 967 (.lshl) 1, e1 968 (.aload_n 0) 1 0, e1 969 (.iload_n 3) 1 3, ec 970 (.iconst 3) 1 3, e0 971 (.iadd) 1, e0 972 (.iaload) 1, e0 973 (.i2l) 1, ec 974 (.ldc2_w 28) 3 4294967295, e0 977 (.land) 1, e0 978 (.lor) 1, ei 979 (.invokevirtual 90) 3 21 143 3 0, e1 982 (.aload_n 2) 1 2, e1 983 (.aload_n 0) 1 0, e1 984 (.iload_n 3) 1 3, ec 985 (.iconst 1) 1 1, e0 986 (.iadd) 1, e0 987 (.iaload) 1, e1 988 (.aload_n 0) 1 0, e1 989 (.iload_n 3) 1 3, ec 990 (.iconst 2) 1 2, e0 991 (.iadd) 1, e0 992 (.iaload) 1, e0 993 (.i2l) 1, ec 994 (.bipush 32) 2 32, e0 996 (.lshl) 1, e1 997 (.aload_n 0) 1 0, e1 998 (.iload_n 3) 1 3, ec 999 (.iconst 3) 1 3, e0 1000 (.iadd) 1, e0 1001 (.iaload) 1, e0 1002 (.i2l) 1, ec 1003 (.ldc2_w 28) 3 4294967295, e0 1006 (.land) 1, e0 1007 (.lor) 1, ei 1008 (.invokevirtual 94) 3 22 240 3 0, e1 1011 (.if_icmp .eq 1392) 3 2403, ec 1014 (.iconst 0) 1 0, e1 1015 (.ireturn) 1 1], 1016),
  (1016, [true, true, true, true], [e1 1016 (.aload_n 1) 1 1, e1 1017 (.aload_n 0) 1 0, e1 1018 (.iload_n 3) 1 3, ec 1019 (.iconst 1) 1 1, e0 1020 (.iadd) 1, e0 1021 (.iaload) 1, e1 1022 (.aload_n 0) 1 0, e1 1023 (.iload_n 3) 1 3, ec 1024 (.iconst 2) 1 2, e0 1025 (.iadd) 1, e0 1026 (.iaload) 1, e1 1027 (.aload_n 0) 1 0, e1 1028 (.iload_n 3) 1 3, ec 1029 (.iconst 3) 1 3, e0 1030 (.iadd) 1, e0 1031 (.iaload) 1, e1 1032 (.ifCond .eq 7) 3 1039, ec 1035 (.iconst 1) 1 1, e1 1036 (.goto 4) 3 1040], 1039),
  (1039, [true, true, true, true], [ec 1039 (.iconst 0) 1 0], 1040),
  (1040, [true, true, true, true], [ei 1040 (.invokevirtual 95) 3 21 144 4 0, e1 1043 (.aload_n 2) 1 2, e1 1044 (.aload_n 0) 1 0, e1 1045 (.iload_n 3) 1 3, ec 1046 (.iconst 1) 1 1, e0 1047 (.iadd) 1, e0 1048 (.iaload) 1, e1 1049 (.aload_n 0) 1 0, e1 1050 (.iload_n 3) 1 3, ec 1051 (.iconst 2) 1 2, e0 1052 (.iadd) 1, e0 1053 (.iaload) 1, e1 1054 (.aload_n 0) 1 0, e1 1055 (.iload_n 3) 1 3, ec 1056 (.iconst 3) 1 3, e0 1057 (.iadd) 1, e0 1058 (.iaload) 1, e1 1059 (.ifCond .eq 7) 3 1066, ec 1062 (.iconst 1) 1 1, e1 1063 (.goto 4) 3 1067], 1066),
  (1066, [true, true, true, true], [ec 1066 (.iconst 0) 1 0], 1067),
  (1067, [true, true, true, true], [ei 1067 (.invokevirtual 99) 3 22 241 4 0, e1 1070 (.if_icmp .eq 1333) 3 2403, ec 1073 (.iconst 0) 1 0, e1 1074 (.ireturn) 1 1], 1075),
  (1075, [true, true, true, true], [e1 1075 (.aload_n 1) 1 1, e1 1076 (.aload_n 0) 1 0, e1 1077 (.iload_n 3) 1 3, ec 1078 (.iconst 1) 1 1, e0 1079 (.iadd) 1, e0 1080 (.iaload) 1, e1 1081 (.aload_n 0) 1 0, e1 1082 (.iload_n 3) 1 3, ec 1083 (.iconst 2) 1 2, e0 1084 (.iadd) 1, e0 1085 (.iaload) 1, ei 1086 (.invokevirtual 100) 3 21 145 3 0, e1 1089 (.aload_n 2) 1 2, e1 1090 (.aload_n 0) 1 0, e1 1091 (.iload_n 3) 1 3, ec 1092 (.iconst 1) 1 1, e0 1093 (.iadd) 1, e0 1094 (.iaload) 1, e1 1095 (.aload_n 0) 1 0, e1 1096 (.iload_n 3) 1 3, ec 1097 (.iconst 2) 1 2, e0 1098 (.iadd) 1, e0 1099 (.iaload) 1, ei 1100 (.invokevirtual 103) 3 22 242 3 0, e1 1103 (.if_icmp .eq 1300) 3 2403, ec 1106 (.iconst 0) 1 0, e1 1107 (.ireturn) 1 1], 1108),
  (1108, [true, true, true, true], [e1 1108 (.aload_n 1) 1 1, ei 1109 (.invokevirtual 104) 3 21 146 1 0, e1 1112 (.aload_n 2) 1 2, ei 1113 (.invokevirtual 108) 3 22 249 1 0, e1 1116 (.if_icmp .eq 1287) 3 2403, ec 1119 (.iconst 0) 1 0, e1 1120 (.ireturn) 1 1], 1121),
  (1121, [true, true, true, true], [e1 1121 (.aload_n 1) 1 1, e1 1122 (.aload_n 0) 1 0, e1 1123 (.iload_n 3) 1 3, ec 1124 (.iconst 1) 1 1, e0 1125 (.iadd) 1, e0 1126 (.iaload) 1, ei 1127 (.invokevirtual 109) 3 21 147 2 1, e1 1130 (.aload_n 2) 1 2, e1 1131 (.aload_n 0) 1 0, e1 1132 (.iload_n 3) 1 3, ec 1133 (.iconst 1) 1 1, e0 1134 (.iadd) 1, e0 1135 (.iaload) 1, ei 1136 (.invokevirtual 113) 3 22 250 2 1, e0 1139 (.lcmp) 1, e1 1140 (.ifCond .eq 1263) 3 2403, ec 1143 (.iconst 0) 1 0, e1 1144 (.ireturn) 1 1], 1145),
  (1145, [true, true, true, true], [e1 1145 (.aload_n 1) 1 1, e1 1146 (.aload_n 0) 1 0, e1 1147 (.iload_n 3) 1 3, ec 1148 (.iconst 1) 1 1, e0 1149 (.iadd) 1, e0 1150 (.iaload) 1, ei 1151 (.invokevirtual 114) 3 21 148 2 0, e1 1154 (.aload_n 2) 1 2, e1 1155 (.aload_n 0) 1 0, e1 1156 (.iload_n 3) 1 3, ec 1157 (.iconst 1) 1 1, e0 1158 (.iadd) 1, e0 1159 (.iaload) 1, ei 1160 (.invokevirtual 117) 3 22 259 2 0, e1 1163 (.if_icmp .eq 1240) 3 2403, ec 1166 (.iconst 0) 1 0, e1 1167 (.ireturn) 1 1], 1168),
  (1168, [true, true, true, true], [e1 1168 (.aload_n 1) 1 1, e1 1169 (.aload_n 0) 1 0, e1 1170 (.iload_n 3) 1 3, ec 1171 (.iconst 1) 1 1, e0 1172 (.iadd) 1, e0 1173 (.iaload) 1, e1 1174 (.aload_n 0) 1 0, e1 1175 (.iload_n 3) 1 3, ec 1176 (.iconst 2) 1 2, e0 1177 (.iadd) 1, e0 1178 (.iaload) 1, e1 1179 (.aload_n 0) 1 0, e1 1180 (.iload_n 3) 1 3, ec 1181 (.iconst 3) 1 3, e0 1182 (.iadd) 1, e0 1183 (.iaload) 1, ei 1184 (.invokevirtual 118) 3 21 149 4 0, e1 1187 (.aload_n 2) 1 2, e1 1188 (.aload_n 0) 1 0, e1 1189 (.iload_n 3) 1 3, ec 1190 (.iconst 1) 1 1, e0 1191 (.iadd) 1, e0 1192 (.iaload) 1, e1 1193 (.aload_n 0) 1 0, e1 1194 (.iload_n 3) 1 3, ec 1195 (.iconst 2) 1 2, e0 1196 (.iadd) 1, e0 1197 (.iaload) 1, e1 1198 (.aload_n 0) 1 0, e1 1199 (.iload_n 3) 1 3, ec 1200 (.iconst 3) 1 3, e0 1201 (.iadd) 1, e0 1202 (.iaload) 1, ei 1203 (.invokevirtual 121) 3 22 261 4 0, e1 1206 (.if_icmp .eq 1197) 3 2403, ec 1209 (.iconst 0) 1 0, e1 1210 (.ireturn) 1 1], 1211),
  (1211, [true, true, true, true], [e1 1211 (.aload_n 1) 1 1, e1 1212 (.aload_n 0) 1 0, e1 1213 (.iload_n 3) 1 3, ec 1214 (.iconst 1) 1 1, e0 1215 (.iadd) 1, e0 1216 (.iaload) 1, e1 1217 (.aload_n 0) 1 0, e1 1218 (.iload_n 3) 1 3, ec 1219 (.iconst 2) 1 2, e0 1220 (.iadd) 1, e0 1221 (.iaload) 1, e1 1222 (.aload_n 0) 1 0, e1 1223 (.iload_n 3) 1 3, ec 1224 (.iconst 3) 1 3, e0 1225 (.iadd) 1, e0 1226 (.iaload) 1, ei 1227 (.invokevirtual 122) 3 21 150 4 0, e1 1230 (.aload_n 2) 1 2, e1 1231 (.aload_n 0) 1 0, e1 1232 (.iload_n 3) 1 3, ec 1233 (.iconst 1) 1 1, e0 1234 (.iadd) 1, e0 1235 (.iaload) 1, e1 1236 (.aload_n 0) 1 0, e1 1237 (.iload_n 3) 1 3, ec 1238 (.iconst 2) 1 2, e0 1239 (.iadd) 1, e0 1240 (.iaload) 1, e1 1241 (.aload_n 0) 1 0, e1 1242 (.iload_n 3) 1 3, ec 1243 (.iconst 3) 1 3, e0 1244 (.iadd) 1, e0 1245 (.iaload) 1, ei 1246 (.invokevirtual 125) 3 22 262 4 0, e1 1249 (.if_icmp .eq 1154) 3 2403, ec 1252 (.iconst 0) 1 0, e1 1253 (.ireturn) 1 1], 1254),
  (1254, [true, true, true, true], [e1 1254 (.aload_n 1) 1 1, e1 1255 (.aload_n 0) 1 0, e1 1256 (.iload_n 3) 1 3, ec 1257 (.iconst 1) 1 1, e0 1258 (.iadd) 1, e0 1259 (.iaload) 1, e1 1260 (.aload_n 0) 1 0, e1 1261 (.iload_n 3) 1 3, ec 1262 (.iconst 2) 1 2, e0 1263 (.iadd) 1, e0 1264 (.iaload) 1, e1 1265 (.aload_n 0) 1 0, e1 1266 (.iload_n 3) 1 3, ec 1267 (.iconst 3) 1 3, e0 1268 (.iadd) 1, e0 1269 (.iaload) 1, ei 1270 (.invokevirtual 126) 3 21 151 4 0, e1 1273 (.aload_n 2) 1 2, e1 1274 (.aload_n 0) 1 0, e1 1275 (.iload_n 3) 1 3, ec 1276 (.iconst 1) 1 1, e0 1277 (.iadd) 1, e0 1278 (.iaload) 1, e1 1279 (.aload_n 0) 1 0, e1 1280 (.iload_n 3) 1 3, ec 1281 (.iconst 2) 1 2, e0 1282 (.iadd) 1, e0 1283 (.iaload) 1, e1 1284 (.aload_n 0) 1 0, e1 1285 (.iload_n 3) 1 3, ec 1286 (.iconst 3) 1 3, e0 1287 (.iadd) 1, e0 1288 (.iaload) 1, ei 1289 (.invokevirtual 129) 3 22 263 4 0, e1 1292 (.if_icmp .eq 1111) 3 2403, ec 1295 (.iconst 0) 1 0, e1 1296 (.ireturn) 1 1], 1297),
  (1297, [true, true, true, true], [e1 1297 (.aload_n 1) 1 1, e1 1298 (.aload_n 0) 1 0, e1 1299 (.iload_n 3) 1 3, ec 1300 (.iconst 1) 1 1, e0 1301 (.iadd) 1, e0 1302 (.iaload) 1, e1 1303 (.aload_n 0) 1 0, e1 1304 (.iload_n 3) 1 3, ec 1305 (.iconst 2) 1 2, e0 1306 (.iadd) 1, e0 1307 (.iaload) 1, e1 1308 (.aload_n 0) 1 0, e1 1309 (.iload_n 3) 1 3, ec 1310 (.iconst 3) 1 3, e0 1311 (.iadd) 1, e0 1312 (.iaload) 1, ei 1313 (.invokevirtual 130) 3 21 152 4 0, e1 1316 (.aload_n 2) 1 2, e1 1317 (.aload_n 0) 1 0, e1 1318 (.iload_n 3) 1 3, ec 1319 (.iconst 1) 1 1, e0 1320 (.iadd) 1, e0 1321 (.iaload) 1, e1 1322 (.aload_n 0) 1 0, e1 1323 (.iload_n 3) 1 3, ec 1324 (.iconst 2) 1 2, e0 1325 (.iadd) 1, e0 1326 (.iaload) 1, e1 1327 (.aload_n 0) 1 0, e1 1328 (.iload_n 3) 1 3, ec 1329 (.iconst 3) 1 3, e0 1330 (.iadd) 1, e0 1331 (.iaload) 1, ei 1332 (.invokevirtual 133) 3 22 266 4 0, e1 1335 (.if_icmp .eq 1068) 3 2403, ec 1338 (.iconst 0) 1 0, e1 1339 (.ireturn) 1 1], 1340),
  (1340, [true, true, true, true], [e1 1340 (.aload_n 1) 1 1, e1 1341 (.aload_n 0) 1 0, e1 1342 (.iload_n 3) 1 3, ec 1343 (.iconst 1) 1 1, e0 1344 (.iadd) 1, e0 1345 (.iaload) 1, e1 1346 (.aload_n 0) 1 0, e1 1347 (.iload_n 3) 1 3, ec 1348 (.iconst 2) 1 2, e0 1349 (.iadd) 1, e0 1350 (.iaload) 1, e1 1351 (.aload_n 0) 1 0, e1 1352 (.iload_n 3) 1 3, ec 1353 (.iconst 3) 1 3, e0 1354 (.iadd) 1, e0 1355 (.iaload) 1, ei 1356 (.invokevirtual 134) 3 21 153 4 0, e1 1359 (.aload_n 2) 1 2, e1 1360 (.aload_n 0) 1 0, e1 1361 (.iload_n 3) 1 3, ec 1362 (.iconst 1) 1 1, e0 1363 (.iadd) 1, e0 1364 (.iaload) 1, e1 1365 (.aload_n 0) 1 0, e1 1366 (.iload_n 3) 1 3, ec 1367 (.iconst 2) 1 2, e0 1368 (.iadd) 1, e0 1369 (.iaload) 1, e1 1370 (.aload_n 0) 1 0, e1 1371 (.iload_n 3) 1 3, ec 1372 (.iconst 3) 1 3, e0 1373 (.iadd) 1, e0 1374 (.iaload) 1, ei 1375 (.invokevirtual 137) 3 22 267 4 0, e1 1378 (.if_icmp .eq 1025) 3 2403, ec 1381 (.iconst 0) 1 0, e1 1382 (.ireturn) 1 1], 1383),
  (1383, [true, true, true, true], [e1 1383 (.aload_n 1) 1 1, e1 1384 (.aload_n 0) 1 0, e1 1385 (.iload_n 3) 1 3, ec 1386 (.iconst 1) 1 1, e0 1387 (.iadd) 1, e0 1388 (.iaload) 1, e1 1389 (.aload_n 0) 1 0, e1 1390 (.iload_n 3) 1 3, ec 1391 (.iconst 2) 1 2, e0 1392 (.iadd) 1, e0 1393 (.iaload) 1, e1 1394 (.aload_n 0) 1 0, e1 1395 (.iload_n 3) 1 3, ec 1396 (.iconst 3) 1 3, e0 1397 (.iadd) 1, e0 1398 (.iaload) 1, ei 1399 (.invokevirtual 138) 3 21 155 4 0, e1 1402 (.aload_n 2) 1 2, e1 1403 (.aload_n 0) 1 0, e1 1404 (.iload_n 3) 1 3, ec 1405 (.iconst 1) 1 1, e0 1406 (.iadd) 1, e0 1407 (.iaload) 1, e1 1408 (.aload_n 0) 1 0, e1 1409 (.iload_n 3) 1 3, ec 1410 (.iconst 2) 1 2, e0 1411 (.iadd) 1, e0 1412 (.iaload) 1, e1 1413 (.aload_n 0) 1 0, e1 1414 (.iload_n 3) 1 3, ec 1415 (.iconst 3) 1 3, e0 1416 (.iadd) 1, e0 1417 (.iaload) 1, ei 1418 (.invokevirtual 141) 3 22 270 4 0, e1 1421 (.if_icmp .eq 982) 3 2403, ec 1424 (.iconst 0) 1 0, e1 1425 (.ireturn) 1 1], 1426),
  (1426, [true, true, true, true], [e1 1426 (.aload_n 1) 1 1, e1 1427 (.aload_n 0) 1 0, e1 1428 (.iload_n 3) 1 3, ec 1429 (.iconst 1) 1 1, e0 1430 (.iadd) 1, e0 1431 (.iaload) 1, e1 1432 (.aload_n 0) 1 0, e1 1433 (.iload_n 3) 1 3, ec 1434 (.iconst 2) 1 2, e0 1435 (.iadd) 1, e0 1436 (.iaload) 1, e1 1437 (.aload_n 0) 1 0, e1 1438 (.iload_n 3) 1 3, ec 1439 (.iconst 3) 1 3, e0 1440 (.iadd) 1, e0 1441 (.iaload) 1, e1 1442 (.aload_n 0) 1 0, e1 1443 (.iload_n 3) 1 3, ec 1444 (.iconst 4) 1 4, e0 1445 (.iadd) 1, e0 1446 (.iaload) 1, ei 1447 (.invokevirtual 142) 3 21 156 5 0, e1 1450 (.aload_n 2) 1 2, e1 1451 (.aload_n 0) 1 0, e1 1452 (.iload_n 3) 1 3, ec 1453 (.iconst 1) 1 1, e0 1454 (.iadd) 1, e0 1455 (.iaload) 1, e1 1456 (.aload_n 0) 1 0, e1 1457 (.iload_n 3) 1 3, ec 1458 (.iconst 2) 1 2, e0 1459 (.iadd) 1, e0 1460 (.iaload) 1, e1 1461 (.aload_n 0) 1 0, e1 1462 (.iload_n 3) 1 3, ec 1463 (.iconst 3) 1 3, e0 1464 (.iadd) 1, e0 1465 (.iaload) 1, e1 1466 (.aload_n 0) 1 0, e1 1467 (.iload_n 3) 1 3, ec 1468 (.iconst 4) 1 4, e0 1469 (.iadd) 1, e0 1470 (.iaload) 1, ei 1471 (.invokevirtual 146) 3 22 271 5 0, e1 1474 (.if_icmp .eq 929) 3 2403, ec 1477 (.iconst 0) 1 0, e1 1478 (.ireturn) 1 1], 1479),
  (1479, [true, true, true, true], [e1 1479 (.aload_n 1) 1 1, e1 1480 (.aload_n 0) 1 0, e1 1481 (.iload_n 3) 1 3, ec 1482 (.iconst 1) 1 1, e0 1483 (.iadd) 1, e0 1484 (.iaload) 1, e1 1485 (.aload_n 0) 1 0, e1 1486 (.iload_n 3) 1 3, ec 1487 (.iconst 2) 1 2, e0 1488 (.iadd) 1, e0 1489 (.iaload) 1, ei 1490 (.invokevirtual 147) 3 21 157 3 0, e1 1493 (.aload_n 2) 1 2, e1 1494 (.aload_n 0) 1 0, e1 1495 (.iload_n 3) 1 3, ec 1496 (.iconst 1) 1 1, e0 1497 (.iadd) 1, e0 1498 (.iaload) 1, e1 1499 (.aload_n 0) 1 0, e1 1500 (.iload_n 3) 1 3, ec 1501 (.iconst 2) 1 2, e0 1502 (.iadd) 1, e0 1503 (.iaload) 1, ei 1504 (.invokevirtual 150) 3 22 272 3 0, e1 1507 (.if_icmp .eq 896) 3 2403, ec 1510 (.iconst 0) 1 0, e1 1511 (.ireturn) 1 1], 1512),
  (1512, [true, true, true, true], [e1 1512 (.aload_n 1) 1 1, e1 1513 (.aload_n 0) 1 0, e1 1514 (.iload_n 3) 1 3, ec 1515 (.iconst 1) 1 1, e0 1516 (.iadd) 1, e0 1517 (.iaload) 1, e1 1518 (.aload_n 0) 1 0, e1 1519 (.iload_n 3) 1 3, ec 1520 (.iconst 2) 1 2, e0 1521 (.iadd) 1, e0 1522 (.iaload) 1, ei 1523 (.invokevirtual 151) 3 21 158 3 0, e1 1526 (.aload_n 2) 1 2, e1 1527 (.aload_n 0) 1 0, e1 1528 (.iload_n 3) 1 3, ec 1529 (.iconst 1) 1 1, e0 1530 (.iadd) 1, e0 1531 (.iaload) 1, e1 1532 (.aload_n 0) 1 0, e1 1533 (.iload_n 3) 1 3, ec 1534 (.iconst 2) 1 2, e0 1535 (.iadd) 1, e0 1536 (.iaload) 1, ei 1537 (.invokevirtual 154) 3 22 273 3 0, e1 1540 (.if_icmp .eq 863) 3 2403, ec 1543 (.iconst 0) 1 0, e1 1544 (.ireturn) 1 1], 1545),
  (1545, [true, true, true, true], [e1 1545 (.aload_n 1) 1 1, e1 1546 (.aload_n 0) 1 0, e1 1547 (.iload_n 3) 1 3, ec 1548 (.iconst 1) 1 1, e0 1549 (.iadd) 1, e0 1550 (.iaload) 1, e1 1551 (.aload_n 0) 1 0, e1 1552 (.iload_n 3) 1 3, ec 1553 (.iconst 2) 1 2, e0 1554 (.iadd) 1, e0 1555 (.iaload) 1, e1 1556 (.aload_n 0) 1 0, e1 1557 (.iload_n 3) 1 3, ec 1558 (.iconst 3) 1 3, e0 1559 (.iadd) 1, e0 1560 (.iaload) 1, e1 1561 (.ifCond .eq 7) 3 1568, ec 1564 (.iconst 1) 1 1, e1 1565 (.goto 4) 3 1569], 1568),
  (1568, [true, true, true, true], [ec 1568 (.iconst 0) 1 0], 1569),
  (1569, [true, true, true, true], [ei 1569 (.invokevirtual 155) 3 21 159 4 0, e1 1572 (.aload_n 2) 1 2, e1 1573 (.aload_n 0) 1 0, e1 1574 (.iload_n 3) 1 3, ec 1575 (.iconst 1) 1 1, e0 1576 (.iadd) 1, e0 1577 (.iaload) 1, e1 1578 (.aload_n 0) 1 0, e1 1579 (.iload_n 3) 1 3, ec 1580 (.iconst 2) 1 2, e0 1581 (.iadd) 1, e0 1582 (.iaload) 1, e1 1583 (.aload_n 0) 1 0, e1 1584 (.iload_n 3) 1 3, ec 1585 (.iconst 3) 1 3, e0 1586 (.iadd) 1, e0 1587 (.iaload) 1, e1 1588 (.ifCond .eq 7) 3 1595, ec 1591 (.iconst 1) 1 1, e1 1592 (.goto 4) 3 1596], 1595),
  (1595, [true, true, true, true], [ec 1595 (.iconst 0) 1 0], 1596),
  (1596, [true, true, true, true], [ei 1596 (.invokevirtual 158) 3 22 276 4 0, e1 1599 (.if_icmp .eq 804) 3 2403, ec 1602 (.iconst 0) 1 0, e1 1603 (.ireturn) 1 1], 1604),
  (1604, [true, true, true, true], [e1 1604 (.aload_n 1) 1 1, e1 1605 (.aload_n 0) 1 0, e1 1606 (.iload_n 3) 1 3, ec 1607 (.iconst 1) 1 1, e0 1608 (.iadd) 1, e0 1609 (.iaload) 1, e1 1610 (.aload_n 0) 1 0, e1 1611 (.iload_n 3) 1 3, ec 1612 (.iconst 2) 1 2, e0 1613 (.iadd) 1, e0 1614 (.iaload) 1, e1 1615 (.aload_n 0) 1 0, e1 1616 (.iload_n 3) 1 3, ec 1617 (.iconst 3) 1 3, e0 1618 (.iadd) 1, e0 1619 (.iaload) 1, e1 1620 (.ifCond .eq 7) 3 1627, ec 1623 (.iconst 1) 1 1, e1 1624 (.goto 4) 3 1628], 1627),
  (1627, [true, true, true, true], [ec 1627 (.iconst 0) 1 0], 1628),
  (1628, [true, true, true, true], [ei 1628 (.invokevirtual 159) 3 21 160 4 0, e1 1631 (.aload_n 2) 1 2, e1 1632 (.aload_n 0) 1 0, e1 1633 (.iload_n 3) 1 3, ec 1634 (.iconst 1) 1 1, e0 1635 (.iadd) 1, e0 1636 (.iaload) 1, e1 1637 (.aload_n 0) 1 0, e1 1638 (.iload_n 3) 1 3, ec 1639 (.iconst 2) 1 2, e0 1640 (.iadd) 1, e0 1641 (.iaload) 1, e1 1642 (.aload_n 0) 1 0, e1 1643 (.iload_n 3) 1 3, ec 1644 (.iconst 3) 1 3, e0 1645 (.iadd) 1, e0 1646 (.iaload) 1, e1 1647 (.ifCond .eq 7) 3 1654, ec 1650 (.iconst 1) 1 1, e1 1651 (.goto 4) 3 1655], 1654),
  (1654, [true, true, true, true], [ec 1654 (.iconst 0) 1 0], 1655),
  (1655, [true, true, true, true], [ei 1655 (.invokevirtual 162) 3 22 277 4 0, e1 1658 (.if_icmp .eq 745) 3 2403, ec 1661 (.iconst 0) 1 0, e1 1662 (.ireturn) 1 1], 1663),
  (1663, [true, true, true, true], [e1 1663 (.aload_n 1) 1 1, e1 1664 (.aload_n 0) 1 0, e1 1665 (.iload_n 3) 1 3, ec 1666 (.iconst 1) 1 1, e0 1667 (.iadd) 1, e0 1668 (.iaload) 1, e1 1669 (.aload_n 0) 1 0, e1 1670 (.iload_n 3) 1 3, ec 1671 (.iconst 2) 1 2, e0 1672 (.iadd) 1, e0 1673 (.iaload) 1, ei 1674 (.invokevirtual 163) 3 21 161 3 0, e1 1677 (.aload_n 2) 1 2, e1 1678 (.aload_n 0) 1 0, e1 1679 (.iload_n 3) 1 3, ec 1680 (.iconst 1) 1 1, e0 1681 (.iadd) 1, e0 1682 (.iaload) 1, e1 1683 (.aload_n 0) 1 0, e1 1684 (.iload_n 3) 1 3, ec 1685 (.iconst 2) 1 2, e0 1686 (.iadd) 1, e0 1687 (.iaload) 1, ei 1688 (.invokevirtual 166) 3 22 280 3 0, e1 1691 (.if_icmp .eq 712) 3 2403, ec 1694 (.iconst 0) 1 0, e1 1695 (.ireturn) 1 1], 1696),
  (1696, [true, true, true, true], [e1 1696 (.aload_n 1) 1 1, e1 1697 (.aload_n 0) 1 0, e1 1698 (.iload_n 3) 1 3, ec 1699 (.iconst 1) 1 1, e0 1700 (.iadd) 1, e0 1701 (.iaload) 1, e1 1702 (.aload_n 0) 1 0, e1 1703 (.iload_n 3) 1 3, ec 1704 (.iconst 2) 1 2, e0 1705 (.iadd) 1, e0 1706 (.iaload) 1, e1 1707 (.aload_n 0) 1 0, e1 1708 (.iload_n 3) 1 3, ec 1709 (.iconst 3) 1 3, e0 1710 (.iadd) 1, e0 1711 (.iaload) 1, ei 1712 (.invokevirtual 167) 3 21 162 4 0, e1 1715 (.aload_n 2) 1 2, e1 1716 (.aload_n 0) 1 0, e1 1717 (.iload_n 3) 1 3, ec 1718 (.iconst 1) 1 1, e0 1719 (.iadd) 1, e0 1720 (.iaload) 1, e1 1721 (.aload_n 0) 1 0, e1 1722 (.iload_n 3) 1 3, ec 1723 (.iconst 2) 1 2, e0 1724 (.iadd) 1, e0 1725 (.iaload) 1, e1 1726 (.aload_n 0) 1 0, e1 1727 (.iload_n 3) 1 3, ec 1728 (.iconst 3) 1 3, e0 1729 (.iadd) 1, e0 1730 (.iaload) 1, ei 1731 (.invokevirtual 170) 3 22 281 4 0, e1 1734 (.if_icmp .eq 669) 3 2403, ec 1737 (.iconst 0) 1 0, e1 1738 (.ireturn) 1 1], 1739),
  (1739, [true, true, true, true], [e1 1739 (.aload_n 1) 1 1, e1 1740 (.aload_n 0) 1 0, e1 1741 (.iload_n 3) 1 3, ec 1742 (.iconst 1) 1 1, e0 1743 (.iadd) 1, e0 1744 (.iaload) 1, e1 1745 (.aload_n 0) 1 0, e1 1746 (.iload_n 3) 1 3, ec 1747 (.iconst 2) 1 2, e0 1748 (.iadd) 1, e0 1749 (.iaload) 1, ei 1750 (.invokevirtual 171) 3 21 164 3 0, e1 1753 (.aload_n 2) 1 2, e1 1754 (.aload_n 0) 1 0, e1 1755 (.iload_n 3) 1 3, ec 1756 (.iconst 1) 1 1, e0 1757 (.iadd) 1, e0 1758 (.iaload) 1, e1 1759 (.aload_n 0) 1 0, e1 1760 (.iload_n 3) 1 3, ec 1761 (.iconst 2) 1 2, e0 1762 (.iadd) 1, e0 1763 (.iaload) 1, ei 1764 (.invokevirtual 174) 3 22 282 3 0, e1 1767 (.if_icmp .eq 636) 3 2403, ec 1770 (.iconst 0) 1 0, e1 1771 (.ireturn) 1 1], 1772),
  (1772, [true, true, true, true], [e1 1772 (.aload_n 1) 1 1, e1 1773 (.aload_n 0) 1 0, e1 1774 (.iload_n 3) 1 3, ec 1775 (.iconst 1) 1 1, e0 1776 (.iadd) 1, e0 1777 (.iaload) 1, e1 1778 (.aload_n 0) 1 0, e1 1779 (.iload_n 3) 1 3, ec 1780 (.iconst 2) 1 2, e0 1781 (.iadd) 1, e0 1782 (.iaload) 1, e1 1783 (.aload_n 0) 1 0, e1 1784 (.iload_n 3) 1 3, ec 1785 (.iconst 3) 1 3, e0 1786 (.iadd) 1, e0 1787 (.iaload) 1, e1 1788 (.aload_n 0) 1 0, e1 1789 (.iload_n 3) 1 3, ec 1790 (.iconst 4) 1 4, e0 1791 (.iadd) 1, e0 1792 (.iaload) 1, e1 1793 (.aload_n 0) 1 0, e1 1794 (.iload_n 3) 1 3, ec 1795 (.iconst 5) 1 5, e0 1796 (.iadd) 1, e0 1797 (.iaload) 1, ei 1798 (.invokevirtual 175) 3 21 165 6 0, e1 1801 (.aload_n 2) 1 2, e1 1802 (.aload_n 0) 1 0, e1 1803 (.iload_n 3) 1 3, ec 1804 (.iconst 1) 1 1, e0 1805 (.iadd) 1, e0 1806 (.iaload) 1, e1 1807 (.aload_n 0) 1 0, e1 1808 (.iload_n 3) 1 3, ec 1809 (.iconst 2) 1 2, e0 1810 (.iadd) 1, e0 1811 (.iaload) 1, e1 1812 (.aload_n 0) 1 0, e1 1813 (.iload_n 3) 1 3, ec 1814 (.iconst 3) 1 3, e0 1815 (.iadd) 1, e0 1816 (.iaload) 1, e1 1817 (.aload_n 0) 1 0, e1 1818 (.iload_n 3) 1 3, ec 1819 (.iconst 4) 1 4, e0 1820 (.iadd) 1, e0 1821 (.iaload) 1, e1 1822 (.aload_n 0) 1 0, e1 1823 (.iload_n 3) 1 3, ec 1824 (.iconst 5) 1 5, e0 1825 (.iadd) 1, e0 1826 (.iaload) 1, ei 1827 (.invokevirtual 179) 3 22 283 6 0, e1 1830 (.if_icmp .eq 573) 3 2403, ec 1833 (.iconst 0) 1 0, e1 1834 (.ireturn) 1 1], 1835),
  (1835, [true, true, true, true], [e1 1835 (.aload_n 1) 1 1, ei 1836 (.invokevirtual 180) 3 21 166 1 0, e1 1839 (.aload_n 2) 1 2, ei 1840 (.invokevirtual 183) 3 22 284 1 0, e1 1843 (.if_icmp .eq 560) 3 2403, ec 1846 (.iconst 0) 1 0, e1 1847 (.ireturn) 1 1], 1848),
  (1848, [true, true, true, true], [e1 1848 (.aload_n 1) 1 1, e1 1849 (.aload_n 0) 1 0, e1 1850 (.iload_n 3) 1 3, ec 1851 (.iconst 1) 1 1, e0 1852 (.iadd) 1, e0 1853 (.iaload) 1, e1 1854 (.aload_n 0) 1 0, e1 1855 (.iload_n 3) 1 3, ec 1856 (.iconst 2) 1 2, e0 1857 (.iadd) 1, e0 1858 (.iaload) 1, e1 1859 (.aload_n 0) 1 0, e1 1860 (.iload_n 3) 1 3, ec 1861 (.iconst 3) 1 3, e0 1862 (.iadd) 1, e0 1863 (.iaload) 1, ei 1864 (.invokevirtual 184) 3 21 167 4 0, e1 1867 (.aload_n 2) 1 2, e1 1868 (.aload_n 0) 1 0, e1 1869 (.iload_n 3) 1 3, ec 1870 (.iconst 1) 1 1, e0 1871 (.iadd) 1, e0 1872 (.iaload) 1, e1 1873 (.aload_n 0) 1 0, e1 1874 (.iload_n 3) 1 3, ec 1875 (.iconst 2) 1 2, e0 1876 (.iadd) 1, e0 1877 (.iaload) 1, e1 1878 (.aload_n 0) 1 0, e1 1879 (.iload_n 3) 1 3, ec 1880 (.iconst 3) 1 3, e0 1881 (.iadd) 1, e0 1882 (.iaload) 1, ei 1883 (.invokevirtual 187) 3 22 286 4 0, e1 1886 (.if_icmp .eq 517) 3 2403, ec 1889 (.iconst 0) 1 0, e1 1890 (.ireturn) 1 1], 1891),
  (1891, [true, true, true, true], [e1 1891 (.aload_n 1) 1 1, e1 1892 (.aload_n 0) 1 0, e1 1893 (.iload_n 3) 1 3, ec 1894 (.iconst 1) 1 1, e0 1895 (.iadd) 1, e0 1896 (.iaload) 1, e1 1897 (.aload_n 0) 1 0, e1 1898 (.iload_n 3) 1 3, ec 1899 (.iconst 2) 1 2, e0 1900 (.iadd) 1, e0 1901 (.iaload) 1, e1 1902 (.aload_n 0) 1 0, e1 1903 (.iload_n 3) 1 3, ec 1904 (.iconst 3) 1 3, e0 1905 (.iadd) 1, e0 1906 (.iaload) 1, e1 1907 (.aload_n 0) 1 0, e1 1908 (.iload_n 3) 1 3, ec 1909 (.iconst 4) 1 4, e0 1910 (.iadd) 1, e0 1911 (.iaload) 1, e0 1912 (.i2l) 1, ec 1913 (.bipush 32) 2 32, e0 1915 (.lshl) 1, e1 1916 (.aload_n 0) 1 0, e1 1917 (.iload_n 3) 1 3, ec 1918 (.iconst 5) 1 5, e0 1919 (.iadd) 1, e0 1920 (.iaload) 1, e0 1921 (.i2l) 1, ec 1922 (.ldc2_w 28) 3 4294967295, e0 1925 (.land) 1, e0 1926 (.lor) 1, ei 1927 (.invokevirtual 188) 3 21 169 5 0, e1 1930 (.aload_n 2) 1 2, e1 1931 (.aload_n 0) 1 0, e1 1932 (.iload_n 3) 1 3, ec 1933 (.iconst 1) 1 1, e0 1934 (.iadd) 1, e0 1935 (.iaload) 1, e1 1936 (.aload_n 0) 1 0, e1 1937 (.iload_n 3) 1 3, ec 1938 (.iconst 2) 1 2, e0 1939 (.iadd) 1, e0 1940 (.iaload) 1, e1 1941 (.aload_n 0) 1 0, e1 1942 (.iload_n 3) 1 3, ec 1943 (.iconst 3) 1 3, e0 1944 (.iadd) 1, e0 1945 (.iaload) 1, e1 1946 (.aload_n 0) 1 0, e1 1947 (.iload_n 3) 1 3, ec 1948 (.iconst 4) 1 4, e0 1949 (.iadd) 1, e0 1950 (.iaload) 1, e0 1951 (.i2l) 1, ec 1952 (.bipush 32) 2 32, e0 1954 (.lshl) 1, e1 1955 (.aload_n 0) 1 0, e1 1956 (.iload_n 3) 1 3, ec 1957 (.iconst 5) 1 5, e0 1958 (.iadd) 1, e0 1959 (.iaload) 1, e0 1960 (.i2l) 1, ec 1961 (.ldc2_w 28) 3 4294967295, e0 1964 (.land) 1, e0 1965 (.lor) 1, ei 1966 (.invokevirtual 192) 3 22 290 5 0, e1 1969 (.if_icmp .eq 434) 3 2403, ec 1972 (.iconst 0) 1 0, e1 1973 (.ireturn) 1 1], 1974),
  (1974, [true, true, true, true], [e1 1974 (.aload_n 1) 1 1, e1 1975 (.aload_n 0) 1 0, e1 1976 (.iload_n 3) 1 3, ec 1977 (.iconst 1) 1 1, e0 1978 (.iadd) 1, e0 1979 (.iaload) 1, e1 1980 (.aload_n 0) 1 0, e1 1981 (.iload_n 3) 1 3, ec 1982 (.iconst 2) 1 2, e0 1983 (.iadd) 1, e0 1984 (.iaload) 1, e1 1985 (.aload_n 0) 1 0, e1 1986 (.iload_n 3) 1 3, ec 1987 (.iconst 3) 1 3, e0 1988 (.iadd) 1, e0 1989 (.iaload) 1, ei 1990 (.invokevirtual 193) 3 21 170 4 0, e1 1993 (.aload_n 2) 1 2, e1 1994 (.aload_n 0) 1 0, e1 1995 (.iload_n 3) 1 3, ec 1996 (.iconst 1) 1 1, e0 1997 (.iadd) 1, e0 1998 (.iaload) 1, e1 1999 (.aload_n 0) 1 0, e1 2000 (.iload_n 3) 1 3, ec 2001 (.iconst 2) 1 2, e0 2002 (.iadd) 1, e0 2003 (.iaload) 1, e1 2004 (.aload_n 0) 1 0, e1 2005 (.iload_n 3) 1 3, ec 2006 (.iconst 3) 1 3, e0 2007 (.iadd) 1, e0 2008 (.iaload) 1, ei 2009 (.invokevirtual 196) 3 22 291 4 0, e1 2012 (.if_icmp .eq 391) 3 2403, ec 2015 (.iconst 0) 1 0, e1 2016 (.ireturn) 1 1], 2017),
  (2017, [true, true, true, true], [e1 2017 (.aload_n 1) 1 1, e1 2018 (.aload_n 0) 1 0, e1 2019 (.iload_n 3) 1 3, ec 2020 (.iconst 1) 1 1, e0 2021 (.iadd) 1, e0 2022 (.iaload) 1, e1 2023 (.aload_n 0) 1 0, e1 2024 (.iload_n 3) 1 3, ec 2025 (.iconst 2) 1 2, e0 2026 (.iadd) 1, e0 2027 (.iaload) 1, e1 2028 (.aload_n 0) 1 0, e1 2029 (.iload_n 3) 1 3, ec 2030 (.iconst 3) 1 3, e0 2031 (.iadd) 1, e0 2032 (.iaload) 1, ei 2033 (.invokevirtual 197) 3 21 171 4 1, e1 2036 (.aload_n 2) 1 2, e1 2037 (.aload_n 0) 1 0, e1 2038 (.iload_n 3) 1 3, ec 2039 (.iconst 1) 1 1, e0 2040 (.iadd) 1, e0 2041 (.iaload) 1, e1 2042 (.aload_n 0) 1 0, e1 2043 (.iload_n 3) 1 3, ec 2044 (.iconst 2) 1 2, e0 2045 (.iadd) 1, e0 2046 (.iaload) 1, e1 2047 (.aload_n 0) 1 0, e1 2048 (.iload_n 3) 1 3, ec 2049 (.iconst 3) 1 3, e0 2050 (.iadd) 1, e0 2051 (.iaload) 1, ei 2052 (.invokevirtual 200) 3 22 292 4 1, e0 2055 (.lcmp) 1, e1 2056 (.ifCond .eq 347) 3 2403, ec 2059 (.iconst 0) 1 0, e1 2060 (.ireturn) 1 1], 2061),
  (2061, [true, true, true, true], [e1 2061 (.aload_n 1) 1 1, e1 2062 (.aload_n 0) 1 0, e1 2063 (.iload_n 3) 1 3, ec 2064 (.iconst 1) 1 1, e0 2065 (.iadd) 1, e0 2066 (.iaload) 1, e1 2067 (.aload_n 0) 1 0, e1 2068 (.iload_n 3) 1 3, ec 2069 (.iconst 2) 1 2, e0 2070 (.iadd) 1, e0 2071 (.iaload) 1, e1 2072 (.aload_n 0) 1 0, e1 2073 (.iload_n 3) 1 3, ec 2074 (.iconst 3) 1 3, e0 2075 (.iadd) 1, e0 2076 (.iaload) 1, e0 2077 (.i2l) 1, ec 2078 (.bipush 32) 2 32, e0 2080 (.lshl) 1, e1 2081 (.aload_n 0) 1 0, e1 2082 (.iload_n 3) 1 3, ec 2083 (.iconst 4) 1 4, e0 2084 (.iadd) 1, e0 2085 (.iaload) 1, e0 2086 (.i2l) 1, ec 2087 (.ldc2_w 28) 3 4294967295, e0 2090 (.land) 1, e0 2091 (.lor) 1, e1 2092 (.aload_n 0) 1 0, e1 2093 (.iload_n 3) 1 3, ec 2094 (.iconst 5) 1 5, e0 2095 (.iadd) 1, e0 2096 (.iaload) 1, ei 2097 (.invokevirtual 201) 3 21 172 5 0, e1 2100 (.aload_n 2) 1 2, e1 2101 (.aload_n 0) 1 0, e1 2102 (.iload_n 3) 1 3, ec 2103 (.iconst 1) 1 1, e0 2104 (.iadd) 1, e0 2105 (.iaload) 1, e1 2106 (.aload_n 0) 1 0, e1 2107 (.iload_n 3) 1 3, ec 2108 (.iconst 2) 1 2, e0 2109 (.iadd) 1, e0 2110 (.iaload) 1, e1 2111 (.aload_n 0) 1 0, e1 2112 (.iload_n 3) 1 3, ec 2113 (.iconst 3) 1 3, e0 2114 (.iadd) 1, e0 2115 (.iaload) 1, e0 2116 (.i2l) 1, ec 2117 (.bipush 32) 2 32, e0 2119 (.lshl) 1, e1 2120 (.aload_n 0) 1 0, e1 2121 (.iload_n 3) 1 3, ec 2122 (.iconst 4) 1 4, e0 2123 (.iadd) 1, e0 2124 (.iaload) 1, e0 2125 (.i2l) 1, ec 2126 (.ldc2_w 28) 3 4294967295, e0 2129 (.land) 1, e0 2130 (.lor) 1, e1 2131 (.aload_n 0) 1 0, e1 2132 (.iload_n 3) 1 3, ec 2133 (.iconst 5) 1 5, e0 2134 (.iadd) 1, e0 2135 (.iaload) 1, ei 2136 (.invokevirtual 205) 3 22 293 5 0, e1 2139 (.if_icmp .eq 264) 3 2403, ec 2142 (.iconst 0) 1 0, e1 2143 (.ireturn) 1 1], 2144),
  (2144, [true, true, true, true], [e1 2144 (.aload_n 1) 1 1, e1 2145 (.aload_n 0) 1 0, e1 2146 (.iload_n 3) 1 3, ec 2147 (.iconst 1) 1 1, e0 2148 (.iadd) 1, e0 2149 (.iaload) 1, e1 2150 (.aload_n 0) 1 0, e1 2151 (.iload_n 3) 1 3, ec 2152 (.iconst 2) 1 2, e0 2153 (.iadd) 1, e0 2154 (.iaload) 1, e1 2155 (.aload_n 0) 1 0, e1 2156 (.iload_n 3) 1 3, ec 2157 (.iconst 3) 1 3, e0 2158 (.iadd) 1, e0 2159 (.iaload) 1, e1 2160 (.ifCond .eq 7) 3 2167, ec 2163 (.iconst 1) 1 1, e1 2164 (.goto 4) 3 2168], 2167),
  (2167, [true, true, true, true], [ec 2167 (.iconst 0) 1 0], 2168),
  (2168, [true, true, true, true], [ei 2168 (.invokevirtual 206) 3 21 173 4 0, e1 2171 (.aload_n 2) 1 2, e1 2172 (.aload_n 0) 1 0, e1 2173 (.iload_n 3) 1 3, ec 2174 (.iconst 1) 1 1, e0 2175 (.iadd) 1, e0 2176 (.iaload) 1, e1 2177 (.aload_n 0) 1 0, e1 2178 (.iload_n 3) 1 3, ec 2179 (.iconst 2) 1 2, e0 2180 (.iadd) 1, e0 2181 (.iaload) 1, e1 2182 (.aload_n 0) 1 0, e1 2183 (.iload_n 3) 1 3, ec 2184 (.iconst 3) 1 3, e0 2185 (.iadd) 1, e0 2186 (.iaload) 1, e1 2187 (.ifCond .eq 7) 3 2194, ec 2190 (.iconst 1) 1 1, e1 2191 (.goto 4) 3 2195], 2194),
  (2194, [true, true, true, true], [ec 2194 (.iconst 0) 1 0], 2195),
  (2195, [true, true, true, true], [ei 2195 (.invokevirtual 209) 3 22 295 4 0, e1 2198 (.if_icmp .eq 205) 3 2403, ec 2201 (.iconst 0) 1 0, e1 2202 (.ireturn) 1 1], 2203),
  (2203, [true, true, true, true], [e1 2203 (.aload_n 1) 1 1, e1 2204 (.aload_n 0) 1 0, e1 2205 (.iload_n 3) 1 3, ec 2206 (.iconst 1) 1 1, e0 2207 (.iadd) 1, e0 2208 (.iaload) 1, e1 2209 (.aload_n 0) 1 0, e1 2210 (.iload_n 3) 1 3, ec 2211 (.iconst 2) 1 2, e0 2212 (.iadd) 1, e0 2213 (.iaload) 1, ei 2214 (.invokevirtual 210) 3 21 174 3 1, e1 2217 (.aload_n 2) 1 2, e1 2218 (.aload_n 0) 1 0, e1 2219 (.iload_n 3) 1 3, ec 2220 (.iconst 1) 1 1, e0 2221 (.iadd) 1, e0 2222 (.iaload) 1, e1 2223 (.aload_n 0) 1 0, e1 2224 (.iload_n 3) 1 3, ec 2225 (.iconst 2) 1 2, e0 2226 (.iadd) 1, e0 2227 (.iaload) 1, ei 2228 (.invokevirtual 213) 3 22 298 3 1, e0 2231 (.lcmp) 1, e1 2232 (.ifCond .eq 171) 3 2403, ec 2235 (.iconst 0) 1 0, e1 2236 (.ireturn) 1 1], 2237),
  (2237, [true, true, true, true], [e1 2237 (.aload_n 1) 1 1, e1 2238 (.aload_n 0) 1 0, e1 2239 (.iload_n 3) 1 3, ec 2240 (.iconst 1) 1 1, e0 2241 (.iadd) 1, e0 2242 (.iaload) 1, e1 2243 (.aload_n 0) 1 0, e1 2244 (.iload_n 3) 1 3, ec 2245 (.iconst 2) 1 2, e0 2246 (.iadd) 1, e0 2247 (.iaload) 1, ei 2248 (.invokevirtual 214) 3 21 175 3 1, e1 2251 (.aload_n 2) 1 2, e1 2252 (.aload_n 0) 1 0, e1 2253 (.iload_n 3) 1 3, ec 2254 (.iconst 1) 1 1, e0 2255 (.iadd) 1, e0 2256 (.iaload) 1, e1 2257 (.aload_n 0) 1 0, e1 2258 (.iload_n 3) 1 3, ec 2259 (.iconst 2) 1 2, e0 2260 (.iadd) 1, e0 2261 (.iaload) 1, ei 2262 (.invokevirtual 217) 3 22 299 3 1, e0 2265 (.lcmp) 1, e1 2266 (.ifCond .eq 137) 3 2403, ec 2269 (.iconst 0) 1 0, e1 2270 (.ireturn) 1 1], 2271),
  (2271, [true, true, true, true], [e1 2271 (.aload_n 1) 1 1, ei 2272 (.invokevirtual 218) 3 21 176 1 0, e1 2275 (.aload_n 2) 1 2, ei 2276 (.invokevirtual 221) 3 22 301 1 0, e1 2279 (.if_icmp .eq 124) 3 2403, ec 2282 (.iconst 0) 1 0, e1 2283 (.ireturn) 1 1], 2284),
  (2284, [true, true, true, true], [e1 2284 (.aload_n 1) 1 1, e1 2285 (.aload_n 0) 1 0, e1 2286 (.iload_n 3) 1 3, ec 2287 (.iconst 1) 1 1, e0 2288 (.iadd) 1, e0 2289 (.iaload) 1, ei 2290 (.invokevirtual 222) 3 21 180 2 0, e1 2293 (.aload_n 2) 1 2, e1 2294 (.aload_n 0) 1 0, e1 2295 (.iload_n 3) 1 3, ec 2296 (.iconst 1) 1 1, e0 2297 (.iadd) 1, e0 2298 (.iaload) 1, ei 2299 (.invokevirtual 225) 3 22 302 2 0, e1 2302 (.if_icmp .eq 101) 3 2403, ec 2305 (.iconst 0) 1 0, e1 2306 (.ireturn) 1 1], 2307),
  (2307, [true, true, true, true], [e1 2307 (.aload_n 1) 1 1, ei 2308 (.invokevirtual 226) 3 21 181 1 1, e1 2311 (.aload_n 2) 1 2, ei 2312 (.invokevirtual 230) 3 22 303 1 1, e0 2315 (.lcmp) 1, e1 2316 (.ifCond .eq 87) 3 2403, ec 2319 (.iconst 0) 1 0, e1 2320 (.ireturn) 1 1], 2321),
  (2321, [true, true, true, true], [e1 2321 (.aload_n 1) 1 1, e1 2322 (.aload_n 0) 1 0, e1 2323 (.iload_n 3) 1 3, ec 2324 (.iconst 1) 1 1, e0 2325 (.iadd) 1, e0 2326 (.iaload) 1, e1 2327 (.aload_n 0) 1 0, e1 2328 (.iload_n 3) 1 3, ec 2329 (.iconst 2) 1 2, e0 2330 (.iadd) 1, e0 2331 (.iaload) 1, ei 2332 (.invokevirtual 231) 3 21 182 3 0, e1 2335 (.aload_n 2) 1 2, e1 2336 (.aload_n 0) 1 0, e1 2337 (.iload_n 3) 1 3, ec 2338 (.iconst 1) 1 1, e0 2339 (.iadd) 1, e0 2340 (.iaload) 1, e1 2341 (.aload_n 0) 1 0, e1 2342 (.iload_n 3) 1 3, ec 2343 (.iconst 2) 1 2, e0 2344 (.iadd) 1, e0 2345 (.iaload) 1, ei 2346 (.invokevirtual 234) 3 22 304 3 0, e1 2349 (.if_icmp .eq 54) 3 2403, ec 2352 (.iconst 0) 1 0, e1 2353 (.ireturn) 1 1], 2354),
  (2354, [true, true, true, true], [e1 2354 (.aload_n 1) 1 1, e1 2355 (.aload_n 0) 1 0, e1 2356 (.iload_n 3) 1 3, ec 2357 (.iconst 1) 1 1, e0 2358 (.iadd) 1, e0 2359 (.iaload) 1, ei 2360 (.invokevirtual 235) 3 21 183 2 0, e1 2363 (.aload_n 2) 1 2, e1 2364 (.aload_n 0) 1 0, e1 2365 (.iload_n 3) 1 3, ec 2366 (.iconst 1) 1 1, e0 2367 (.iadd) 1, e0 2368 (.iaload) 1, ei 2369 (.invokevirtual 238) 3 22 305 2 0, e1 2372 (.if_icmp .eq 31) 3 2403, ec 2375 (.iconst 0) 1 0, e1 2376 (.ireturn) 1 1], 2377),
  (2377, [true, true, true, true], [e1 2377 (.aload_n 1) 1 1, ei 2378 (.invokevirtual 239) 3 21 184 1 0, e1 2381 (.aload_n 2) 1 2, ei 2382 (.invokevirtual 242) 3 22 306 1 0, e1 2385 (.if_icmp .eq 18) 3 2403, ec 2388 (.iconst 0) 1 0, e1 2389 (.ireturn) 1 1], 2390),
  (2390, [true, true, true, true], [e1 2390 (.aload_n 1) 1 1, ei 2391 (.invokevirtual 243) 3 21 185 1 0, e1 2394 (.aload_n 2) 1 2, ei 2395 (.invokevirtual 246) 3 22 307 1 0, e1 2398 (.if_icmp .eq 5) 3 2403, ec 2401 (.iconst 0) 1 0, e1 2402 (.ireturn) 1 1], 2403),
  (2403, [true, true, true, true], [ek 2403 (.iinc 3 6) 3 6 3, e1 2406 (.goto (-2388)) 3 18], 2409),
  (2409, [false, false, false, false], [ec 2409 (.iconst 1) 1 1, e1 2410 (.ireturn) 1 1], 2411)]
def XP_l : List (List (List XB)) := [[K_X0_init, K_X0_begin, K_X0_add, K_X0_has, K_X0_fits, K_X0_baseOf, K_X1_init, K_X1_begin, K_X1_homeAt, K_X1_isLaid, K_X1_liesIn, K_X1_hasAllHomes, K_X1_isWithin, K_X1_lay, K_X1_lift, K_X1_againstPut],
  [K_X1_isCrowded, K_X1_againstPairs, K_X1_partner, K_X1_againstBar, K_X1_shut, K_X1_againstAmong, K_X1_earliestBarInto, K_X1_narrow, K_X1_setOf, K_X1_isUnsettled, K_X1_unsettled, K_X1_againstPairing, K_X1_addPair, K_X1_hasMost, K_X1_tellMost, K_X1_putBehind],
  [K_X1_bulk, K_X1_bulkAlone, K_X1_load, K_X2_init, K_X2_add, K_X2_has, K_X2_rowOf, K_X2_holds, K_X2_join, K_X2_merge, K_X2_againstRelate, K_X2_earliestDeny, K_X2_earliestRelate, K_X2_heldBy, K_X2_togetherBy, K_X2_walkFrom],
  [K_X2_couples, K_X3_init, K_X3_begin, K_X3_write, K_X3_sortOf, K_X3_leadsTo, K_X3_isTold, K_X3_toldIn, K_X3_opposite, K_X3_tellExit, K_X3_againstDoor, K_X3_tellDoor, K_X3_isPassable, K_X3_walkFrom, K_X4_init, K_X4_areFull],
  [K_X4_add, K_X4_earliest, K_X5_init, K_X5_ways, K_X5_thingAt, K_X5_takeLeastWay, K_X5_layFrom, K_X5_lets, K_X6_init, K_X6_begin, K_X6_spans, K_X7_init, K_X7_begin, K_X7_hasCell, K_X7_isBlank, K_X7_told],
  [K_X7_write, K_X7_wipe, K_X7_rowWith, K_X7_order, K_X7_isAhead, K_X7_swap, K_X7_sum, K_X7_filledIn, K_X8_init, K_X8_add, K_X8_has, K_X8_all, K_X8_holders, K_X8_isRoom, K_X8_haveRoom, K_X8_isCarrier],
  [K_X8_isHolder, K_X8_hasLid, K_X8_isFixed, K_X8_liesInOne, K_X8_mayLieIn, K_X8_worth, K_X8_lid, K_X9_init, K_X9_add, K_X9_has, K_X9_emptyCell, K_X9_knows, K_X9_takes, K_X9_isFor, K_X9_tellUsual, K_X9_tellGiven],
  [K_X9_givenBy, K_X9_givenCell, K_X9_isGivenOtherwise, K_X9_valueOf, K_X10_init, K_X10_begin, K_X10_step, K_X11_init, K_X11_beginAnew, K_X11_faulted, K_X11_against, K_X11_inRange, K_X11_kind, K_X11_is, K_X11_property, K_X11_usual],
  [K_X11_thing, K_X11_put, K_X11_bar, K_X11_give, K_X11_value, K_X11_given, K_X11_peek, K_X11_place, K_X11_says, K_X11_saying, K_X11_stride, K_X11_follow, K_X11_mark, K_X11_remark, K_X11_open, K_X11_among],
  [K_X11_pair, K_X11_most, K_X11_settle, K_X11_set, K_X11_relation, K_X11_relate, K_X11_deny, K_X11_related, K_X11_along, K_X11_next, K_X11_areRelatable, K_X11_exit, K_X11_door, K_X11_leads, K_X11_sort, K_X11_route],
  [K_X11_first, K_X11_shelf, K_X11_stand, K_X11_shelfTakes, K_X11_stands, K_X11_haul, K_X11_came, K_X11_table, K_X11_areLanes, K_X11_fill, K_X11_blank, K_X11_read, K_X11_choose, K_X11_rank, K_X11_total, K_X11_mean],
  [K_X11_make, K_X11_addWord, K_X11_addWordsOfThing, K_X11_addWordsOfRoom, K_X11_word, K_X11_digest, K_X11_sentence, K_X11_count, K_X11_fault, K_X11_clear, K_X11_bit, K_X11_toldBy, K_X12_init, K_X12_in, K_X12_faulty, K_X12_begin],
  [K_X12_isKind, K_X12_isProperty, K_X12_comesTo, K_X12_baseOf, K_X12_kind, K_X12_is, K_X12_property, K_X12_cell, K_X12_isUnknown, K_X12_isStored, K_X12_usual, K_X12_isThing, K_X12_base, K_X12_isCarrier, K_X12_isHolder, K_X12_isFixed],
  [K_X12_isBackdrop, K_X12_thing, K_X12_tell, K_X12_against, K_X12_first, K_X12_latestAmong, K_X12_isWithin, K_X12_placeOf, K_X12_nth, K_X12_held, K_X12_pairAgainst, K_X12_putAgainst, K_X12_lies, K_X12_put, K_X12_bar, K_X12_give],
  [K_X12_valueOf, K_X12_value, K_X12_given, K_X12_peek, K_X12_place, K_X12_loadOf, K_X12_bulkOf, K_X12_worthOf, K_X12_lidOf, K_X12_said, K_X12_says, K_X12_follow, K_X12_hasOwn, K_X12_mark, K_X12_remark, K_X12_open],
  [K_X12_among, K_X12_pair, K_X12_most, K_X12_isUnsettled, K_X12_unsettled, K_X12_keeps, K_X12_lowest, K_X12_many, K_X12_goesOn, K_X12_settle, K_X12_set, K_X12_isRelation, K_X12_groupUp, K_X12_told, K_X12_earlier, K_X12_hasBy],
  [K_X12_has, K_X12_deniedBy, K_X12_oneOnly, K_X12_relation, K_X12_isCouple, K_X12_relate, K_X12_deny, K_X12_related, K_X12_couples, K_X12_goBack, K_X12_along, K_X12_next, K_X12_isRoom, K_X12_lead, K_X12_exit, K_X12_door],
  [K_X12_leads, K_X12_sort, K_X12_goes, K_X12_routeBack, K_X12_route, K_X12_first_, K_X12_isShelf, K_X12_takes, K_X12_shelf, K_X12_stand, K_X12_stands, K_X12_haul, K_X12_came, K_X12_isTable, K_X12_table, K_X12_isColumn],
  [K_X12_isCell, K_X12_cellAt, K_X12_fill, K_X12_blank, K_X12_read, K_X12_choose, K_X12_isAhead, K_X12_rank, K_X12_filledIn, K_X12_sumOf, K_X12_total, K_X12_mean, K_X12_add, K_X12_make, K_X12_word, K_X12_digest],
  [K_X12_sentence, K_X12_count, K_X12_fault, K_X12_clear, K_J13_bitCount_95d88, K_J9_max_7cf53, K_L_law]]
def XML_l : List (List Nat) := [[1, 2, 2, 2, 5, 4, 3, 2, 3, 2, 4, 2, 5, 4, 2, 4],
  [2, 5, 3, 3, 3, 4, 5, 7, 2, 2, 3, 5, 5, 2, 4, 5],
  [2, 2, 4, 4, 3, 2, 3, 4, 5, 7, 7, 14, 5, 5, 5, 8],
  [4, 3, 3, 6, 3, 3, 3, 3, 1, 5, 6, 6, 5, 6, 1, 1],
  [5, 6, 3, 3, 2, 3, 7, 3, 1, 4, 3, 1, 6, 3, 3, 3],
  [5, 4, 6, 5, 5, 10, 5, 4, 2, 3, 3, 1, 4, 2, 2, 2],
  [2, 2, 2, 2, 3, 3, 2, 3, 5, 2, 2, 4, 4, 3, 5, 6],
  [3, 3, 5, 5, 1, 3, 4, 3, 1, 2, 1, 2, 2, 3, 4, 5],
  [4, 5, 4, 6, 3, 3, 4, 3, 3, 3, 3, 6, 3, 6, 4, 6],
  [6, 5, 4, 2, 2, 5, 4, 4, 4, 4, 4, 5, 7, 3, 3, 4],
  [4, 3, 5, 3, 3, 9, 1, 4, 4, 6, 4, 4, 6, 4, 3, 4],
  [2, 2, 3, 3, 2, 4, 3, 2, 1, 2, 1, 3, 1, 6, 2, 2],
  [2, 2, 4, 3, 2, 3, 5, 3, 4, 4, 5, 3, 2, 2, 2, 2],
  [2, 4, 5, 1, 5, 4, 4, 2, 4, 4, 6, 5, 4, 5, 6, 8],
  [5, 3, 3, 4, 3, 4, 2, 3, 2, 5, 3, 6, 2, 3, 5, 4],
  [10, 6, 5, 2, 3, 5, 3, 4, 4, 7, 2, 2, 7, 6, 2, 5],
  [4, 5, 6, 2, 4, 5, 5, 4, 4, 5, 4, 5, 2, 6, 7, 8],
  [3, 3, 3, 8, 4, 5, 2, 3, 4, 4, 3, 7, 1, 2, 7, 3],
  [4, 3, 8, 6, 5, 8, 11, 7, 5, 7, 3, 4, 2, 5, 2, 4],
  [3, 2, 1, 2, 2, 2, 4]]
def XP (m : Nat) : List XB := xg2 [] XP_l m
def XML (m : Nat) : Nat := xg2 0 XML_l m
def WK_l : List (List Nat) := [[9, 7, 21, 10, 18, 19, 14, 11, 15, 20, 12, 13, 16, 17, 22, 5],
  [6, 1, 1, 1, 1, 1, 1, 1, 1, 3, 1, 1, 1, 2, 3, 2],
  [1, 1, 1, 1, 1, 1, 1, 1, 2, 2, 1, 1, 1, 1, 1, 1],
  [3, 1, 1, 1, 1, 1, 1, 2, 2, 1, 1, 1, 1, 1, 1, 2],
  [3, 1, 1, 1, 1, 1, 1, 3, 2, 1, 1, 1, 1, 3, 1, 1],
  [1, 2, 1, 1, 2, 1, 1, 1, 1, 1, 1, 1, 1, 1, 3, 1],
  [1, 1, 1, 1, 1, 1, 1, 1, 1, 1, 3, 2, 4, 1, 3, 2],
  [4, 1]]
def WN_l : List (List Int) := [[0, 0, 0, 0, 0, 0, 0, 0, 0, 0, 0, 0, 0, 0, 0, 10],
  [6, 16, 1490, 24, 64, 64, 64, 64, 64, 64, 12, 12, 12, 288, 288, 768],
  [768, 300, 300, 300, 300, 384, 64, 64, 64, 64, 64, 64, 64, 64, 16, 16],
  [16, 16, 7, 64, 64, 64, 8, 512, 64, 512, 512, 512, 512, 64, 16, 80],
  [80, 5, 16, 24, 12, 12, 12, 288, 288, 64, 64, 64, 64, 64, 384, 384],
  [64, 64, 64, 768, 768, 300, 300, 300, 300, 64, 8, 64, 64, 64, 4096, 512],
  [512, 512, 512, 10, 10, 160, 16, 6, 6, 30, 480, 480, 480, 16, 80, 80],
  [80, 2048]]
def WG_l : List (List (Nat → Nat)) := [[(fun _ => 0), (fun _ => 0), (fun j => xgl 0 [3, 4, 5, 6, 7, 8, 10, 11, 15, 16, 17, 18, 0, 0, 0, 0, 0] j), (fun j => xgl 0 [19, 0] j), (fun j => xgl 0 [3, 20, 21, 22, 23, 24, 25, 0] j), (fun j => xgl 0 [3, 4, 26, 27, 28, 29, 30, 31, 32, 0] j), (fun j => xgl 0 [33, 34, 35, 36, 0] j), (fun j => xgl 0 [4, 6, 37, 38, 39, 40, 41, 42, 43, 44, 45, 46, 47, 48, 49, 0] j), (fun j => xgl 0 [4, 7, 50, 0] j), (fun j => xgl 0 [51, 52, 53, 0] j), (fun j => xgl 0 [4, 6, 9, 54, 55, 56, 0] j), (fun j => xgl 0 [4, 9, 57, 58, 59, 60, 61] j), (fun j => xgl 0 [62, 0, 0] j), (fun j => xgl 0 [63, 64, 65, 66, 0, 0] j), (fun j => xgl 0 [0, 0, 67, 0, 68, 69, 70, 71, 72, 0, 73, 74, 75, 76, 77, 78, 79, 80, 81, 82, 83, 84, 0, 85, 86, 87, 88, 0, 89, 0, 90, 91, 92, 93, 94, 95, 96, 97, 98, 0, 99, 100, 101, 102, 0, 0, 103, 104, 105, 106, 107, 108, 109, 110, 111, 112, 0, 113] j), (fun _ => 12)],
  [(fun _ => 13)]]
def WI_l : List (List (Nat → Nat → Nat)) := [[(fun _ _ => 0), (fun _ _ => 0), (fun _ _ => 0), (fun _ _ => 0), (fun _ _ => 0), (fun _ _ => 0), (fun _ _ => 0), (fun _ _ => 0), (fun _ _ => 0), (fun _ _ => 0), (fun _ _ => 0), (fun _ _ => 0), (fun i _ => i), (fun i _ => i), (fun _ _ => 0), (fun _ j => j)],
  [(fun _ j => j)]]
def WT_l : List (List (Nat × Nat)) := [[(2, 0), (3, 0), (19, 0), (4, 0), (20, 0), (21, 0), (22, 0), (23, 0), (24, 0), (25, 0), (5, 0), (26, 0), (27, 0), (28, 0), (29, 0), (30, 0)],
  [(31, 0), (32, 0), (6, 0), (33, 0), (34, 0), (35, 0), (36, 0), (7, 0), (37, 0), (38, 0), (39, 0), (40, 0), (41, 0), (42, 0), (43, 0), (44, 0)],
  [(45, 0), (46, 0), (47, 0), (48, 0), (49, 0), (8, 0), (50, 0), (9, 0), (51, 0), (52, 0), (53, 0), (10, 0), (54, 0), (55, 0), (56, 0), (11, 0)],
  [(57, 0), (58, 0), (59, 0), (60, 0), (61, 0), (15, 0), (12, 0), (62, 0), (12, 1), (62, 1), (12, 2), (62, 2), (12, 3), (62, 3), (12, 4), (62, 4)],
  [(12, 5), (62, 5), (12, 6), (62, 6), (12, 7), (62, 7), (12, 8), (62, 8), (12, 9), (62, 9), (16, 0), (13, 0), (63, 0), (64, 0), (65, 0), (66, 0)],
  [(13, 1), (63, 1), (64, 1), (65, 1), (66, 1), (13, 2), (63, 2), (64, 2), (65, 2), (66, 2), (13, 3), (63, 3), (64, 3), (65, 3), (66, 3), (13, 4)],
  [(63, 4), (64, 4), (65, 4), (66, 4), (13, 5), (63, 5), (64, 5), (65, 5), (66, 5), (17, 0), (18, 0), (14, 0), (67, 0), (68, 0), (69, 0), (70, 0)],
  [(71, 0), (72, 0), (73, 0), (74, 0), (75, 0), (76, 0), (77, 0), (78, 0), (79, 0), (80, 0), (81, 0), (82, 0), (83, 0), (84, 0), (85, 0), (86, 0)],
  [(87, 0), (88, 0), (89, 0), (90, 0), (91, 0), (92, 0), (93, 0), (94, 0), (95, 0), (96, 0), (97, 0), (98, 0), (99, 0), (100, 0), (101, 0), (102, 0)],
  [(103, 0), (104, 0), (105, 0), (106, 0), (107, 0), (108, 0), (109, 0), (110, 0), (111, 0), (112, 0), (113, 0)]]
def WW : XW := (fun g => xg2 9 WK_l g, fun g => xg2 0 WN_l g, fun g j => xg2 (fun _ => 0) WG_l g j, fun g i j => xg2 (fun _ _ => 0) WI_l g i j, fun k => xg2 (0, 0) WT_l k, 155)
noncomputable abbrev Xf : Nat → Nat → Nat → List XS → List XS → XM → XR := Xx WW XP XML false
noncomputable abbrev Yf : Nat → Nat → List XS → XM → XR := Xc WW XP XML false
noncomputable abbrev Xt : Nat → Nat → Nat → List XS → List XS → XM → XR := Xx WW XP XML true
noncomputable abbrev Yt : Nat → Nat → List XS → XM → XR := Xc WW XP XML true
theorem P_X0_init : XP 0 = K_X0_init := rfl
theorem P_X0_begin : XP 1 = K_X0_begin := rfl
theorem P_X0_add : XP 2 = K_X0_add := rfl
theorem P_X0_has : XP 3 = K_X0_has := rfl
theorem P_X0_fits : XP 4 = K_X0_fits := rfl
theorem P_X0_baseOf : XP 5 = K_X0_baseOf := rfl
theorem P_X1_init : XP 6 = K_X1_init := rfl
theorem P_X1_begin : XP 7 = K_X1_begin := rfl
theorem P_X1_homeAt : XP 8 = K_X1_homeAt := rfl
theorem P_X1_isLaid : XP 9 = K_X1_isLaid := rfl
theorem P_X1_liesIn : XP 10 = K_X1_liesIn := rfl
theorem P_X1_hasAllHomes : XP 11 = K_X1_hasAllHomes := rfl
theorem P_X1_isWithin : XP 12 = K_X1_isWithin := rfl
theorem P_X1_lay : XP 13 = K_X1_lay := rfl
theorem P_X1_lift : XP 14 = K_X1_lift := rfl
theorem P_X1_againstPut : XP 15 = K_X1_againstPut := rfl
theorem P_X1_isCrowded : XP 16 = K_X1_isCrowded := rfl
theorem P_X1_againstPairs : XP 17 = K_X1_againstPairs := rfl
theorem P_X1_partner : XP 18 = K_X1_partner := rfl
theorem P_X1_againstBar : XP 19 = K_X1_againstBar := rfl
theorem P_X1_shut : XP 20 = K_X1_shut := rfl
theorem P_X1_againstAmong : XP 21 = K_X1_againstAmong := rfl
theorem P_X1_earliestBarInto : XP 22 = K_X1_earliestBarInto := rfl
theorem P_X1_narrow : XP 23 = K_X1_narrow := rfl
theorem P_X1_setOf : XP 24 = K_X1_setOf := rfl
theorem P_X1_isUnsettled : XP 25 = K_X1_isUnsettled := rfl
theorem P_X1_unsettled : XP 26 = K_X1_unsettled := rfl
theorem P_X1_againstPairing : XP 27 = K_X1_againstPairing := rfl
theorem P_X1_addPair : XP 28 = K_X1_addPair := rfl
theorem P_X1_hasMost : XP 29 = K_X1_hasMost := rfl
theorem P_X1_tellMost : XP 30 = K_X1_tellMost := rfl
theorem P_X1_putBehind : XP 31 = K_X1_putBehind := rfl
theorem P_X1_bulk : XP 32 = K_X1_bulk := rfl
theorem P_X1_bulkAlone : XP 33 = K_X1_bulkAlone := rfl
theorem P_X1_load : XP 34 = K_X1_load := rfl
theorem P_X2_init : XP 35 = K_X2_init := rfl
theorem P_X2_add : XP 36 = K_X2_add := rfl
theorem P_X2_has : XP 37 = K_X2_has := rfl
theorem P_X2_rowOf : XP 38 = K_X2_rowOf := rfl
theorem P_X2_holds : XP 39 = K_X2_holds := rfl
theorem P_X2_join : XP 40 = K_X2_join := rfl
theorem P_X2_merge : XP 41 = K_X2_merge := rfl
theorem P_X2_againstRelate : XP 42 = K_X2_againstRelate := rfl
theorem P_X2_earliestDeny : XP 43 = K_X2_earliestDeny := rfl
theorem P_X2_earliestRelate : XP 44 = K_X2_earliestRelate := rfl
theorem P_X2_heldBy : XP 45 = K_X2_heldBy := rfl
theorem P_X2_togetherBy : XP 46 = K_X2_togetherBy := rfl
theorem P_X2_walkFrom : XP 47 = K_X2_walkFrom := rfl
theorem P_X2_couples : XP 48 = K_X2_couples := rfl
theorem P_X3_init : XP 49 = K_X3_init := rfl
theorem P_X3_begin : XP 50 = K_X3_begin := rfl
theorem P_X3_write : XP 51 = K_X3_write := rfl
theorem P_X3_sortOf : XP 52 = K_X3_sortOf := rfl
theorem P_X3_leadsTo : XP 53 = K_X3_leadsTo := rfl
theorem P_X3_isTold : XP 54 = K_X3_isTold := rfl
theorem P_X3_toldIn : XP 55 = K_X3_toldIn := rfl
theorem P_X3_opposite : XP 56 = K_X3_opposite := rfl
theorem P_X3_tellExit : XP 57 = K_X3_tellExit := rfl
theorem P_X3_againstDoor : XP 58 = K_X3_againstDoor := rfl
theorem P_X3_tellDoor : XP 59 = K_X3_tellDoor := rfl
theorem P_X3_isPassable : XP 60 = K_X3_isPassable := rfl
theorem P_X3_walkFrom : XP 61 = K_X3_walkFrom := rfl
theorem P_X4_init : XP 62 = K_X4_init := rfl
theorem P_X4_areFull : XP 63 = K_X4_areFull := rfl
theorem P_X4_add : XP 64 = K_X4_add := rfl
theorem P_X4_earliest : XP 65 = K_X4_earliest := rfl
theorem P_X5_init : XP 66 = K_X5_init := rfl
theorem P_X5_ways : XP 67 = K_X5_ways := rfl
theorem P_X5_thingAt : XP 68 = K_X5_thingAt := rfl
theorem P_X5_takeLeastWay : XP 69 = K_X5_takeLeastWay := rfl
theorem P_X5_layFrom : XP 70 = K_X5_layFrom := rfl
theorem P_X5_lets : XP 71 = K_X5_lets := rfl
theorem P_X6_init : XP 72 = K_X6_init := rfl
theorem P_X6_begin : XP 73 = K_X6_begin := rfl
theorem P_X6_spans : XP 74 = K_X6_spans := rfl
theorem P_X7_init : XP 75 = K_X7_init := rfl
theorem P_X7_begin : XP 76 = K_X7_begin := rfl
theorem P_X7_hasCell : XP 77 = K_X7_hasCell := rfl
theorem P_X7_isBlank : XP 78 = K_X7_isBlank := rfl
theorem P_X7_told : XP 79 = K_X7_told := rfl
theorem P_X7_write : XP 80 = K_X7_write := rfl
theorem P_X7_wipe : XP 81 = K_X7_wipe := rfl
theorem P_X7_rowWith : XP 82 = K_X7_rowWith := rfl
theorem P_X7_order : XP 83 = K_X7_order := rfl
theorem P_X7_isAhead : XP 84 = K_X7_isAhead := rfl
theorem P_X7_swap : XP 85 = K_X7_swap := rfl
theorem P_X7_sum : XP 86 = K_X7_sum := rfl
theorem P_X7_filledIn : XP 87 = K_X7_filledIn := rfl
theorem P_X8_init : XP 88 = K_X8_init := rfl
theorem P_X8_add : XP 89 = K_X8_add := rfl
theorem P_X8_has : XP 90 = K_X8_has := rfl
theorem P_X8_all : XP 91 = K_X8_all := rfl
theorem P_X8_holders : XP 92 = K_X8_holders := rfl
theorem P_X8_isRoom : XP 93 = K_X8_isRoom := rfl
theorem P_X8_haveRoom : XP 94 = K_X8_haveRoom := rfl
theorem P_X8_isCarrier : XP 95 = K_X8_isCarrier := rfl
theorem P_X8_isHolder : XP 96 = K_X8_isHolder := rfl
theorem P_X8_hasLid : XP 97 = K_X8_hasLid := rfl
theorem P_X8_isFixed : XP 98 = K_X8_isFixed := rfl
theorem P_X8_liesInOne : XP 99 = K_X8_liesInOne := rfl
theorem P_X8_mayLieIn : XP 100 = K_X8_mayLieIn := rfl
theorem P_X8_worth : XP 101 = K_X8_worth := rfl
theorem P_X8_lid : XP 102 = K_X8_lid := rfl
theorem P_X9_init : XP 103 = K_X9_init := rfl
theorem P_X9_add : XP 104 = K_X9_add := rfl
theorem P_X9_has : XP 105 = K_X9_has := rfl
theorem P_X9_emptyCell : XP 106 = K_X9_emptyCell := rfl
theorem P_X9_knows : XP 107 = K_X9_knows := rfl
theorem P_X9_takes : XP 108 = K_X9_takes := rfl
theorem P_X9_isFor : XP 109 = K_X9_isFor := rfl
theorem P_X9_tellUsual : XP 110 = K_X9_tellUsual := rfl
theorem P_X9_tellGiven : XP 111 = K_X9_tellGiven := rfl
theorem P_X9_givenBy : XP 112 = K_X9_givenBy := rfl
theorem P_X9_givenCell : XP 113 = K_X9_givenCell := rfl
theorem P_X9_isGivenOtherwise : XP 114 = K_X9_isGivenOtherwise := rfl
theorem P_X9_valueOf : XP 115 = K_X9_valueOf := rfl
theorem P_X10_init : XP 116 = K_X10_init := rfl
theorem P_X10_begin : XP 117 = K_X10_begin := rfl
theorem P_X10_step : XP 118 = K_X10_step := rfl
theorem P_X11_init : XP 119 = K_X11_init := rfl
theorem P_X11_beginAnew : XP 120 = K_X11_beginAnew := rfl
theorem P_X11_faulted : XP 121 = K_X11_faulted := rfl
theorem P_X11_against : XP 122 = K_X11_against := rfl
theorem P_X11_inRange : XP 123 = K_X11_inRange := rfl
theorem P_X11_kind : XP 124 = K_X11_kind := rfl
theorem P_X11_is : XP 125 = K_X11_is := rfl
theorem P_X11_property : XP 126 = K_X11_property := rfl
theorem P_X11_usual : XP 127 = K_X11_usual := rfl
theorem P_X11_thing : XP 128 = K_X11_thing := rfl
theorem P_X11_put : XP 129 = K_X11_put := rfl
theorem P_X11_bar : XP 130 = K_X11_bar := rfl
theorem P_X11_give : XP 131 = K_X11_give := rfl
theorem P_X11_value : XP 132 = K_X11_value := rfl
theorem P_X11_given : XP 133 = K_X11_given := rfl
theorem P_X11_peek : XP 134 = K_X11_peek := rfl
theorem P_X11_place : XP 135 = K_X11_place := rfl
theorem P_X11_says : XP 136 = K_X11_says := rfl
theorem P_X11_saying : XP 137 = K_X11_saying := rfl
theorem P_X11_stride : XP 138 = K_X11_stride := rfl
theorem P_X11_follow : XP 139 = K_X11_follow := rfl
theorem P_X11_mark : XP 140 = K_X11_mark := rfl
theorem P_X11_remark : XP 141 = K_X11_remark := rfl
theorem P_X11_open : XP 142 = K_X11_open := rfl
theorem P_X11_among : XP 143 = K_X11_among := rfl
theorem P_X11_pair : XP 144 = K_X11_pair := rfl
theorem P_X11_most : XP 145 = K_X11_most := rfl
theorem P_X11_settle : XP 146 = K_X11_settle := rfl
theorem P_X11_set : XP 147 = K_X11_set := rfl
theorem P_X11_relation : XP 148 = K_X11_relation := rfl
theorem P_X11_relate : XP 149 = K_X11_relate := rfl
theorem P_X11_deny : XP 150 = K_X11_deny := rfl
theorem P_X11_related : XP 151 = K_X11_related := rfl
theorem P_X11_along : XP 152 = K_X11_along := rfl
theorem P_X11_next : XP 153 = K_X11_next := rfl
theorem P_X11_areRelatable : XP 154 = K_X11_areRelatable := rfl
theorem P_X11_exit : XP 155 = K_X11_exit := rfl
theorem P_X11_door : XP 156 = K_X11_door := rfl
theorem P_X11_leads : XP 157 = K_X11_leads := rfl
theorem P_X11_sort : XP 158 = K_X11_sort := rfl
theorem P_X11_route : XP 159 = K_X11_route := rfl
theorem P_X11_first : XP 160 = K_X11_first := rfl
theorem P_X11_shelf : XP 161 = K_X11_shelf := rfl
theorem P_X11_stand : XP 162 = K_X11_stand := rfl
theorem P_X11_shelfTakes : XP 163 = K_X11_shelfTakes := rfl
theorem P_X11_stands : XP 164 = K_X11_stands := rfl
theorem P_X11_haul : XP 165 = K_X11_haul := rfl
theorem P_X11_came : XP 166 = K_X11_came := rfl
theorem P_X11_table : XP 167 = K_X11_table := rfl
theorem P_X11_areLanes : XP 168 = K_X11_areLanes := rfl
theorem P_X11_fill : XP 169 = K_X11_fill := rfl
theorem P_X11_blank : XP 170 = K_X11_blank := rfl
theorem P_X11_read : XP 171 = K_X11_read := rfl
theorem P_X11_choose : XP 172 = K_X11_choose := rfl
theorem P_X11_rank : XP 173 = K_X11_rank := rfl
theorem P_X11_total : XP 174 = K_X11_total := rfl
theorem P_X11_mean : XP 175 = K_X11_mean := rfl
theorem P_X11_make : XP 176 = K_X11_make := rfl
theorem P_X11_addWord : XP 177 = K_X11_addWord := rfl
theorem P_X11_addWordsOfThing : XP 178 = K_X11_addWordsOfThing := rfl
theorem P_X11_addWordsOfRoom : XP 179 = K_X11_addWordsOfRoom := rfl
theorem P_X11_word : XP 180 = K_X11_word := rfl
theorem P_X11_digest : XP 181 = K_X11_digest := rfl
theorem P_X11_sentence : XP 182 = K_X11_sentence := rfl
theorem P_X11_count : XP 183 = K_X11_count := rfl
theorem P_X11_fault : XP 184 = K_X11_fault := rfl
theorem P_X11_clear : XP 185 = K_X11_clear := rfl
theorem P_X11_bit : XP 186 = K_X11_bit := rfl
theorem P_X11_toldBy : XP 187 = K_X11_toldBy := rfl
theorem P_X12_init : XP 188 = K_X12_init := rfl
theorem P_X12_in : XP 189 = K_X12_in := rfl
theorem P_X12_faulty : XP 190 = K_X12_faulty := rfl
theorem P_X12_begin : XP 191 = K_X12_begin := rfl
theorem P_X12_isKind : XP 192 = K_X12_isKind := rfl
theorem P_X12_isProperty : XP 193 = K_X12_isProperty := rfl
theorem P_X12_comesTo : XP 194 = K_X12_comesTo := rfl
theorem P_X12_baseOf : XP 195 = K_X12_baseOf := rfl
theorem P_X12_kind : XP 196 = K_X12_kind := rfl
theorem P_X12_is : XP 197 = K_X12_is := rfl
theorem P_X12_property : XP 198 = K_X12_property := rfl
theorem P_X12_cell : XP 199 = K_X12_cell := rfl
theorem P_X12_isUnknown : XP 200 = K_X12_isUnknown := rfl
theorem P_X12_isStored : XP 201 = K_X12_isStored := rfl
theorem P_X12_usual : XP 202 = K_X12_usual := rfl
theorem P_X12_isThing : XP 203 = K_X12_isThing := rfl
theorem P_X12_base : XP 204 = K_X12_base := rfl
theorem P_X12_isCarrier : XP 205 = K_X12_isCarrier := rfl
theorem P_X12_isHolder : XP 206 = K_X12_isHolder := rfl
theorem P_X12_isFixed : XP 207 = K_X12_isFixed := rfl
theorem P_X12_isBackdrop : XP 208 = K_X12_isBackdrop := rfl
theorem P_X12_thing : XP 209 = K_X12_thing := rfl
theorem P_X12_tell : XP 210 = K_X12_tell := rfl
theorem P_X12_against : XP 211 = K_X12_against := rfl
theorem P_X12_first : XP 212 = K_X12_first := rfl
theorem P_X12_latestAmong : XP 213 = K_X12_latestAmong := rfl
theorem P_X12_isWithin : XP 214 = K_X12_isWithin := rfl
theorem P_X12_placeOf : XP 215 = K_X12_placeOf := rfl
theorem P_X12_nth : XP 216 = K_X12_nth := rfl
theorem P_X12_held : XP 217 = K_X12_held := rfl
theorem P_X12_pairAgainst : XP 218 = K_X12_pairAgainst := rfl
theorem P_X12_putAgainst : XP 219 = K_X12_putAgainst := rfl
theorem P_X12_lies : XP 220 = K_X12_lies := rfl
theorem P_X12_put : XP 221 = K_X12_put := rfl
theorem P_X12_bar : XP 222 = K_X12_bar := rfl
theorem P_X12_give : XP 223 = K_X12_give := rfl
theorem P_X12_valueOf : XP 224 = K_X12_valueOf := rfl
theorem P_X12_value : XP 225 = K_X12_value := rfl
theorem P_X12_given : XP 226 = K_X12_given := rfl
theorem P_X12_peek : XP 227 = K_X12_peek := rfl
theorem P_X12_place : XP 228 = K_X12_place := rfl
theorem P_X12_loadOf : XP 229 = K_X12_loadOf := rfl
theorem P_X12_bulkOf : XP 230 = K_X12_bulkOf := rfl
theorem P_X12_worthOf : XP 231 = K_X12_worthOf := rfl
theorem P_X12_lidOf : XP 232 = K_X12_lidOf := rfl
theorem P_X12_said : XP 233 = K_X12_said := rfl
theorem P_X12_says : XP 234 = K_X12_says := rfl
theorem P_X12_follow : XP 235 = K_X12_follow := rfl
theorem P_X12_hasOwn : XP 236 = K_X12_hasOwn := rfl
theorem P_X12_mark : XP 237 = K_X12_mark := rfl
theorem P_X12_remark : XP 238 = K_X12_remark := rfl
theorem P_X12_open : XP 239 = K_X12_open := rfl
theorem P_X12_among : XP 240 = K_X12_among := rfl
theorem P_X12_pair : XP 241 = K_X12_pair := rfl
theorem P_X12_most : XP 242 = K_X12_most := rfl
theorem P_X12_isUnsettled : XP 243 = K_X12_isUnsettled := rfl
theorem P_X12_unsettled : XP 244 = K_X12_unsettled := rfl
theorem P_X12_keeps : XP 245 = K_X12_keeps := rfl
theorem P_X12_lowest : XP 246 = K_X12_lowest := rfl
theorem P_X12_many : XP 247 = K_X12_many := rfl
theorem P_X12_goesOn : XP 248 = K_X12_goesOn := rfl
theorem P_X12_settle : XP 249 = K_X12_settle := rfl
theorem P_X12_set : XP 250 = K_X12_set := rfl
theorem P_X12_isRelation : XP 251 = K_X12_isRelation := rfl
theorem P_X12_groupUp : XP 252 = K_X12_groupUp := rfl
theorem P_X12_told : XP 253 = K_X12_told := rfl
theorem P_X12_earlier : XP 254 = K_X12_earlier := rfl
theorem P_X12_hasBy : XP 255 = K_X12_hasBy := rfl
theorem P_X12_has : XP 256 = K_X12_has := rfl
theorem P_X12_deniedBy : XP 257 = K_X12_deniedBy := rfl
theorem P_X12_oneOnly : XP 258 = K_X12_oneOnly := rfl
theorem P_X12_relation : XP 259 = K_X12_relation := rfl
theorem P_X12_isCouple : XP 260 = K_X12_isCouple := rfl
theorem P_X12_relate : XP 261 = K_X12_relate := rfl
theorem P_X12_deny : XP 262 = K_X12_deny := rfl
theorem P_X12_related : XP 263 = K_X12_related := rfl
theorem P_X12_couples : XP 264 = K_X12_couples := rfl
theorem P_X12_goBack : XP 265 = K_X12_goBack := rfl
theorem P_X12_along : XP 266 = K_X12_along := rfl
theorem P_X12_next : XP 267 = K_X12_next := rfl
theorem P_X12_isRoom : XP 268 = K_X12_isRoom := rfl
theorem P_X12_lead : XP 269 = K_X12_lead := rfl
theorem P_X12_exit : XP 270 = K_X12_exit := rfl
theorem P_X12_door : XP 271 = K_X12_door := rfl
theorem P_X12_leads : XP 272 = K_X12_leads := rfl
theorem P_X12_sort : XP 273 = K_X12_sort := rfl
theorem P_X12_goes : XP 274 = K_X12_goes := rfl
theorem P_X12_routeBack : XP 275 = K_X12_routeBack := rfl
theorem P_X12_route : XP 276 = K_X12_route := rfl
theorem P_X12_first_ : XP 277 = K_X12_first_ := rfl
theorem P_X12_isShelf : XP 278 = K_X12_isShelf := rfl
theorem P_X12_takes : XP 279 = K_X12_takes := rfl
theorem P_X12_shelf : XP 280 = K_X12_shelf := rfl
theorem P_X12_stand : XP 281 = K_X12_stand := rfl
theorem P_X12_stands : XP 282 = K_X12_stands := rfl
theorem P_X12_haul : XP 283 = K_X12_haul := rfl
theorem P_X12_came : XP 284 = K_X12_came := rfl
theorem P_X12_isTable : XP 285 = K_X12_isTable := rfl
theorem P_X12_table : XP 286 = K_X12_table := rfl
theorem P_X12_isColumn : XP 287 = K_X12_isColumn := rfl
theorem P_X12_isCell : XP 288 = K_X12_isCell := rfl
theorem P_X12_cellAt : XP 289 = K_X12_cellAt := rfl
theorem P_X12_fill : XP 290 = K_X12_fill := rfl
theorem P_X12_blank : XP 291 = K_X12_blank := rfl
theorem P_X12_read : XP 292 = K_X12_read := rfl
theorem P_X12_choose : XP 293 = K_X12_choose := rfl
theorem P_X12_isAhead : XP 294 = K_X12_isAhead := rfl
theorem P_X12_rank : XP 295 = K_X12_rank := rfl
theorem P_X12_filledIn : XP 296 = K_X12_filledIn := rfl
theorem P_X12_sumOf : XP 297 = K_X12_sumOf := rfl
theorem P_X12_total : XP 298 = K_X12_total := rfl
theorem P_X12_mean : XP 299 = K_X12_mean := rfl
theorem P_X12_add : XP 300 = K_X12_add := rfl
theorem P_X12_make : XP 301 = K_X12_make := rfl
theorem P_X12_word : XP 302 = K_X12_word := rfl
theorem P_X12_digest : XP 303 = K_X12_digest := rfl
theorem P_X12_sentence : XP 304 = K_X12_sentence := rfl
theorem P_X12_count : XP 305 = K_X12_count := rfl
theorem P_X12_fault : XP 306 = K_X12_fault := rfl
theorem P_X12_clear : XP 307 = K_X12_clear := rfl
theorem P_J13_bitCount_95d88 : XP 308 = K_J13_bitCount_95d88 := rfl
theorem P_J9_max_7cf53 : XP 309 = K_J9_max_7cf53 := rfl
theorem P_L_law : XP 310 = K_L_law := rfl
end
section
set_option maxRecDepth 100000 in
theorem s_X0_begin (d : Nat) (V : XM) : Yf (d + 1) 1 [xr 3 0] V =
    ci (Yf d 2 [xr 3 0, xi (-9)] (xu V 3 0 1 0)) (fun x2 V1 =>
    Xf d 1 14 [xr 3 0, xi 1] [] V1) := Xc_es [14] P_X0_begin 1 _ V
set_option maxRecDepth 100000 in
theorem s_X0_begin_14 (d : Nat) (V : XM) (l1 : Int) : Xf d 1 14 [xr 3 0, xi l1] [] V =
    if 4 < l1 then
    ci (Yf d 2 [xr 3 0, xi 4] V) (fun x2 V1 =>
      some (xi 0, V1))
  else
    ci (Yf d 2 [xr 3 0, xi 0] V) (fun x4 V3 =>
      Xf d 1 14 [xr 3 0, xi (w32 (l1 + 1))] [] V3) := Xx_es [14] P_X0_begin 2 _ _ _ V
set_option maxRecDepth 100000 in
theorem s_X0_add (d : Nat) (V : XM) (a : Int) : Yf (d + 1) 2 [xr 3 0, xi a] V =
    if 0 ≤ V 3 0 1 ∧ V 3 0 1 < 24 then
    some (xi (V 3 0 1), (xu (xu V 19 0 ((V 3 0 1).toNat) a) 3 0 1 (w32 ((V 3 0 1) + 1))))
  else
    none := Xc_es [] P_X0_add 1 _ V
set_option maxRecDepth 100000 in
theorem s_X0_has (d : Nat) (V : XM) (a : Int) : Yf (d + 1) 3 [xr 3 0, xi a] V =
    ci (Yf d 123 [xi a, xi (V 3 0 1)] V) (fun x2 V1 =>
    if x2 = 0 ∨ x2 = 1 then
      some (xi x2, V1)
    else
      none) := Xc_es [] P_X0_has 1 _ V
set_option maxRecDepth 100000 in
theorem s_X0_fits (d : Nat) (V : XM) (a : Int) (b : Int) : Yf (d + 1) 4 [xr 3 0, xi a, xi b] V =
    Xf d 4 5 [xr 3 0, xr 0 0, xi b, xi a, xi 0] [] V := Xc_es [5] P_X0_fits 1 _ V
set_option maxRecDepth 100000 in
theorem s_X0_fits_5 (d : Nat) (V : XM) (l2 : Int) (l3 : Int) (l4 : Int) : Xf d 4 5 [xr 3 0, xr 0 0, xi l2, xi l3, xi l4] [] V =
    if l2 < l3 then
    if l4 < 24 then
      if 0 ≤ l3 ∧ l3 < 24 then
        Xf d 4 5 [xr 3 0, xr 0 0, xi l2, xi (V 19 0 (l3.toNat)), xi (w32 (l4 + 1))] [] V
      else
        none
    else
      if l3 = l2 then
        some (xi 1, V)
      else
        some (xi 0, V)
  else
    if l3 = l2 then
      some (xi 1, V)
    else
      some (xi 0, V) := Xx_es [5] P_X0_fits 4 _ _ _ V
set_option maxRecDepth 100000 in
theorem s_X0_baseOf (d : Nat) (V : XM) (a : Int) : Yf (d + 1) 5 [xr 3 0, xi a] V =
    Xf d 5 4 [xr 3 0, xr 0 0, xi a, xi 0] [] V := Xc_es [4] P_X0_baseOf 1 _ V
set_option maxRecDepth 100000 in
theorem s_X0_baseOf_4 (d : Nat) (V : XM) (l2 : Int) (l3 : Int) : Xf d 5 4 [xr 3 0, xr 0 0, xi l2, xi l3] [] V =
    if 5 < l2 then
    if l3 < 24 then
      if 0 ≤ l2 ∧ l2 < 24 then
        Xf d 5 4 [xr 3 0, xr 0 0, xi (V 19 0 (l2.toNat)), xi (w32 (l3 + 1))] [] V
      else
        none
    else
      some (xi l2, V)
  else
    some (xi l2, V) := Xx_es [4] P_X0_baseOf 2 _ _ _ V
set_option maxRecDepth 100000 in
theorem s_X1_begin (d : Nat) (V : XM) (a : Int) : Yf (d + 1) 7 [xr 7 0, xi a] V =
    if 0 ≤ a ∧ a < 64 then
    if 0 ≤ a ∧ a < 64 then
      if 0 ≤ a ∧ a < 64 then
        if 0 ≤ a ∧ a < 64 then
          if 0 ≤ a ∧ a < 64 then
            if 0 ≤ a ∧ a < 64 then
              if 0 ≤ a ∧ a < 64 then
                if 0 ≤ a ∧ a < 64 then
                  some (xi 0, (xu (xu (xu (xu (xu (xu (xu (xu V 38 0 (a.toNat) 0) 39 0 (a.toNat) (-9)) 40 0 (a.toNat) 0) 41 0 (a.toNat) 0) 42 0 (a.toNat) (-9)) 43 0 (a.toNat) 0) 44 0 (a.toNat) 0) 45 0 (a.toNat) (-9)))
                else
                  none
              else
                none
            else
              none
          else
            none
        else
          none
      else
        none
    else
      none
  else
    none := Xc_es [] P_X1_begin 1 _ V
set_option maxRecDepth 100000 in
theorem s_X1_homeAt (d : Nat) (V : XM) (a : Int) (b : Int) : Yf (d + 1) 8 [xr 7 0, xi a, xi b] V =
    if 0 ≤ a ∧ a < 64 then
    ci (Yf d 123 [xi b, xi (V 38 0 (a.toNat))] V) (fun x2 V1 =>
      if x2 = 0 then
        some (xi (-9), V1)
      else
        if 0 ≤ w32 ((w32 (a * 6)) + b) ∧ w32 ((w32 (a * 6)) + b) < 384 then
          some (xi (V1 37 0 ((w32 ((w32 (a * 6)) + b)).toNat)), V1)
        else
          none)
  else
    none := Xc_es [] P_X1_homeAt 3 _ V
set_option maxRecDepth 100000 in
theorem s_X1_isLaid (d : Nat) (V : XM) (a : Int) : Yf (d + 1) 9 [xr 7 0, xi a] V =
    if 0 ≤ a ∧ a < 64 then
    if 0 < (V 38 0 (a.toNat)) then
      some (xi 1, V)
    else
      some (xi 0, V)
  else
    none := Xc_es [] P_X1_isLaid 3 _ V
set_option maxRecDepth 100000 in
theorem s_X1_liesIn (d : Nat) (V : XM) (a : Int) (b : Int) : Yf (d + 1) 10 [xr 7 0, xi a, xi b] V =
    Xf d 10 2 [xr 7 0, xi a, xi b, xi 0] [] V := Xc_es [2] P_X1_liesIn 1 _ V
set_option maxRecDepth 100000 in
theorem s_X1_liesIn_2 (d : Nat) (V : XM) (l1 : Int) (l2 : Int) (l3 : Int) : Xf d 10 2 [xr 7 0, xi l1, xi l2, xi l3] [] V =
    if 0 ≤ l1 ∧ l1 < 64 then
    if l3 < (V 38 0 (l1.toNat)) then
      if 0 ≤ w32 ((w32 (l1 * 6)) + l3) ∧ w32 ((w32 (l1 * 6)) + l3) < 384 then
        if (V 37 0 ((w32 ((w32 (l1 * 6)) + l3)).toNat)) = l2 then
          some (xi 1, V)
        else
          Xf d 10 2 [xr 7 0, xi l1, xi l2, xi (w32 (l3 + 1))] [] V
      else
        none
    else
      some (xi 0, V)
  else
    none := Xx_es [2] P_X1_liesIn 2 _ _ _ V
set_option maxRecDepth 100000 in
theorem s_X1_hasAllHomes (d : Nat) (V : XM) (a : Int) : Yf (d + 1) 11 [xr 7 0, xi a] V =
    if 0 ≤ a ∧ a < 64 then
    if (V 21 0 (a.toNat)) = 3 then
      if 0 ≤ a ∧ a < 64 then
        if (V 38 0 (a.toNat)) < 6 then
          some (xi 0, V)
        else
          some (xi 1, V)
      else
        none
    else
      some (xi 0, V)
  else
    none := Xc_es [] P_X1_hasAllHomes 3 _ V
set_option maxRecDepth 100000 in
theorem s_X1_isWithin (d : Nat) (V : XM) (a : Int) (b : Int) : Yf (d + 1) 12 [xr 7 0, xi a, xi b] V =
    Xf d 12 5 [xr 7 0, xr 0 0, xi b, xi a, xi 0] [] V := Xc_es [5] P_X1_isWithin 1 _ V
set_option maxRecDepth 100000 in
theorem s_X1_isWithin_5 (d : Nat) (V : XM) (l2 : Int) (l3 : Int) (l4 : Int) : Xf d 12 5 [xr 7 0, xr 0 0, xi l2, xi l3, xi l4] [] V =
    if l3 < 0 then
    some (xi 0, V)
  else
    if l4 < 64 then
      if l3 = l2 then
        some (xi 1, V)
      else
        ci (Yf d 8 [xr 7 0, xi l3, xi 0] V) (fun x2 V1 =>
          Xf d 12 5 [xr 7 0, xr 0 0, xi l2, xi x2, xi (w32 (l4 + 1))] [] V1)
    else
      some (xi 0, V) := Xx_es [5] P_X1_isWithin 2 _ _ _ V
set_option maxRecDepth 100000 in
theorem s_X1_lay (d : Nat) (V : XM) (a : Int) (b : Int) (c : Int) : Yf (d + 1) 13 [xr 7 0, xi a, xi b, xi c] V =
    if 0 ≤ a ∧ a < 64 then
    if 0 ≤ w32 ((w32 (a * 6)) + (V 38 0 (a.toNat))) ∧ w32 ((w32 (a * 6)) + (V 38 0 (a.toNat))) < 384 then
      if 0 ≤ a ∧ a < 64 then
        if 0 ≤ a ∧ a < 64 then
          if 0 ≤ a ∧ a < 64 then
            if 0 ≤ a ∧ a < 64 then
              if (V 21 0 (a.toNat)) = 3 then
                some (xi 0, (xu (xu (xu V 37 0 ((w32 ((w32 (a * 6)) + (V 38 0 (a.toNat)))).toNat) b) 38 0 (a.toNat) (w32 ((V 38 0 (a.toNat)) + 1))) 39 0 (a.toNat) c))
              else
                if 0 ≤ b ∧ b < 64 then
                  if 0 ≤ b ∧ b < 64 then
                    some (xi 0, (xu (xu (xu (xu V 37 0 ((w32 ((w32 (a * 6)) + (V 38 0 (a.toNat)))).toNat) b) 38 0 (a.toNat) (w32 ((V 38 0 (a.toNat)) + 1))) 39 0 (a.toNat) c) 43 0 (b.toNat) (w32 ((V 43 0 (b.toNat)) + 1))))
                  else
                    none
                else
                  none
            else
              none
          else
            none
        else
          none
      else
        none
    else
      none
  else
    none := Xc_es [] P_X1_lay 2 _ V
set_option maxRecDepth 100000 in
theorem s_X1_lift (d : Nat) (V : XM) (a : Int) : Yf (d + 1) 14 [xr 7 0, xi a] V =
    if 0 ≤ w32 (a * 6) ∧ w32 (a * 6) < 384 then
    if 0 ≤ V 37 0 ((w32 (a * 6)).toNat) ∧ V 37 0 ((w32 (a * 6)).toNat) < 64 then
      if 0 ≤ V 37 0 ((w32 (a * 6)).toNat) ∧ V 37 0 ((w32 (a * 6)).toNat) < 64 then
        if 0 ≤ a ∧ a < 64 then
          if 0 ≤ a ∧ a < 64 then
            some (xi 0, (xu (xu (xu V 43 0 ((V 37 0 ((w32 (a * 6)).toNat)).toNat) (w32 ((V 43 0 ((V 37 0 ((w32 (a * 6)).toNat)).toNat)) - 1))) 38 0 (a.toNat) 0) 39 0 (a.toNat) (-9)))
          else
            none
        else
          none
      else
        none
    else
      none
  else
    none := Xc_es [] P_X1_lift 1 _ V
set_option maxRecDepth 100000 in
theorem s_X1_againstPut (d : Nat) (V : XM) (a : Int) (b : Int) : Yf (d + 1) 15 [xr 7 0, xi a, xi b] V =
    ci (Yf d 99 [xr 4 0, xi a] V) (fun x2 V1 =>
    if x2 = 0 then
      if 0 ≤ a ∧ a < 64 then
        cl (Yf d 186 [xi b] V1) (fun x4 V3 =>
          if (cmp3 (lAnd (V1 40 0 (a.toNat)) x4) 0) = 0 then
            if 0 ≤ a ∧ a < 64 then
              if (V3 42 0 (a.toNat)) < 0 then
                if x2 = 0 then
                  ci (Yf d 17 [xr 7 0, xi a, xi b] V3) (fun x6 V5 =>
                    some (xi x6, V5))
                else
                  ci (Yf d 16 [xr 7 0, xi b] V3) (fun x8 V7 =>
                    if x8 = 0 then
                      ci (Yf d 17 [xr 7 0, xi a, xi b] V7) (fun x10 V9 =>
                        some (xi x10, V9))
                    else
                      if 0 ≤ b ∧ b < 64 then
                        some (xi (V7 45 0 (b.toNat)), V7)
                      else
                        none)
              else
                if 0 ≤ a ∧ a < 64 then
                  cl (Yf d 186 [xi b] V3) (fun x12 V11 =>
                    if (cmp3 (lAnd (V3 41 0 (a.toNat)) x12) 0) = 0 then
                      if 0 ≤ a ∧ a < 64 then
                        some (xi (V11 42 0 (a.toNat)), V11)
                      else
                        none
                    else
                      if x2 = 0 then
                        ci (Yf d 17 [xr 7 0, xi a, xi b] V11) (fun x14 V13 =>
                          some (xi x14, V13))
                      else
                        ci (Yf d 16 [xr 7 0, xi b] V11) (fun x16 V15 =>
                          if x16 = 0 then
                            ci (Yf d 17 [xr 7 0, xi a, xi b] V15) (fun x18 V17 =>
                              some (xi x18, V17))
                          else
                            if 0 ≤ b ∧ b < 64 then
                              some (xi (V15 45 0 (b.toNat)), V15)
                            else
                              none))
                else
                  none
            else
              none
          else
            ci (Yf d 65 [xr 6 0, xi 1, xi a, xi b, xi (-9)] V3) (fun x20 V19 =>
              some (xi x20, V19)))
      else
        none
    else
      ci (Yf d 9 [xr 7 0, xi a] V1) (fun x22 V21 =>
        if x22 = 0 then
          if 0 ≤ a ∧ a < 64 then
            cl (Yf d 186 [xi b] V21) (fun x24 V23 =>
              if (cmp3 (lAnd (V21 40 0 (a.toNat)) x24) 0) = 0 then
                if 0 ≤ a ∧ a < 64 then
                  if (V23 42 0 (a.toNat)) < 0 then
                    if x2 = 0 then
                      ci (Yf d 17 [xr 7 0, xi a, xi b] V23) (fun x26 V25 =>
                        some (xi x26, V25))
                    else
                      ci (Yf d 16 [xr 7 0, xi b] V23) (fun x28 V27 =>
                        if x28 = 0 then
                          ci (Yf d 17 [xr 7 0, xi a, xi b] V27) (fun x30 V29 =>
                            some (xi x30, V29))
                        else
                          if 0 ≤ b ∧ b < 64 then
                            some (xi (V27 45 0 (b.toNat)), V27)
                          else
                            none)
                  else
                    if 0 ≤ a ∧ a < 64 then
                      cl (Yf d 186 [xi b] V23) (fun x32 V31 =>
                        if (cmp3 (lAnd (V23 41 0 (a.toNat)) x32) 0) = 0 then
                          if 0 ≤ a ∧ a < 64 then
                            some (xi (V31 42 0 (a.toNat)), V31)
                          else
                            none
                        else
                          if x2 = 0 then
                            ci (Yf d 17 [xr 7 0, xi a, xi b] V31) (fun x34 V33 =>
                              some (xi x34, V33))
                          else
                            ci (Yf d 16 [xr 7 0, xi b] V31) (fun x36 V35 =>
                              if x36 = 0 then
                                ci (Yf d 17 [xr 7 0, xi a, xi b] V35) (fun x38 V37 =>
                                  some (xi x38, V37))
                              else
                                if 0 ≤ b ∧ b < 64 then
                                  some (xi (V35 45 0 (b.toNat)), V35)
                                else
                                  none))
                    else
                      none
                else
                  none
              else
                ci (Yf d 65 [xr 6 0, xi 1, xi a, xi b, xi (-9)] V23) (fun x40 V39 =>
                  some (xi x40, V39)))
          else
            none
        else
          if 0 ≤ a ∧ a < 64 then
            some (xi (V21 39 0 (a.toNat)), V21)
          else
            none)) := Xc_es [] P_X1_againstPut 5 _ V
set_option maxRecDepth 100000 in
theorem s_X1_isCrowded (d : Nat) (V : XM) (a : Int) : Yf (d + 1) 16 [xr 7 0, xi a] V =
    ci (Yf d 29 [xr 7 0, xi a] V) (fun x2 V1 =>
    if x2 = 0 then
      some (xi 0, V1)
    else
      if 0 ≤ a ∧ a < 64 then
        if 0 ≤ a ∧ a < 64 then
          if (V1 43 0 (a.toNat)) < (V1 44 0 (a.toNat)) then
            some (xi 0, V1)
          else
            some (xi 1, V1)
        else
          none
      else
        none) := Xc_es [] P_X1_isCrowded 3 _ V
set_option maxRecDepth 100000 in
theorem s_X1_againstPairs (d : Nat) (V : XM) (a : Int) (b : Int) : Yf (d + 1) 17 [xr 7 0, xi a, xi b] V =
    Xf d 17 2 [xr 7 0, xi a, xi b, xi 0, xr 0 0] [] V := Xc_es [2] P_X1_againstPairs 1 _ V
set_option maxRecDepth 100000 in
theorem s_X1_againstPairs_2 (d : Nat) (V : XM) (l1 : Int) (l2 : Int) (l3 : Int) : Xf d 17 2 [xr 7 0, xi l1, xi l2, xi l3, xr 0 0] [] V =
    if l3 < (V 7 0 15) then
    ci (Yf d 18 [xr 7 0, xi l3, xi l1] V) (fun x2 V1 =>
      if x2 < 0 then
        Xf d 17 2 [xr 7 0, xi l1, xi l2, xi (w32 (l3 + 1)), xr 0 0] [] V1
      else
        ci (Yf d 9 [xr 7 0, xi x2] V1) (fun x4 V3 =>
          if x4 = 0 then
            Xf d 17 2 [xr 7 0, xi l1, xi l2, xi (w32 (l3 + 1)), xr 0 0] [] V3
          else
            ci (Yf d 8 [xr 7 0, xi x2, xi 0] V3) (fun x6 V5 =>
              if x6 = l2 then
                if 0 ≤ l3 ∧ l3 < 16 then
                  if 1 = (V5 48 0 (l3.toNat)) then
                    Xf d 17 2 [xr 7 0, xi l1, xi l2, xi (w32 (l3 + 1)), xr 0 0] [] V5
                  else
                    if 0 ≤ l3 ∧ l3 < 16 then
                      some (xi (V5 49 0 (l3.toNat)), V5)
                    else
                      none
                else
                  none
              else
                if 0 ≤ l3 ∧ l3 < 16 then
                  if 0 = (V5 48 0 (l3.toNat)) then
                    Xf d 17 2 [xr 7 0, xi l1, xi l2, xi (w32 (l3 + 1)), xr 0 0] [] V5
                  else
                    if 0 ≤ l3 ∧ l3 < 16 then
                      some (xi (V5 49 0 (l3.toNat)), V5)
                    else
                      none
                else
                  none)))
  else
    some (xi (-9), V) := Xx_es [2] P_X1_againstPairs 4 _ _ _ V
set_option maxRecDepth 100000 in
theorem s_X1_partner (d : Nat) (V : XM) (a : Int) (b : Int) : Yf (d + 1) 18 [xr 7 0, xi a, xi b] V =
    if 0 ≤ a ∧ a < 16 then
    if (V 46 0 (a.toNat)) = b then
      if 0 ≤ a ∧ a < 16 then
        some (xi (V 47 0 (a.toNat)), V)
      else
        none
    else
      if 0 ≤ a ∧ a < 16 then
        if (V 47 0 (a.toNat)) = b then
          if 0 ≤ a ∧ a < 16 then
            some (xi (V 46 0 (a.toNat)), V)
          else
            none
        else
          some (xi (-9), V)
      else
        none
  else
    none := Xc_es [] P_X1_partner 4 _ V
set_option maxRecDepth 100000 in
theorem s_X1_againstBar (d : Nat) (V : XM) (a : Int) (b : Int) : Yf (d + 1) 19 [xr 7 0, xi a, xi b] V =
    ci (Yf d 10 [xr 7 0, xi a, xi b] V) (fun x2 V1 =>
    if x2 = 0 then
      if 0 ≤ a ∧ a < 64 then
        if (V1 42 0 (a.toNat)) < 0 then
          some (xi (-9), V1)
        else
          if 0 ≤ a ∧ a < 64 then
            cl (Yf d 186 [xi b] V1) (fun x4 V3 =>
              if (cmp3 (lAnd (V1 41 0 (a.toNat)) (lXor x4 (-1))) 0) = 0 then
                if 0 ≤ a ∧ a < 64 then
                  some (xi (V3 42 0 (a.toNat)), V3)
                else
                  none
              else
                some (xi (-9), V3))
          else
            none
      else
        none
    else
      ci (Yf d 65 [xr 6 0, xi 0, xi a, xi b, xi (-9)] V1) (fun x6 V5 =>
        some (xi x6, V5))) := Xc_es [] P_X1_againstBar 4 _ V
set_option maxRecDepth 100000 in
theorem s_X1_shut (d : Nat) (V : XM) (a : Int) (b : Int) : Yf (d + 1) 20 [xr 7 0, xi a, xi b] V =
    if 0 ≤ a ∧ a < 64 then
    cl (Yf d 186 [xi b] V) (fun x2 V1 =>
      if 0 ≤ a ∧ a < 64 then
        if 0 ≤ a ∧ a < 64 then
          cl (Yf d 186 [xi b] (xu V1 40 0 (a.toNat) (lOr (V 40 0 (a.toNat)) x2))) (fun x4 V3 =>
            if 0 ≤ a ∧ a < 64 then
              some (xi 0, (xu V3 41 0 (a.toNat) (lAnd (V1 41 0 (a.toNat)) (lXor x4 (-1)))))
            else
              none)
        else
          none
      else
        none)
  else
    none := Xc_es [] P_X1_shut 1 _ V
set_option maxRecDepth 100000 in
theorem s_X1_againstAmong (d : Nat) (V : XM) (a : Int) (b : Int) : Yf (d + 1) 21 [xr 7 0, xi a, xl b] V =
    ci (Yf d 9 [xr 7 0, xi a] V) (fun x2 V1 =>
    if x2 = 0 then
      if 0 ≤ a ∧ a < 64 then
        if (V1 42 0 (a.toNat)) < 0 then
          if 0 ≤ a ∧ a < 64 then
            if (cmp3 (lAnd b (lXor (V1 40 0 (a.toNat)) (-1))) 0) = 0 then
              ci (Yf d 22 [xr 7 0, xi a, xl b] V1) (fun x4 V3 =>
                some (xi x4, V3))
            else
              some (xi (-9), V1)
          else
            none
        else
          if 0 ≤ a ∧ a < 64 then
            if (cmp3 (lAnd b (V1 41 0 (a.toNat))) 0) = 0 then
              if 0 ≤ a ∧ a < 64 then
                some (xi (V1 42 0 (a.toNat)), V1)
              else
                none
            else
              if 0 ≤ a ∧ a < 64 then
                if (cmp3 (lAnd b (lXor (V1 40 0 (a.toNat)) (-1))) 0) = 0 then
                  ci (Yf d 22 [xr 7 0, xi a, xl b] V1) (fun x6 V5 =>
                    some (xi x6, V5))
                else
                  some (xi (-9), V1)
              else
                none
          else
            none
      else
        none
    else
      ci (Yf d 8 [xr 7 0, xi a, xi 0] V1) (fun x8 V7 =>
        cl (Yf d 186 [xi x8] V7) (fun x10 V9 =>
          if (cmp3 (lAnd b x10) 0) = 0 then
            if 0 ≤ a ∧ a < 64 then
              some (xi (V9 39 0 (a.toNat)), V9)
            else
              none
          else
            if 0 ≤ a ∧ a < 64 then
              if (V9 42 0 (a.toNat)) < 0 then
                if 0 ≤ a ∧ a < 64 then
                  if (cmp3 (lAnd b (lXor (V9 40 0 (a.toNat)) (-1))) 0) = 0 then
                    ci (Yf d 22 [xr 7 0, xi a, xl b] V9) (fun x12 V11 =>
                      some (xi x12, V11))
                  else
                    some (xi (-9), V9)
                else
                  none
              else
                if 0 ≤ a ∧ a < 64 then
                  if (cmp3 (lAnd b (V9 41 0 (a.toNat))) 0) = 0 then
                    if 0 ≤ a ∧ a < 64 then
                      some (xi (V9 42 0 (a.toNat)), V9)
                    else
                      none
                  else
                    if 0 ≤ a ∧ a < 64 then
                      if (cmp3 (lAnd b (lXor (V9 40 0 (a.toNat)) (-1))) 0) = 0 then
                        ci (Yf d 22 [xr 7 0, xi a, xl b] V9) (fun x14 V13 =>
                          some (xi x14, V13))
                      else
                        some (xi (-9), V9)
                    else
                      none
                else
                  none
            else
              none))) := Xc_es [] P_X1_againstAmong 5 _ V
set_option maxRecDepth 100000 in
theorem s_X1_earliestBarInto (d : Nat) (V : XM) (a : Int) (b : Int) : Yf (d + 1) 22 [xr 7 0, xi a, xl b] V =
    Xf d 22 3 [xr 7 0, xi a, xl b, xr 0 0, xi 0] [] V := Xc_es [3] P_X1_earliestBarInto 1 _ V
set_option maxRecDepth 100000 in
theorem s_X1_earliestBarInto_3 (d : Nat) (V : XM) (l1 : Int) (l2 : Int) (l4 : Int) : Xf d 22 3 [xr 7 0, xi l1, xl l2, xr 0 0, xi l4] [] V =
    if l4 < (V 6 0 4) then
    if 0 ≤ l4 ∧ l4 < 300 then
      if (V 33 0 (l4.toNat)) = 1 then
        if 0 ≤ l4 ∧ l4 < 300 then
          if (V 34 0 (l4.toNat)) = l1 then
            if 0 ≤ l4 ∧ l4 < 300 then
              cl (Yf d 186 [xi (V 35 0 (l4.toNat))] V) (fun x2 V1 =>
                if (cmp3 (lAnd l2 x2) 0) = 0 then
                  Xf d 22 3 [xr 7 0, xi l1, xl l2, xr 0 0, xi (w32 (l4 + 1))] [] V1
                else
                  some (xi l4, V1))
            else
              none
          else
            Xf d 22 3 [xr 7 0, xi l1, xl l2, xr 0 0, xi (w32 (l4 + 1))] [] V
        else
          none
      else
        Xf d 22 3 [xr 7 0, xi l1, xl l2, xr 0 0, xi (w32 (l4 + 1))] [] V
    else
      none
  else
    some (xi (-9), V) := Xx_es [3] P_X1_earliestBarInto 2 _ _ _ V
set_option maxRecDepth 100000 in
theorem s_X1_narrow (d : Nat) (V : XM) (a : Int) (b : Int) (c : Int) : Yf (d + 1) 23 [xr 7 0, xi a, xl b, xi c] V =
    if 0 ≤ a ∧ a < 64 then
    if (V 42 0 (a.toNat)) < 0 then
      if 0 ≤ a ∧ a < 64 then
        if 0 ≤ a ∧ a < 64 then
          if 0 ≤ a ∧ a < 64 then
            some (xi 0, (xu (xu V 41 0 (a.toNat) (lAnd (lAnd b (-1)) (lXor (V 40 0 (a.toNat)) (-1)))) 42 0 (a.toNat) c))
          else
            none
        else
          none
      else
        none
    else
      if 0 ≤ a ∧ a < 64 then
        if 0 ≤ a ∧ a < 64 then
          if 0 ≤ a ∧ a < 64 then
            if 0 ≤ a ∧ a < 64 then
              some (xi 0, (xu (xu V 41 0 (a.toNat) (lAnd (lAnd b (V 41 0 (a.toNat))) (lXor (V 40 0 (a.toNat)) (-1)))) 42 0 (a.toNat) c))
            else
              none
          else
            none
        else
          none
      else
        none
  else
    none := Xc_es [] P_X1_narrow 3 _ V
set_option maxRecDepth 100000 in
theorem s_X1_setOf (d : Nat) (V : XM) (a : Int) : Yf (d + 1) 24 [xr 7 0, xi a] V =
    if 0 ≤ a ∧ a < 64 then
    some (xl (V 41 0 (a.toNat)), V)
  else
    none := Xc_es [] P_X1_setOf 1 _ V
set_option maxRecDepth 100000 in
theorem s_X1_isUnsettled (d : Nat) (V : XM) (a : Int) : Yf (d + 1) 25 [xr 7 0, xi a] V =
    if 0 ≤ a ∧ a < 64 then
    if (V 42 0 (a.toNat)) < 0 then
      some (xi 0, V)
    else
      ci (Yf d 9 [xr 7 0, xi a] V) (fun x2 V1 =>
        if x2 = 0 then
          some (xi 1, V1)
        else
          some (xi 0, V1))
  else
    none := Xc_es [] P_X1_isUnsettled 3 _ V
set_option maxRecDepth 100000 in
theorem s_X1_unsettled (d : Nat) (V : XM) : Yf (d + 1) 26 [xr 7 0] V =
    Xf d 26 4 [xr 7 0, xi 0, xi 0] [] V := Xc_es [4] P_X1_unsettled 1 _ V
set_option maxRecDepth 100000 in
theorem s_X1_unsettled_4 (d : Nat) (V : XM) (l1 : Int) (l2 : Int) : Xf d 26 4 [xr 7 0, xi l1, xi l2] [] V =
    if l2 < (V 4 0 7) then
    ci (Yf d 25 [xr 7 0, xi l2] V) (fun x2 V1 =>
      if x2 = 0 then
        Xf d 26 4 [xr 7 0, xi l1, xi (w32 (l2 + 1))] [] V1
      else
        Xf d 26 4 [xr 7 0, xi (w32 (l1 + 1)), xi (w32 (l2 + 1))] [] V1)
  else
    some (xi l1, V) := Xx_es [4] P_X1_unsettled 2 _ _ _ V
set_option maxRecDepth 100000 in
theorem s_X1_againstPairing (d : Nat) (V : XM) (a : Int) (b : Int) (c : Int) : Yf (d + 1) 27 [xr 7 0, xi a, xi b, xi c] V =
    Xf d 27 3 [xr 7 0, xi a, xi b, xi c, xi 0] [] V := Xc_es [3] P_X1_againstPairing 1 _ V
set_option maxRecDepth 100000 in
theorem s_X1_againstPairing_3 (d : Nat) (V : XM) (l1 : Int) (l2 : Int) (l3 : Int) (l4 : Int) : Xf d 27 3 [xr 7 0, xi l1, xi l2, xi l3, xi l4] [] V =
    if l4 < (V 7 0 15) then
    ci (Yf d 18 [xr 7 0, xi l4, xi l1] V) (fun x2 V1 =>
      if x2 = l2 then
        if 0 ≤ l4 ∧ l4 < 16 then
          if (V1 48 0 (l4.toNat)) = l3 then
            Xf d 27 3 [xr 7 0, xi l1, xi l2, xi l3, xi (w32 (l4 + 1))] [] V1
          else
            if 0 ≤ l4 ∧ l4 < 16 then
              some (xi (V1 49 0 (l4.toNat)), V1)
            else
              none
        else
          none
      else
        Xf d 27 3 [xr 7 0, xi l1, xi l2, xi l3, xi (w32 (l4 + 1))] [] V1)
  else
    ci (Yf d 9 [xr 7 0, xi l1] V) (fun x4 V3 =>
      if x4 = 0 then
        some (xi (-9), V3)
      else
        ci (Yf d 9 [xr 7 0, xi l2] V3) (fun x6 V5 =>
          if x6 = 0 then
            some (xi (-9), V5)
          else
            ci (Yf d 8 [xr 7 0, xi l1, xi 0] V5) (fun x8 V7 =>
              ci (Yf d 8 [xr 7 0, xi l2, xi 0] V7) (fun x10 V9 =>
                if x8 = x10 then
                  if 1 = l3 then
                    some (xi (-9), V9)
                  else
                    if 0 ≤ l1 ∧ l1 < 64 then
                      if 0 ≤ l2 ∧ l2 < 64 then
                        ci (Yf d 309 [xi (V9 39 0 (l1.toNat)), xi (V9 39 0 (l2.toNat))] V9) (fun x12 V11 =>
                          some (xi x12, V11))
                      else
                        none
                    else
                      none
                else
                  if 0 = l3 then
                    some (xi (-9), V9)
                  else
                    if 0 ≤ l1 ∧ l1 < 64 then
                      if 0 ≤ l2 ∧ l2 < 64 then
                        ci (Yf d 309 [xi (V9 39 0 (l1.toNat)), xi (V9 39 0 (l2.toNat))] V9) (fun x14 V13 =>
                          some (xi x14, V13))
                      else
                        none
                    else
                      none)))) := Xx_es [3] P_X1_againstPairing 5 _ _ _ V
set_option maxRecDepth 100000 in
theorem s_X1_addPair (d : Nat) (V : XM) (a : Int) (b : Int) (c : Int) (e : Int) : Yf (d + 1) 28 [xr 7 0, xi a, xi b, xi c, xi e] V =
    if 0 ≤ V 7 0 15 ∧ V 7 0 15 < 16 then
    if 0 ≤ V 7 0 15 ∧ V 7 0 15 < 16 then
      if 0 ≤ V 7 0 15 ∧ V 7 0 15 < 16 then
        if 0 ≤ V 7 0 15 ∧ V 7 0 15 < 16 then
          some (xi 0, (xu (xu (xu (xu (xu V 46 0 ((V 7 0 15).toNat) a) 47 0 ((V 7 0 15).toNat) b) 48 0 ((V 7 0 15).toNat) (c % 2)) 49 0 ((V 7 0 15).toNat) e) 7 0 15 (w32 ((V 7 0 15) + 1))))
        else
          none
      else
        none
    else
      none
  else
    none := Xc_es [] P_X1_addPair 1 _ V
set_option maxRecDepth 100000 in
theorem s_X1_hasMost (d : Nat) (V : XM) (a : Int) : Yf (d + 1) 29 [xr 7 0, xi a] V =
    if 0 ≤ a ∧ a < 64 then
    if (V 45 0 (a.toNat)) < 0 then
      some (xi 0, V)
    else
      some (xi 1, V)
  else
    none := Xc_es [] P_X1_hasMost 3 _ V
set_option maxRecDepth 100000 in
theorem s_X1_tellMost (d : Nat) (V : XM) (a : Int) (b : Int) (c : Int) : Yf (d + 1) 30 [xr 7 0, xi a, xi b, xi c] V =
    if 0 ≤ a ∧ a < 64 then
    if 0 ≤ a ∧ a < 64 then
      some (xi 0, (xu (xu V 44 0 (a.toNat) b) 45 0 (a.toNat) c))
    else
      none
  else
    none := Xc_es [] P_X1_tellMost 1 _ V
set_option maxRecDepth 100000 in
theorem s_X1_putBehind (d : Nat) (V : XM) (a : Int) (b : Int) : Yf (d + 1) 31 [xr 7 0, xi a, xi b] V =
    Xf d 31 5 [xr 7 0, xi a, xi b, xi 0, xi 0] [] V := Xc_es [5] P_X1_putBehind 1 _ V
set_option maxRecDepth 100000 in
theorem s_X1_putBehind_5 (d : Nat) (V : XM) (l1 : Int) (l2 : Int) (l3 : Int) (l4 : Int) : Xf d 31 5 [xr 7 0, xi l1, xi l2, xi l3, xi l4] [] V =
    if l4 < (V 6 0 4) then
    if 0 ≤ l4 ∧ l4 < 300 then
      if (V 33 0 (l4.toNat)) = 0 then
        if 0 ≤ l4 ∧ l4 < 300 then
          if (V 35 0 (l4.toNat)) = l1 then
            if 0 ≤ l4 ∧ l4 < 300 then
              if 0 ≤ V 34 0 (l4.toNat) ∧ V 34 0 (l4.toNat) < 64 then
                if (V 21 0 ((V 34 0 (l4.toNat)).toNat)) = 3 then
                  Xf d 31 5 [xr 7 0, xi l1, xi l2, xi l3, xi (w32 (l4 + 1))] [] V
                else
                  if l3 = l2 then
                    some (xi l4, V)
                  else
                    Xf d 31 5 [xr 7 0, xi l1, xi l2, xi (w32 (l3 + 1)), xi (w32 (l4 + 1))] [] V
              else
                none
            else
              none
          else
            Xf d 31 5 [xr 7 0, xi l1, xi l2, xi l3, xi (w32 (l4 + 1))] [] V
        else
          none
      else
        Xf d 31 5 [xr 7 0, xi l1, xi l2, xi l3, xi (w32 (l4 + 1))] [] V
    else
      none
  else
    some (xi (-9), V) := Xx_es [5] P_X1_putBehind 3 _ _ _ V
set_option maxRecDepth 100000 in
theorem s_X1_bulk (d : Nat) (V : XM) (a : Int) : Yf (d + 1) 32 [xr 7 0, xi a] V =
    if 0 ≤ a ∧ a < 64 then
    if (V 21 0 (a.toNat)) = 1 then
      ci (Yf d 34 [xr 7 0, xi a] V) (fun x2 V1 =>
        some (xi x2, V1))
    else
      if (V 21 0 (a.toNat)) = 1 + 1 then
        if 0 ≤ a ∧ a < 64 then
          some (xi (w32 (2 * (V 22 0 (a.toNat)))), V)
        else
          none
      else
        if (V 21 0 (a.toNat)) = 1 + 1 + 1 then
          some (xi 0, V)
        else
          if (V 21 0 (a.toNat)) = 1 + 1 + 1 + 1 then
            ci (Yf d 33 [xr 7 0, xi a] V) (fun x4 V3 =>
              ci (Yf d 34 [xr 7 0, xi a] V3) (fun x6 V5 =>
                some (xi (w32 (x4 + x6)), V5)))
          else
            if (V 21 0 (a.toNat)) = 1 + 1 + 1 + 1 + 1 then
              ci (Yf d 33 [xr 7 0, xi a] V) (fun x8 V7 =>
                ci (Yf d 34 [xr 7 0, xi a] V7) (fun x10 V9 =>
                  some (xi (w32 (x8 + x10)), V9)))
            else
              ci (Yf d 33 [xr 7 0, xi a] V) (fun x12 V11 =>
                some (xi x12, V11))
  else
    none := Xc_es [] P_X1_bulk 2 _ V
set_option maxRecDepth 100000 in
theorem s_X1_bulkAlone (d : Nat) (V : XM) (a : Int) : Yf (d + 1) 33 [xr 7 0, xi a] V =
    if 0 ≤ a ∧ a < 64 then
    if 0 ≤ a ∧ a < 64 then
      if (V 21 0 (a.toNat)) = 5 then
        some (xi (w32 ((V 22 0 (a.toNat)) + 10)), V)
      else
        some (xi (w32 ((V 22 0 (a.toNat)) + 0)), V)
    else
      none
  else
    none := Xc_es [] P_X1_bulkAlone 3 _ V
set_option maxRecDepth 100000 in
theorem s_X1_load (d : Nat) (V : XM) (a : Int) : Yf (d + 1) 34 [xr 7 0, xi a] V =
    Xf d 34 4 [xr 7 0, xi a, xi 0, xi 0] [] V := Xc_es [4] P_X1_load 1 _ V
set_option maxRecDepth 100000 in
theorem s_X1_load_4 (d : Nat) (V : XM) (l1 : Int) (l2 : Int) (l3 : Int) : Xf d 34 4 [xr 7 0, xi l1, xi l2, xi l3] [] V =
    if l3 < (V 4 0 7) then
    if 0 ≤ l3 ∧ l3 < 64 then
      if (V 21 0 (l3.toNat)) = 3 then
        Xf d 34 4 [xr 7 0, xi l1, xi l2, xi (w32 (l3 + 1))] [] V
      else
        ci (Yf d 9 [xr 7 0, xi l3] V) (fun x2 V1 =>
          if x2 = 0 then
            Xf d 34 4 [xr 7 0, xi l1, xi l2, xi (w32 (l3 + 1))] [] V1
          else
            ci (Yf d 8 [xr 7 0, xi l3, xi 0] V1) (fun x4 V3 =>
              ci (Yf d 12 [xr 7 0, xi x4, xi l1] V3) (fun x6 V5 =>
                if x6 = 0 then
                  Xf d 34 4 [xr 7 0, xi l1, xi l2, xi (w32 (l3 + 1))] [] V5
                else
                  ci (Yf d 33 [xr 7 0, xi l3] V5) (fun x8 V7 =>
                    Xf d 34 4 [xr 7 0, xi l1, xi (w32 (l2 + x8)), xi (w32 (l3 + 1))] [] V7))))
    else
      none
  else
    some (xi l2, V) := Xx_es [4] P_X1_load 2 _ _ _ V
set_option maxRecDepth 100000 in
theorem s_X2_add (d : Nat) (V : XM) (a : Int) : Yf (d + 1) 36 [xr 10 0, xi a] V =
    if 0 ≤ V 10 0 6 ∧ V 10 0 6 < 8 then
    Xf d 36 12 [xr 10 0, xi a, xi 0] [] (xu V 54 0 ((V 10 0 6).toNat) a)
  else
    none := Xc_es [12] P_X2_add 1 _ V
set_option maxRecDepth 100000 in
theorem s_X2_add_12 (d : Nat) (V : XM) (l1 : Int) (l2 : Int) : Xf d 36 12 [xr 10 0, xi l1, xi l2] [] V =
    if l2 < 64 then
    if l1 = 5 then
      cl (Yf d 186 [xi l2] V) (fun x2 V1 =>
        if 0 ≤ w32 ((w32 ((V 10 0 6) * 64)) + l2) ∧ w32 ((w32 ((V 10 0 6) * 64)) + l2) < 512 then
          Xf d 36 12 [xr 10 0, xi l1, xi (w32 (l2 + 1))] [] (xu V1 55 0 ((w32 ((w32 ((V 10 0 6) * 64)) + l2)).toNat) x2)
        else
          none)
    else
      if 0 ≤ w32 ((w32 ((V 10 0 6) * 64)) + l2) ∧ w32 ((w32 ((V 10 0 6) * 64)) + l2) < 512 then
        Xf d 36 12 [xr 10 0, xi l1, xi (w32 (l2 + 1))] [] (xu V 55 0 ((w32 ((w32 ((V 10 0 6) * 64)) + l2)).toNat) 0)
      else
        none
  else
    some (xi (V 10 0 6), (xu V 10 0 6 (w32 ((V 10 0 6) + 1)))) := Xx_es [12] P_X2_add 3 _ _ _ V
set_option maxRecDepth 100000 in
theorem s_X2_has (d : Nat) (V : XM) (a : Int) : Yf (d + 1) 37 [xr 10 0, xi a] V =
    ci (Yf d 123 [xi a, xi (V 10 0 6)] V) (fun x2 V1 =>
    if x2 = 0 ∨ x2 = 1 then
      some (xi x2, V1)
    else
      none) := Xc_es [] P_X2_has 1 _ V
set_option maxRecDepth 100000 in
theorem s_X2_rowOf (d : Nat) (V : XM) (a : Int) (b : Int) : Yf (d + 1) 38 [xr 10 0, xi a, xi b] V =
    if 0 ≤ w32 ((w32 (a * 64)) + b) ∧ w32 ((w32 (a * 64)) + b) < 512 then
    some (xl (V 55 0 ((w32 ((w32 (a * 64)) + b)).toNat)), V)
  else
    none := Xc_es [] P_X2_rowOf 1 _ V
set_option maxRecDepth 100000 in
theorem s_X2_holds (d : Nat) (V : XM) (a : Int) (b : Int) (c : Int) : Yf (d + 1) 39 [xr 10 0, xi a, xi b, xi c] V =
    cl (Yf d 38 [xr 10 0, xi a, xi b] V) (fun x2 V1 =>
    cl (Yf d 186 [xi c] V1) (fun x4 V3 =>
      if (cmp3 (lAnd x2 x4) 0) = 0 then
        some (xi 0, V3)
      else
        some (xi 1, V3))) := Xc_es [] P_X2_holds 3 _ V
set_option maxRecDepth 100000 in
theorem s_X2_join (d : Nat) (V : XM) (a : Int) (b : Int) (c : Int) : Yf (d + 1) 40 [xr 10 0, xi a, xi b, xi c] V =
    if 0 ≤ a ∧ a < 8 then
    if (V 54 0 (a.toNat)) = 5 then
      cv (Yf d 41 [xr 55 0, xi (w32 (a * 64)), xi b, xi c] V) (fun V1 =>
        some (xi 0, V1))
    else
      if 0 ≤ w32 ((w32 (a * 64)) + b) ∧ w32 ((w32 (a * 64)) + b) < 512 then
        cl (Yf d 186 [xi c] V) (fun x3 V2 =>
          if 0 ≤ w32 ((w32 (a * 64)) + b) ∧ w32 ((w32 (a * 64)) + b) < 512 then
            if 0 ≤ a ∧ a < 8 then
              if (V2 54 0 (a.toNat)) = 4 then
                if 0 ≤ w32 ((w32 (a * 64)) + c) ∧ w32 ((w32 (a * 64)) + c) < 512 then
                  cl (Yf d 186 [xi b] (xu V2 55 0 ((w32 ((w32 (a * 64)) + b)).toNat) (lOr (V 55 0 ((w32 ((w32 (a * 64)) + b)).toNat)) x3))) (fun x5 V4 =>
                    if 0 ≤ w32 ((w32 (a * 64)) + c) ∧ w32 ((w32 (a * 64)) + c) < 512 then
                      some (xi 0, (xu V4 55 0 ((w32 ((w32 (a * 64)) + c)).toNat) (lOr ((xu V2 55 0 ((w32 ((w32 (a * 64)) + b)).toNat) (lOr (V 55 0 ((w32 ((w32 (a * 64)) + b)).toNat)) x3)) 55 0 ((w32 ((w32 (a * 64)) + c)).toNat)) x5)))
                    else
                      none)
                else
                  none
              else
                some (xi 0, (xu V2 55 0 ((w32 ((w32 (a * 64)) + b)).toNat) (lOr (V 55 0 ((w32 ((w32 (a * 64)) + b)).toNat)) x3)))
            else
              none
          else
            none)
      else
        none
  else
    none := Xc_es [] P_X2_join 3 _ V
set_option maxRecDepth 100000 in
theorem s_X2_merge (d : Nat) (V : XM) (b : Int) (c : Int) (e : Int) : Yf (d + 1) 41 [xr 56 0, xi b, xi c, xi e] V =
    if 0 ≤ w32 (b + c) ∧ w32 (b + c) < 64 then
    if 0 ≤ w32 (b + e) ∧ w32 (b + e) < 64 then
      Xf d 41 16 [xr 56 0, xi b, xr 0 0, xr 0 0, xl (lOr (V 56 0 ((w32 (b + c)).toNat)) (V 56 0 ((w32 (b + e)).toNat))), xr 0 0, xi 0] [] V
    else
      none
  else
    none := Xc_es [16] P_X2_merge 1 _ V
set_option maxRecDepth 100000 in
theorem s_X2_merge_16 (d : Nat) (V : XM) (l1 : Int) (l4 : Int) (l6 : Int) : Xf d 41 16 [xr 56 0, xi l1, xr 0 0, xr 0 0, xl l4, xr 0 0, xi l6] [] V =
    if l6 < 64 then
    cl (Yf d 186 [xi l6] V) (fun x2 V1 =>
      if (cmp3 (lAnd l4 x2) 0) = 0 then
        Xf d 41 16 [xr 56 0, xi l1, xr 0 0, xr 0 0, xl l4, xr 0 0, xi (w32 (l6 + 1))] [] V1
      else
        if 0 ≤ w32 (l1 + l6) ∧ w32 (l1 + l6) < 64 then
          Xf d 41 16 [xr 56 0, xi l1, xr 0 0, xr 0 0, xl l4, xr 0 0, xi (w32 (l6 + 1))] [] (xu V1 56 0 ((w32 (l1 + l6)).toNat) l4)
        else
          none)
  else
    some (xi 0, V) := Xx_es [16] P_X2_merge 2 _ _ _ V
set_option maxRecDepth 100000 in
theorem s_X2_merge_r (d : Nat) (V : XM) (a : Int) (b : Int) (c : Int) : Yf (d + 1) 41 [xr 55 0, xi a, xi b, xi c] V =
    if 0 ≤ w32 (a + b) ∧ w32 (a + b) < 512 then
    if 0 ≤ w32 (a + c) ∧ w32 (a + c) < 512 then
      Xf d 41 16 [xr 55 0, xi a, xr 0 0, xr 0 0, xl (lOr (V 55 0 ((w32 (a + b)).toNat)) (V 55 0 ((w32 (a + c)).toNat))), xr 0 0, xi 0] [] V
    else
      none
  else
    none := Xc_es [16] P_X2_merge 1 _ V
set_option maxRecDepth 100000 in
theorem s_X2_merge_16_r (d : Nat) (V : XM) (l1 : Int) (l4 : Int) (l6 : Int) : Xf d 41 16 [xr 55 0, xi l1, xr 0 0, xr 0 0, xl l4, xr 0 0, xi l6] [] V =
    if l6 < 64 then
    cl (Yf d 186 [xi l6] V) (fun x2 V1 =>
      if (cmp3 (lAnd l4 x2) 0) = 0 then
        Xf d 41 16 [xr 55 0, xi l1, xr 0 0, xr 0 0, xl l4, xr 0 0, xi (w32 (l6 + 1))] [] V1
      else
        if 0 ≤ w32 (l1 + l6) ∧ w32 (l1 + l6) < 512 then
          Xf d 41 16 [xr 55 0, xi l1, xr 0 0, xr 0 0, xl l4, xr 0 0, xi (w32 (l6 + 1))] [] (xu V1 55 0 ((w32 (l1 + l6)).toNat) l4)
        else
          none)
  else
    some (xi 0, V) := Xx_es [16] P_X2_merge 2 _ _ _ V
set_option maxRecDepth 100000 in
theorem s_X2_againstRelate (d : Nat) (V : XM) (a : Int) (b : Int) (c : Int) : Yf (d + 1) 42 [xr 10 0, xi a, xi b, xi c] V =
    if 0 ≤ a ∧ a < 8 then
    ci (Yf d 43 [xr 10 0, xi a, xi b, xi c] V) (fun x2 V1 =>
      if x2 < 0 then
        if (V 54 0 (a.toNat)) = 0 then
          ci (Yf d 44 [xr 10 0, xi a, xi b, xi (-9)] V1) (fun x4 V3 =>
            if x4 < 0 then
              if (V 54 0 (a.toNat)) = 0 then
                ci (Yf d 44 [xr 10 0, xi a, xi (-9), xi c] V3) (fun x6 V5 =>
                  some (xi x6, V5))
              else
                if (V 54 0 (a.toNat)) = 1 then
                  ci (Yf d 44 [xr 10 0, xi a, xi (-9), xi c] V3) (fun x8 V7 =>
                    some (xi x8, V7))
                else
                  some (xi (-9), V3)
            else
              some (xi x4, V3))
        else
          if (V 54 0 (a.toNat)) = 2 then
            ci (Yf d 44 [xr 10 0, xi a, xi b, xi (-9)] V1) (fun x10 V9 =>
              if x10 < 0 then
                if (V 54 0 (a.toNat)) = 0 then
                  ci (Yf d 44 [xr 10 0, xi a, xi (-9), xi c] V9) (fun x12 V11 =>
                    some (xi x12, V11))
                else
                  if (V 54 0 (a.toNat)) = 1 then
                    ci (Yf d 44 [xr 10 0, xi a, xi (-9), xi c] V9) (fun x14 V13 =>
                      some (xi x14, V13))
                  else
                    some (xi (-9), V9)
              else
                some (xi x10, V9))
          else
            if (V 54 0 (a.toNat)) = 0 then
              ci (Yf d 44 [xr 10 0, xi a, xi (-9), xi c] V1) (fun x16 V15 =>
                some (xi x16, V15))
            else
              if (V 54 0 (a.toNat)) = 1 then
                ci (Yf d 44 [xr 10 0, xi a, xi (-9), xi c] V1) (fun x18 V17 =>
                  some (xi x18, V17))
              else
                some (xi (-9), V1)
      else
        some (xi x2, V1))
  else
    none := Xc_es [] P_X2_againstRelate 6 _ V
set_option maxRecDepth 100000 in
theorem s_X2_earliestDeny (d : Nat) (V : XM) (a : Int) (b : Int) (c : Int) : Yf (d + 1) 43 [xr 10 0, xi a, xi b, xi c] V =
    cl (Yf d 186 [xi b] V) (fun x2 V1 =>
    cl (Yf d 186 [xi c] V1) (fun x4 V3 =>
      if 0 ≤ a ∧ a < 8 then
        if (V3 54 0 (a.toNat)) = 5 then
          cl (Yf d 38 [xr 10 0, xi a, xi b] V3) (fun x6 V5 =>
            cl (Yf d 38 [xr 10 0, xi a, xi c] V5) (fun x8 V7 =>
              if 0 ≤ a ∧ a < 8 then
                if (V7 54 0 (a.toNat)) = 5 then
                  Xf d 43 68 [xr 10 0, xi a, xr 0 0, xr 0 0, xl x6, xr 0 0, xl x8, xr 0 0, xi 1, xi 0, xr 0 0, xr 0 0, xr 0 0, xr 0 0] [] V7
                else
                  if 0 ≤ a ∧ a < 8 then
                    if (V7 54 0 (a.toNat)) = 4 then
                      Xf d 43 68 [xr 10 0, xi a, xr 0 0, xr 0 0, xl x6, xr 0 0, xl x8, xr 0 0, xi 1, xi 0, xr 0 0, xr 0 0, xr 0 0, xr 0 0] [] V7
                    else
                      Xf d 43 68 [xr 10 0, xi a, xr 0 0, xr 0 0, xl x6, xr 0 0, xl x8, xr 0 0, xi 0, xi 0, xr 0 0, xr 0 0, xr 0 0, xr 0 0] [] V7
                  else
                    none
              else
                none))
        else
          if 0 ≤ a ∧ a < 8 then
            if (V3 54 0 (a.toNat)) = 5 then
              Xf d 43 68 [xr 10 0, xi a, xr 0 0, xr 0 0, xl x2, xr 0 0, xl x4, xr 0 0, xi 1, xi 0, xr 0 0, xr 0 0, xr 0 0, xr 0 0] [] V3
            else
              if 0 ≤ a ∧ a < 8 then
                if (V3 54 0 (a.toNat)) = 4 then
                  Xf d 43 68 [xr 10 0, xi a, xr 0 0, xr 0 0, xl x2, xr 0 0, xl x4, xr 0 0, xi 1, xi 0, xr 0 0, xr 0 0, xr 0 0, xr 0 0] [] V3
                else
                  Xf d 43 68 [xr 10 0, xi a, xr 0 0, xr 0 0, xl x2, xr 0 0, xl x4, xr 0 0, xi 0, xi 0, xr 0 0, xr 0 0, xr 0 0, xr 0 0] [] V3
              else
                none
          else
            none
      else
        none)) := Xc_es [68] P_X2_earliestDeny 4 _ V
set_option maxRecDepth 100000 in
theorem s_X2_earliestDeny_68 (d : Nat) (V : XM) (l1 : Int) (l4 : Int) (l6 : Int) (l8 : Int) (l9 : Int) : Xf d 43 68 [xr 10 0, xi l1, xr 0 0, xr 0 0, xl l4, xr 0 0, xl l6, xr 0 0, xi l8, xi l9, xr 0 0, xr 0 0, xr 0 0, xr 0 0] [] V =
    if l9 < (V 6 0 4) then
    if 0 ≤ l9 ∧ l9 < 300 then
      if (V 33 0 (l9.toNat)) = 7 then
        if 0 ≤ l9 ∧ l9 < 300 then
          if (V 34 0 (l9.toNat)) = l1 then
            if 0 ≤ l9 ∧ l9 < 300 then
              cl (Yf d 186 [xi (V 35 0 (l9.toNat))] V) (fun x2 V1 =>
                if 0 ≤ l9 ∧ l9 < 300 then
                  cl (Yf d 186 [xi (V1 36 0 (l9.toNat))] V1) (fun x4 V3 =>
                    if (cmp3 (lAnd x2 l4) 0) = 0 then
                      if l8 = 0 then
                        Xf d 43 68 [xr 10 0, xi l1, xr 0 0, xr 0 0, xl l4, xr 0 0, xl l6, xr 0 0, xi l8, xi (w32 (l9 + 1)), xr 0 0, xr 0 0, xr 0 0, xr 0 0] [] V3
                      else
                        if (cmp3 (lAnd x2 l6) 0) = 0 then
                          Xf d 43 68 [xr 10 0, xi l1, xr 0 0, xr 0 0, xl l4, xr 0 0, xl l6, xr 0 0, xi l8, xi (w32 (l9 + 1)), xr 0 0, xr 0 0, xr 0 0, xr 0 0] [] V3
                        else
                          if (cmp3 (lAnd x4 l4) 0) = 0 then
                            Xf d 43 68 [xr 10 0, xi l1, xr 0 0, xr 0 0, xl l4, xr 0 0, xl l6, xr 0 0, xi l8, xi (w32 (l9 + 1)), xr 0 0, xr 0 0, xr 0 0, xr 0 0] [] V3
                          else
                            some (xi l9, V3)
                    else
                      if (cmp3 (lAnd x4 l6) 0) = 0 then
                        if l8 = 0 then
                          Xf d 43 68 [xr 10 0, xi l1, xr 0 0, xr 0 0, xl l4, xr 0 0, xl l6, xr 0 0, xi l8, xi (w32 (l9 + 1)), xr 0 0, xr 0 0, xr 0 0, xr 0 0] [] V3
                        else
                          if (cmp3 (lAnd x2 l6) 0) = 0 then
                            Xf d 43 68 [xr 10 0, xi l1, xr 0 0, xr 0 0, xl l4, xr 0 0, xl l6, xr 0 0, xi l8, xi (w32 (l9 + 1)), xr 0 0, xr 0 0, xr 0 0, xr 0 0] [] V3
                          else
                            if (cmp3 (lAnd x4 l4) 0) = 0 then
                              Xf d 43 68 [xr 10 0, xi l1, xr 0 0, xr 0 0, xl l4, xr 0 0, xl l6, xr 0 0, xi l8, xi (w32 (l9 + 1)), xr 0 0, xr 0 0, xr 0 0, xr 0 0] [] V3
                            else
                              some (xi l9, V3)
                      else
                        some (xi l9, V3))
                else
                  none)
            else
              none
          else
            Xf d 43 68 [xr 10 0, xi l1, xr 0 0, xr 0 0, xl l4, xr 0 0, xl l6, xr 0 0, xi l8, xi (w32 (l9 + 1)), xr 0 0, xr 0 0, xr 0 0, xr 0 0] [] V
        else
          none
      else
        Xf d 43 68 [xr 10 0, xi l1, xr 0 0, xr 0 0, xl l4, xr 0 0, xl l6, xr 0 0, xi l8, xi (w32 (l9 + 1)), xr 0 0, xr 0 0, xr 0 0, xr 0 0] [] V
    else
      none
  else
    some (xi (-9), V) := Xx_es [68] P_X2_earliestDeny 3 _ _ _ V
end
section
set_option maxRecDepth 100000 in
theorem s_X2_earliestRelate (d : Nat) (V : XM) (a : Int) (b : Int) (c : Int) : Yf (d + 1) 44 [xr 10 0, xi a, xi b, xi c] V =
    Xf d 44 3 [xr 10 0, xi a, xi b, xi c, xi 0] [] V := Xc_es [3] P_X2_earliestRelate 1 _ V
set_option maxRecDepth 100000 in
theorem s_X2_earliestRelate_3 (d : Nat) (V : XM) (l1 : Int) (l2 : Int) (l3 : Int) (l4 : Int) : Xf d 44 3 [xr 10 0, xi l1, xi l2, xi l3, xi l4] [] V =
    if l4 < (V 6 0 4) then
    if 0 ≤ l4 ∧ l4 < 300 then
      if (V 33 0 (l4.toNat)) = 6 then
        if 0 ≤ l4 ∧ l4 < 300 then
          if (V 34 0 (l4.toNat)) = l1 then
            if l2 = (-9) then
              if l3 = (-9) then
                some (xi l4, V)
              else
                if 0 ≤ l4 ∧ l4 < 300 then
                  if (V 36 0 (l4.toNat)) = l3 then
                    some (xi l4, V)
                  else
                    Xf d 44 3 [xr 10 0, xi l1, xi l2, xi l3, xi (w32 (l4 + 1))] [] V
                else
                  none
            else
              if 0 ≤ l4 ∧ l4 < 300 then
                if (V 35 0 (l4.toNat)) = l2 then
                  if l3 = (-9) then
                    some (xi l4, V)
                  else
                    if 0 ≤ l4 ∧ l4 < 300 then
                      if (V 36 0 (l4.toNat)) = l3 then
                        some (xi l4, V)
                      else
                        Xf d 44 3 [xr 10 0, xi l1, xi l2, xi l3, xi (w32 (l4 + 1))] [] V
                    else
                      none
                else
                  Xf d 44 3 [xr 10 0, xi l1, xi l2, xi l3, xi (w32 (l4 + 1))] [] V
              else
                none
          else
            Xf d 44 3 [xr 10 0, xi l1, xi l2, xi l3, xi (w32 (l4 + 1))] [] V
        else
          none
      else
        Xf d 44 3 [xr 10 0, xi l1, xi l2, xi l3, xi (w32 (l4 + 1))] [] V
    else
      none
  else
    some (xi (-9), V) := Xx_es [3] P_X2_earliestRelate 3 _ _ _ V
set_option maxRecDepth 100000 in
theorem s_X2_heldBy (d : Nat) (V : XM) (a : Int) (b : Int) (c : Int) : Yf (d + 1) 45 [xr 10 0, xi a, xi b, xi c] V =
    if 0 ≤ a ∧ a < 8 then
    if (V 54 0 (a.toNat)) = 5 then
      ci (Yf d 46 [xr 10 0, xi a, xi b, xi c] V) (fun x2 V1 =>
        some (xi x2, V1))
    else
      ci (Yf d 44 [xr 10 0, xi a, xi b, xi c] V) (fun x4 V3 =>
        if x4 < 0 then
          ci (Yf d 44 [xr 10 0, xi a, xi c, xi b] V3) (fun x6 V5 =>
            some (xi x6, V5))
        else
          some (xi x4, V3))
  else
    none := Xc_es [] P_X2_heldBy 4 _ V
set_option maxRecDepth 100000 in
theorem s_X2_togetherBy (d : Nat) (V : XM) (a : Int) (b : Int) (c : Int) : Yf (d + 1) 46 [xr 10 0, xi a, xi b, xi c] V =
    Xf d 46 3 [xr 10 0, xi a, xi b, xi c, xi 0] [] V := Xc_es [3, 31] P_X2_togetherBy 1 _ V
set_option maxRecDepth 100000 in
theorem s_X2_togetherBy_3 (d : Nat) (V : XM) (l1 : Int) (l2 : Int) (l3 : Int) (l4 : Int) : Xf d 46 3 [xr 10 0, xi l1, xi l2, xi l3, xi l4] [] V =
    if l4 < 64 then
    cl (Yf d 186 [xi l4] V) (fun x2 V1 =>
      if 0 ≤ l4 ∧ l4 < 64 then
        Xf d 46 3 [xr 10 0, xi l1, xi l2, xi l3, xi (w32 (l4 + 1))] [] (xu V1 56 0 (l4.toNat) x2)
      else
        none)
  else
    Xf d 46 31 [xr 10 0, xi l1, xi l2, xi l3, xi 0] [] V := Xx_es [3, 31] P_X2_togetherBy 2 _ _ _ V
set_option maxRecDepth 100000 in
theorem s_X2_togetherBy_31 (d : Nat) (V : XM) (l1 : Int) (l2 : Int) (l3 : Int) (l4 : Int) : Xf d 46 31 [xr 10 0, xi l1, xi l2, xi l3, xi l4] [] V =
    if l4 < (V 6 0 4) then
    if 0 ≤ l4 ∧ l4 < 300 then
      if (V 33 0 (l4.toNat)) = 6 then
        if 0 ≤ l4 ∧ l4 < 300 then
          if (V 34 0 (l4.toNat)) = l1 then
            if 0 ≤ l4 ∧ l4 < 300 then
              if 0 ≤ l4 ∧ l4 < 300 then
                cv (Yf d 41 [xr 56 0, xi 0, xi (V 35 0 (l4.toNat)), xi (V 36 0 (l4.toNat))] V) (fun V1 =>
                  if 0 ≤ l2 ∧ l2 < 64 then
                    cl (Yf d 186 [xi l3] V1) (fun x3 V2 =>
                      if (cmp3 (lAnd (V1 56 0 (l2.toNat)) x3) 0) = 0 then
                        Xf d 46 31 [xr 10 0, xi l1, xi l2, xi l3, xi (w32 (l4 + 1))] [] V2
                      else
                        some (xi l4, V2))
                  else
                    none)
              else
                none
            else
              none
          else
            Xf d 46 31 [xr 10 0, xi l1, xi l2, xi l3, xi (w32 (l4 + 1))] [] V
        else
          none
      else
        Xf d 46 31 [xr 10 0, xi l1, xi l2, xi l3, xi (w32 (l4 + 1))] [] V
    else
      none
  else
    some (xi (-9), V) := Xx_es [3, 31] P_X2_togetherBy 2 _ _ _ V
set_option maxRecDepth 100000 in
theorem s_X2_walkFrom (d : Nat) (V : XM) (a : Int) (b : Int) : Yf (d + 1) 47 [xr 10 0, xi a, xi b] V =
    cv (Yf d 117 [xr 9 0, xi b] V) (fun V1 =>
    Xf d 47 10 [xr 10 0, xi a, xr 0 0, xi 0, xr 0 0, xr 0 0, xr 0 0, xr 0 0] [] V1) := Xc_es [10, 44] P_X2_walkFrom 1 _ V
set_option maxRecDepth 100000 in
theorem s_X2_walkFrom_10 (d : Nat) (V : XM) (l1 : Int) (l3 : Int) : Xf d 47 10 [xr 10 0, xi l1, xr 0 0, xi l3, xr 0 0, xr 0 0, xr 0 0, xr 0 0] [] V =
    if l3 < (V 9 0 3) then
    if 0 ≤ l3 ∧ l3 < 64 then
      cl (Yf d 38 [xr 10 0, xi l1, xi (V 53 0 (l3.toNat))] V) (fun x2 V1 =>
        Xf d 47 44 [xr 10 0, xi l1, xr 0 0, xi l3, xi (V 53 0 (l3.toNat)), xl x2, xr 0 0, xi 0] [] V1)
    else
      none
  else
    some (xr 9 0, V) := Xx_es [10, 44] P_X2_walkFrom 2 _ _ _ V
set_option maxRecDepth 100000 in
theorem s_X2_walkFrom_44 (d : Nat) (V : XM) (l1 : Int) (l3 : Int) (l4 : Int) (l5 : Int) (l7 : Int) : Xf d 47 44 [xr 10 0, xi l1, xr 0 0, xi l3, xi l4, xl l5, xr 0 0, xi l7] [] V =
    if l7 < (V 4 0 7) then
    cl (Yf d 186 [xi l7] V) (fun x2 V1 =>
      if (cmp3 (lAnd l5 x2) 0) = 0 then
        Xf d 47 44 [xr 10 0, xi l1, xr 0 0, xi l3, xi l4, xl l5, xr 0 0, xi (w32 (l7 + 1))] [] V1
      else
        cv (Yf d 118 [xr 9 0, xi l4, xi l7, xi l7] V1) (fun V3 =>
          Xf d 47 44 [xr 10 0, xi l1, xr 0 0, xi l3, xi l4, xl l5, xr 0 0, xi (w32 (l7 + 1))] [] V3))
  else
    Xf d 47 10 [xr 10 0, xi l1, xr 0 0, xi (w32 (l3 + 1)), xr 0 0, xr 0 0, xr 0 0, xr 0 0] [] V := Xx_es [10, 44] P_X2_walkFrom 2 _ _ _ V
set_option maxRecDepth 100000 in
theorem s_X2_couples (d : Nat) (V : XM) (a : Int) : Yf (d + 1) 48 [xr 10 0, xi a] V =
    Xf d 48 4 [xr 10 0, xi a, xi 0, xi 0] [] V := Xc_es [4] P_X2_couples 1 _ V
set_option maxRecDepth 100000 in
theorem s_X2_couples_4 (d : Nat) (V : XM) (l1 : Int) (l2 : Int) (l3 : Int) : Xf d 48 4 [xr 10 0, xi l1, xi l2, xi l3] [] V =
    if l3 < (V 4 0 7) then
    cl (Yf d 38 [xr 10 0, xi l1, xi l3] V) (fun x2 V1 =>
      cl (Yf d 186 [xi l3] V1) (fun x4 V3 =>
        ci (Yf d 308 [xl (lAnd x2 (lXor x4 (-1)))] V3) (fun x6 V5 =>
          Xf d 48 4 [xr 10 0, xi l1, xi (w32 (l2 + x6)), xi (w32 (l3 + 1))] [] V5)))
  else
    some (xi l2, V) := Xx_es [4] P_X2_couples 2 _ _ _ V
set_option maxRecDepth 100000 in
theorem s_X3_begin (d : Nat) (V : XM) (a : Int) : Yf (d + 1) 50 [xr 11 0, xi a] V =
    Xf d 50 2 [xr 11 0, xi a, xi 0] [] V := Xc_es [2] P_X3_begin 1 _ V
set_option maxRecDepth 100000 in
theorem s_X3_begin_2 (d : Nat) (V : XM) (l1 : Int) (l2 : Int) : Xf d 50 2 [xr 11 0, xi l1, xi l2] [] V =
    if l2 < 8 then
    cv (Yf d 51 [xr 11 0, xi (w32 ((w32 (l1 * 8)) + l2)), xi 0, xi (-9), xi (-9), xi (-9)] V) (fun V1 =>
      Xf d 50 2 [xr 11 0, xi l1, xi (w32 (l2 + 1))] [] V1)
  else
    if 0 ≤ l1 ∧ l1 < 64 then
      some (xi 0, (xu V 61 0 (l1.toNat) (-9)))
    else
      none := Xx_es [2] P_X3_begin 2 _ _ _ V
set_option maxRecDepth 100000 in
theorem s_X3_write (d : Nat) (V : XM) (a : Int) (b : Int) (c : Int) (e : Int) (f : Int) : Yf (d + 1) 51 [xr 11 0, xi a, xi b, xi c, xi e, xi f] V =
    if 0 ≤ a ∧ a < 512 then
    if 0 ≤ a ∧ a < 512 then
      if 0 ≤ a ∧ a < 512 then
        if 0 ≤ a ∧ a < 512 then
          some (xi 0, (xu (xu (xu (xu V 57 0 (a.toNat) b) 58 0 (a.toNat) c) 59 0 (a.toNat) e) 60 0 (a.toNat) f))
        else
          none
      else
        none
    else
      none
  else
    none := Xc_es [] P_X3_write 1 _ V
set_option maxRecDepth 100000 in
theorem s_X3_sortOf (d : Nat) (V : XM) (a : Int) (b : Int) : Yf (d + 1) 52 [xr 11 0, xi a, xi b] V =
    if 0 ≤ w32 ((w32 (a * 8)) + b) ∧ w32 ((w32 (a * 8)) + b) < 512 then
    some (xi (V 57 0 ((w32 ((w32 (a * 8)) + b)).toNat)), V)
  else
    none := Xc_es [] P_X3_sortOf 1 _ V
set_option maxRecDepth 100000 in
theorem s_X3_leadsTo (d : Nat) (V : XM) (a : Int) (b : Int) : Yf (d + 1) 53 [xr 11 0, xi a, xi b] V =
    if 0 ≤ w32 ((w32 (a * 8)) + b) ∧ w32 ((w32 (a * 8)) + b) < 512 then
    some (xi (V 58 0 ((w32 ((w32 (a * 8)) + b)).toNat)), V)
  else
    none := Xc_es [] P_X3_leadsTo 1 _ V
set_option maxRecDepth 100000 in
theorem s_X3_isTold (d : Nat) (V : XM) (a : Int) (b : Int) : Yf (d + 1) 54 [xr 11 0, xi a, xi b] V =
    ci (Yf d 52 [xr 11 0, xi a, xi b] V) (fun x2 V1 =>
    if x2 < 2 then
      some (xi 0, V1)
    else
      some (xi 1, V1)) := Xc_es [] P_X3_isTold 3 _ V
set_option maxRecDepth 100000 in
theorem s_X3_toldIn (d : Nat) (V : XM) (a : Int) (b : Int) : Yf (d + 1) 55 [xr 11 0, xi a, xi b] V =
    if 0 ≤ w32 ((w32 (a * 8)) + b) ∧ w32 ((w32 (a * 8)) + b) < 512 then
    some (xi (V 60 0 ((w32 ((w32 (a * 8)) + b)).toNat)), V)
  else
    none := Xc_es [] P_X3_toldIn 1 _ V
set_option maxRecDepth 100000 in
theorem s_X3_opposite (d : Nat) (V : XM) (a : Int) : Yf (d + 1) 56 [xi a] V =
    some (xi (iXor a 1), V) := Xc_es [] P_X3_opposite 1 _ V
set_option maxRecDepth 100000 in
theorem s_X3_tellExit (d : Nat) (V : XM) (a : Int) (b : Int) (c : Int) (e : Int) : Yf (d + 1) 57 [xr 11 0, xi a, xi b, xi c, xi e] V =
    if c = (-9) then
    cv (Yf d 51 [xr 11 0, xi (w32 ((w32 (a * 8)) + b)), xi 4, xi c, xi (-9), xi e] V) (fun V1 =>
      if c = (-9) then
        some (xi 0, V1)
      else
        ci (Yf d 56 [xi b] V1) (fun x3 V2 =>
          ci (Yf d 52 [xr 11 0, xi c, xi x3] V2) (fun x5 V4 =>
            if x5 = 0 then
              ci (Yf d 56 [xi b] V4) (fun x7 V6 =>
                cv (Yf d 51 [xr 11 0, xi (w32 ((w32 (c * 8)) + x7)), xi 1, xi a, xi (-9), xi (-9)] V6) (fun V8 =>
                  some (xi 0, V8)))
            else
              some (xi 0, V4))))
  else
    cv (Yf d 51 [xr 11 0, xi (w32 ((w32 (a * 8)) + b)), xi 2, xi c, xi (-9), xi e] V) (fun V9 =>
      if c = (-9) then
        some (xi 0, V9)
      else
        ci (Yf d 56 [xi b] V9) (fun x11 V10 =>
          ci (Yf d 52 [xr 11 0, xi c, xi x11] V10) (fun x13 V12 =>
            if x13 = 0 then
              ci (Yf d 56 [xi b] V12) (fun x15 V14 =>
                cv (Yf d 51 [xr 11 0, xi (w32 ((w32 (c * 8)) + x15)), xi 1, xi a, xi (-9), xi (-9)] V14) (fun V16 =>
                  some (xi 0, V16)))
            else
              some (xi 0, V12)))) := Xc_es [] P_X3_tellExit 4 _ V
set_option maxRecDepth 100000 in
theorem s_X3_againstDoor (d : Nat) (V : XM) (a : Int) (b : Int) (c : Int) (e : Int) : Yf (d + 1) 58 [xr 11 0, xi a, xi b, xi c, xi e] V =
    if 0 ≤ a ∧ a < 64 then
    if (V 61 0 (a.toNat)) < 0 then
      ci (Yf d 55 [xr 11 0, xi b, xi c] V) (fun x2 V1 =>
        if x2 < 0 then
          ci (Yf d 56 [xi c] V1) (fun x4 V3 =>
            ci (Yf d 55 [xr 11 0, xi e, xi x4] V3) (fun x6 V5 =>
              some (xi x6, V5)))
        else
          some (xi x2, V1))
    else
      if 0 ≤ a ∧ a < 64 then
        some (xi (V 61 0 (a.toNat)), V)
      else
        none
  else
    none := Xc_es [] P_X3_againstDoor 4 _ V
set_option maxRecDepth 100000 in
theorem s_X3_tellDoor (d : Nat) (V : XM) (a : Int) (b : Int) (c : Int) (e : Int) (f : Int) : Yf (d + 1) 59 [xr 11 0, xi a, xi b, xi c, xi e, xi f] V =
    if 0 ≤ a ∧ a < 64 then
    cv (Yf d 51 [xr 11 0, xi (w32 ((w32 (b * 8)) + c)), xi 3, xi e, xi a, xi f] (xu V 61 0 (a.toNat) f)) (fun V1 =>
      ci (Yf d 56 [xi c] V1) (fun x3 V2 =>
        cv (Yf d 51 [xr 11 0, xi (w32 ((w32 (e * 8)) + x3)), xi 3, xi b, xi a, xi f] V2) (fun V4 =>
          some (xi 0, V4))))
  else
    none := Xc_es [] P_X3_tellDoor 1 _ V
set_option maxRecDepth 100000 in
theorem s_X3_isPassable (d : Nat) (V : XM) (a : Int) (b : Int) (c : Int) : Yf (d + 1) 60 [xr 11 0, xi a, xi b, xi c] V =
    if 0 ≤ w32 ((w32 (a * 8)) + b) ∧ w32 ((w32 (a * 8)) + b) < 512 then
    ci (Yf d 53 [xr 11 0, xi a, xi b] V) (fun x2 V1 =>
      if x2 < 0 then
        some (xi 0, V1)
      else
        if c = 0 then
          if (V 59 0 ((w32 ((w32 (a * 8)) + b)).toNat)) < 0 then
            some (xi 1, V1)
          else
            if 0 ≤ V 59 0 ((w32 ((w32 (a * 8)) + b)).toNat) ∧ V 59 0 ((w32 ((w32 (a * 8)) + b)).toNat) < 64 then
              if (V1 25 0 ((V 59 0 ((w32 ((w32 (a * 8)) + b)).toNat)).toNat)) = 0 then
                some (xi 0, V1)
              else
                some (xi 1, V1)
            else
              none
        else
          some (xi 1, V1))
  else
    none := Xc_es [] P_X3_isPassable 3 _ V
set_option maxRecDepth 100000 in
theorem s_X3_walkFrom (d : Nat) (V : XM) (a : Int) (b : Int) : Yf (d + 1) 61 [xr 11 0, xi a, xi b] V =
    cv (Yf d 117 [xr 9 0, xi a] V) (fun V1 =>
    Xf d 61 10 [xr 11 0, xr 0 0, xi b, xi 0, xr 0 0, xr 0 0] [] V1) := Xc_es [10, 35] P_X3_walkFrom 1 _ V
set_option maxRecDepth 100000 in
theorem s_X3_walkFrom_10 (d : Nat) (V : XM) (l2 : Int) (l3 : Int) : Xf d 61 10 [xr 11 0, xr 0 0, xi l2, xi l3, xr 0 0, xr 0 0] [] V =
    if l3 < (V 9 0 3) then
    if 0 ≤ l3 ∧ l3 < 64 then
      Xf d 61 35 [xr 11 0, xr 0 0, xi l2, xi l3, xi (V 53 0 (l3.toNat)), xi 0] [] V
    else
      none
  else
    some (xr 9 0, V) := Xx_es [10, 35] P_X3_walkFrom 2 _ _ _ V
set_option maxRecDepth 100000 in
theorem s_X3_walkFrom_35 (d : Nat) (V : XM) (l2 : Int) (l3 : Int) (l4 : Int) (l5 : Int) : Xf d 61 35 [xr 11 0, xr 0 0, xi l2, xi l3, xi l4, xi l5] [] V =
    if l5 < 8 then
    ci (Yf d 60 [xr 11 0, xi l4, xi l5, xi l2] V) (fun x2 V1 =>
      if x2 = 0 then
        Xf d 61 35 [xr 11 0, xr 0 0, xi l2, xi l3, xi l4, xi (w32 (l5 + 1))] [] V1
      else
        ci (Yf d 53 [xr 11 0, xi l4, xi l5] V1) (fun x4 V3 =>
          cv (Yf d 118 [xr 9 0, xi l4, xi x4, xi l5] V3) (fun V5 =>
            Xf d 61 35 [xr 11 0, xr 0 0, xi l2, xi l3, xi l4, xi (w32 (l5 + 1))] [] V5)))
  else
    Xf d 61 10 [xr 11 0, xr 0 0, xi l2, xi (w32 (l3 + 1)), xr 0 0, xr 0 0] [] V := Xx_es [10, 35] P_X3_walkFrom 2 _ _ _ V
set_option maxRecDepth 100000 in
theorem s_X4_areFull (d : Nat) (V : XM) : Yf (d + 1) 63 [xr 6 0] V =
    if (V 6 0 4) < 300 then
    some (xi 0, V)
  else
    some (xi 1, V) := Xc_es [] P_X4_areFull 3 _ V
set_option maxRecDepth 100000 in
theorem s_X4_add (d : Nat) (V : XM) (a : Int) (b : Int) (c : Int) (e : Int) : Yf (d + 1) 64 [xr 6 0, xi a, xi b, xi c, xi e] V =
    if 0 ≤ V 6 0 4 ∧ V 6 0 4 < 300 then
    if 0 ≤ V 6 0 4 ∧ V 6 0 4 < 300 then
      if 0 ≤ V 6 0 4 ∧ V 6 0 4 < 300 then
        if 0 ≤ V 6 0 4 ∧ V 6 0 4 < 300 then
          some (xi (V 6 0 4), (xu (xu (xu (xu (xu V 33 0 ((V 6 0 4).toNat) a) 34 0 ((V 6 0 4).toNat) b) 35 0 ((V 6 0 4).toNat) c) 36 0 ((V 6 0 4).toNat) e) 6 0 4 (w32 ((V 6 0 4) + 1))))
        else
          none
      else
        none
    else
      none
  else
    none := Xc_es [] P_X4_add 1 _ V
set_option maxRecDepth 100000 in
theorem s_X4_earliest (d : Nat) (V : XM) (a : Int) (b : Int) (c : Int) (e : Int) : Yf (d + 1) 65 [xr 6 0, xi a, xi b, xi c, xi e] V =
    Xf d 65 3 [xr 6 0, xi a, xi b, xi c, xi e, xi 0] [] V := Xc_es [3] P_X4_earliest 1 _ V
set_option maxRecDepth 100000 in
theorem s_X4_earliest_3 (d : Nat) (V : XM) (l1 : Int) (l2 : Int) (l3 : Int) (l4 : Int) (l5 : Int) : Xf d 65 3 [xr 6 0, xi l1, xi l2, xi l3, xi l4, xi l5] [] V =
    if l5 < (V 6 0 4) then
    if 0 ≤ l5 ∧ l5 < 300 then
      if (V 33 0 (l5.toNat)) = l1 then
        if 0 ≤ l5 ∧ l5 < 300 then
          if (V 34 0 (l5.toNat)) = l2 then
            if 0 ≤ l5 ∧ l5 < 300 then
              if (V 35 0 (l5.toNat)) = l3 then
                if 0 ≤ l5 ∧ l5 < 300 then
                  if (V 36 0 (l5.toNat)) = l4 then
                    some (xi l5, V)
                  else
                    Xf d 65 3 [xr 6 0, xi l1, xi l2, xi l3, xi l4, xi (w32 (l5 + 1))] [] V
                else
                  none
              else
                Xf d 65 3 [xr 6 0, xi l1, xi l2, xi l3, xi l4, xi (w32 (l5 + 1))] [] V
            else
              none
          else
            Xf d 65 3 [xr 6 0, xi l1, xi l2, xi l3, xi l4, xi (w32 (l5 + 1))] [] V
        else
          none
      else
        Xf d 65 3 [xr 6 0, xi l1, xi l2, xi l3, xi l4, xi (w32 (l5 + 1))] [] V
    else
      none
  else
    some (xi (-9), V) := Xx_es [3] P_X4_earliest 2 _ _ _ V
set_option maxRecDepth 100000 in
theorem s_X5_ways (d : Nat) (V : XM) : Yf (d + 1) 67 [xr 8 0] V =
    Xf d 67 4 [xr 8 0, xi 1, xi 0] [] V := Xc_es [4] P_X5_ways 1 _ V
set_option maxRecDepth 100000 in
theorem s_X5_ways_4 (d : Nat) (V : XM) (l1 : Int) (l2 : Int) : Xf d 67 4 [xr 8 0, xi l1, xi l2] [] V =
    if l2 < (V 4 0 7) then
    if 3000 < l1 then
      some (xi l1, V)
    else
      ci (Yf d 25 [xr 7 0, xi l2] V) (fun x2 V1 =>
        if x2 = 0 then
          Xf d 67 4 [xr 8 0, xi l1, xi (w32 (l2 + 1))] [] V1
        else
          cl (Yf d 24 [xr 7 0, xi l2] V1) (fun x4 V3 =>
            ci (Yf d 308 [xl x4] V3) (fun x6 V5 =>
              Xf d 67 4 [xr 8 0, xi (w32 (l1 * x6)), xi (w32 (l2 + 1))] [] V5)))
  else
    some (xi l1, V) := Xx_es [4] P_X5_ways 2 _ _ _ V
set_option maxRecDepth 100000 in
theorem s_X5_thingAt (d : Nat) (V : XM) (a : Int) : Yf (d + 1) 68 [xr 8 0, xi a] V =
    if 0 ≤ a ∧ a < 7 then
    some (xi (V 50 0 (a.toNat)), V)
  else
    none := Xc_es [] P_X5_thingAt 1 _ V
set_option maxRecDepth 100000 in
theorem s_X5_takeLeastWay (d : Nat) (V : XM) (a : Int) : Yf (d + 1) 69 [xr 8 0, xi a] V =
    Xf d 69 7 [xr 8 0, xi a, xi 0] [] (xu V 8 0 3 0) := Xc_es [7] P_X5_takeLeastWay 1 _ V
set_option maxRecDepth 100000 in
theorem s_X5_takeLeastWay_7 (d : Nat) (V : XM) (l1 : Int) (l2 : Int) : Xf d 69 7 [xr 8 0, xi l1, xi l2] [] V =
    if l2 < (V 4 0 7) then
    if (V 8 0 3) < 7 then
      ci (Yf d 25 [xr 7 0, xi l2] V) (fun x2 V1 =>
        if x2 = 0 then
          Xf d 69 7 [xr 8 0, xi l1, xi (w32 (l2 + 1))] [] V1
        else
          if 0 ≤ V1 8 0 3 ∧ V1 8 0 3 < 7 then
            Xf d 69 7 [xr 8 0, xi l1, xi (w32 (l2 + 1))] [] (xu (xu V1 8 0 3 (w32 ((V1 8 0 3) + 1))) 50 0 ((V1 8 0 3).toNat) l2)
          else
            none)
    else
      ci (Yf d 70 [xr 8 0, xi 0, xi l1] V) (fun x4 V3 =>
        if x4 = 0 ∨ x4 = 1 then
          some (xi x4, V3)
        else
          none)
  else
    ci (Yf d 70 [xr 8 0, xi 0, xi l1] V) (fun x6 V5 =>
      if x6 = 0 ∨ x6 = 1 then
        some (xi x6, V5)
      else
        none) := Xx_es [7] P_X5_takeLeastWay 2 _ _ _ V
set_option maxRecDepth 100000 in
theorem s_X5_layFrom (d : Nat) (V : XM) (a : Int) (b : Int) : Yf (d + 1) 70 [xr 8 0, xi a, xi b] V =
    if a < (V 8 0 3) then
    if 0 ≤ a ∧ a < 7 then
      cl (Yf d 24 [xr 7 0, xi (V 50 0 (a.toNat))] V) (fun x2 V1 =>
        Xf d 70 30 [xr 8 0, xi a, xi b, xi (V 50 0 (a.toNat)), xl x2, xr 0 0, xi 0] [] V1)
    else
      none
  else
    some (xi 1, V) := Xc_es [30] P_X5_layFrom 2 _ V
set_option maxRecDepth 100000 in
theorem s_X5_layFrom_30 (d : Nat) (V : XM) (l1 : Int) (l2 : Int) (l3 : Int) (l4 : Int) (l6 : Int) : Xf d 70 30 [xr 8 0, xi l1, xi l2, xi l3, xl l4, xr 0 0, xi l6] [] V =
    if l6 < (V 4 0 7) then
    cl (Yf d 186 [xi l6] V) (fun x2 V1 =>
      if (cmp3 (lAnd l4 x2) 0) = 0 then
        Xf d 70 30 [xr 8 0, xi l1, xi l2, xi l3, xl l4, xr 0 0, xi (w32 (l6 + 1))] [] V1
      else
        ci (Yf d 71 [xr 8 0, xi l3, xi l6] V1) (fun x4 V3 =>
          if x4 = 0 then
            Xf d 70 30 [xr 8 0, xi l1, xi l2, xi l3, xl l4, xr 0 0, xi (w32 (l6 + 1))] [] V3
          else
            cv (Yf d 13 [xr 7 0, xi l3, xi l6, xi (w32 (l2 + l1))] V3) (fun V5 =>
              ci (Yf d 70 [xr 8 0, xi (w32 (l1 + 1)), xi l2] V5) (fun x7 V6 =>
                if x7 = 0 then
                  cv (Yf d 14 [xr 7 0, xi l3] V6) (fun V8 =>
                    Xf d 70 30 [xr 8 0, xi l1, xi l2, xi l3, xl l4, xr 0 0, xi (w32 (l6 + 1))] [] V8)
                else
                  some (xi 1, V6)))))
  else
    some (xi 0, V) := Xx_es [30] P_X5_layFrom 3 _ _ _ V
set_option maxRecDepth 100000 in
theorem s_X5_lets (d : Nat) (V : XM) (a : Int) (b : Int) : Yf (d + 1) 71 [xr 8 0, xi a, xi b] V =
    ci (Yf d 12 [xr 7 0, xi b, xi a] V) (fun x2 V1 =>
    if x2 = 0 then
      ci (Yf d 16 [xr 7 0, xi b] V1) (fun x4 V3 =>
        if x4 = 0 then
          ci (Yf d 17 [xr 7 0, xi a, xi b] V3) (fun x6 V5 =>
            if x6 < 0 then
              some (xi 1, V5)
            else
              some (xi 0, V5))
        else
          some (xi 0, V3))
    else
      some (xi 0, V1)) := Xc_es [] P_X5_lets 3 _ V
set_option maxRecDepth 100000 in
theorem s_X6_begin (d : Nat) (V : XM) (t : Nat) (a : Int) (b : Int) : Yf (d + 1) 73 [xr 12 t, xi a, xi b] V =
    Xf d 73 12 [xr 12 t, xr 0 0, xr 0 0, xi 0] [] (xu (xu V 12 t 1 a) 12 t 2 b) := Xc_es [12] P_X6_begin 1 _ V
set_option maxRecDepth 100000 in
theorem s_X6_begin_12 (d : Nat) (V : XM) (p0 : Nat) (l3 : Int) : Xf d 73 12 [xr 12 p0, xr 0 0, xr 0 0, xi l3] [] V =
    if l3 < 16 then
    if 0 ≤ l3 ∧ l3 < 16 then
      Xf d 73 12 [xr 12 p0, xr 0 0, xr 0 0, xi (w32 (l3 + 1))] [] (xu V 62 p0 (l3.toNat) (-9))
    else
      none
  else
    some (xi 0, V) := Xx_es [12] P_X6_begin 2 _ _ _ V
set_option maxRecDepth 100000 in
theorem s_X6_spans (d : Nat) (V : XM) (t : Nat) (a : Int) (b : Int) : Yf (d + 1) 74 [xr 12 t, xi a, xi b] V =
    if a < 0 then
    some (xi 0, V)
  else
    if b < 0 then
      some (xi 0, V)
    else
      if (V 12 t 2) < a then
        some (xi 0, V)
      else
        if (w32 ((V 12 t 2) - a)) < b then
          some (xi 0, V)
        else
          some (xi 1, V) := Xc_es [] P_X6_spans 3 _ V
set_option maxRecDepth 100000 in
theorem s_X7_begin (d : Nat) (V : XM) (t : Nat) (a : Int) (b : Int) (c : Int) : Yf (d + 1) 76 [xr 13 t, xi a, xi b, xi c] V =
    Xf d 76 16 [xr 13 t, xr 0 0, xi b, xr 0 0, xi c, xi 0] [] (xu (xu V 13 t 4 a) 13 t 5 b) := Xc_es [16, 50] P_X7_begin 1 _ V
set_option maxRecDepth 100000 in
theorem s_X7_begin_16 (d : Nat) (V : XM) (p0 : Nat) (l2 : Int) (l4 : Int) (l5 : Int) : Xf d 76 16 [xr 13 p0, xr 0 0, xi l2, xr 0 0, xi l4, xi l5] [] V =
    if l5 < l2 then
    if 0 ≤ l5 ∧ l5 < 5 then
      Xf d 76 16 [xr 13 p0, xr 0 0, xi l2, xr 0 0, xi (w32 (Int.tdiv l4 10)), xi (w32 (l5 + 1))] [] (xu V 65 p0 (l5.toNat) (Int.tmod l4 10))
    else
      none
  else
    Xf d 76 50 [xr 13 p0, xr 0 0, xr 0 0, xr 0 0, xr 0 0, xi 0] [] V := Xx_es [16, 50] P_X7_begin 2 _ _ _ V
set_option maxRecDepth 100000 in
theorem s_X7_begin_50 (d : Nat) (V : XM) (p0 : Nat) (l5 : Int) : Xf d 76 50 [xr 13 p0, xr 0 0, xr 0 0, xr 0 0, xr 0 0, xi l5] [] V =
    if l5 < 80 then
    if 0 ≤ l5 ∧ l5 < 80 then
      Xf d 76 50 [xr 13 p0, xr 0 0, xr 0 0, xr 0 0, xr 0 0, xi (w32 (l5 + 1))] [] (xu V 64 p0 (l5.toNat) 0)
    else
      none
  else
    some (xi 0, V) := Xx_es [16, 50] P_X7_begin 2 _ _ _ V
set_option maxRecDepth 100000 in
theorem s_X7_hasCell (d : Nat) (V : XM) (t : Nat) (a : Int) (b : Int) : Yf (d + 1) 77 [xr 13 t, xi a, xi b] V =
    ci (Yf d 123 [xi a, xi (V 13 t 4)] V) (fun x2 V1 =>
    if x2 = 0 then
      some (xi 0, V1)
    else
      ci (Yf d 123 [xi b, xi (V1 13 t 5)] V1) (fun x4 V3 =>
        if x4 = 0 then
          some (xi 0, V3)
        else
          some (xi 1, V3))) := Xc_es [] P_X7_hasCell 3 _ V
set_option maxRecDepth 100000 in
theorem s_X7_isBlank (d : Nat) (V : XM) (t : Nat) (a : Int) (b : Int) : Yf (d + 1) 78 [xr 13 t, xi a, xi b] V =
    if 0 ≤ w32 ((w32 (a * 5)) + b) ∧ w32 ((w32 (a * 5)) + b) < 80 then
    if (V 64 t ((w32 ((w32 (a * 5)) + b)).toNat)) = 0 then
      some (xi 1, V)
    else
      some (xi 0, V)
  else
    none := Xc_es [] P_X7_isBlank 3 _ V
set_option maxRecDepth 100000 in
theorem s_X7_told (d : Nat) (V : XM) (t : Nat) (a : Int) (b : Int) : Yf (d + 1) 79 [xr 13 t, xi a, xi b] V =
    if 0 ≤ w32 ((w32 (a * 5)) + b) ∧ w32 ((w32 (a * 5)) + b) < 80 then
    some (xl (V 63 t ((w32 ((w32 (a * 5)) + b)).toNat)), V)
  else
    none := Xc_es [] P_X7_told 1 _ V
set_option maxRecDepth 100000 in
theorem s_X7_write (d : Nat) (V : XM) (t : Nat) (a : Int) (b : Int) (c : Int) : Yf (d + 1) 80 [xr 13 t, xi a, xi b, xl c] V =
    if 0 ≤ b ∧ b < 5 then
    cl (Yf d 187 [xi (V 65 t (b.toNat)), xl c] V) (fun x2 V1 =>
      if 0 ≤ w32 ((w32 (a * 5)) + b) ∧ w32 ((w32 (a * 5)) + b) < 80 then
        if 0 ≤ w32 ((w32 (a * 5)) + b) ∧ w32 ((w32 (a * 5)) + b) < 80 then
          some (xi 0, (xu (xu V1 63 t ((w32 ((w32 (a * 5)) + b)).toNat) x2) 64 t ((w32 ((w32 (a * 5)) + b)).toNat) 1))
        else
          none
      else
        none)
  else
    none := Xc_es [] P_X7_write 1 _ V
set_option maxRecDepth 100000 in
theorem s_X7_wipe (d : Nat) (V : XM) (t : Nat) (a : Int) (b : Int) : Yf (d + 1) 81 [xr 13 t, xi a, xi b] V =
    if 0 ≤ w32 ((w32 (a * 5)) + b) ∧ w32 ((w32 (a * 5)) + b) < 80 then
    if 0 ≤ w32 ((w32 (a * 5)) + b) ∧ w32 ((w32 (a * 5)) + b) < 80 then
      if (V 64 t ((w32 ((w32 (a * 5)) + b)).toNat)) = 0 ∨ (V 64 t ((w32 ((w32 (a * 5)) + b)).toNat)) = 1 then
        some (xi (V 64 t ((w32 ((w32 (a * 5)) + b)).toNat)), (xu V 64 t ((w32 ((w32 (a * 5)) + b)).toNat) 0))
      else
        none
    else
      none
  else
    none := Xc_es [] P_X7_wipe 1 _ V
set_option maxRecDepth 100000 in
theorem s_X7_rowWith (d : Nat) (V : XM) (t : Nat) (a : Int) (b : Int) (c : Int) : Yf (d + 1) 82 [xr 13 t, xi a, xl b, xi c] V =
    Xf d 82 4 [xr 13 t, xi a, xl b, xr 0 0, xr 0 0, xi c] [] V := Xc_es [4] P_X7_rowWith 1 _ V
set_option maxRecDepth 100000 in
theorem s_X7_rowWith_4 (d : Nat) (V : XM) (p0 : Nat) (l1 : Int) (l2 : Int) (l5 : Int) : Xf d 82 4 [xr 13 p0, xi l1, xl l2, xr 0 0, xr 0 0, xi l5] [] V =
    if l5 < (V 13 p0 4) then
    ci (Yf d 78 [xr 13 p0, xi l5, xi l1] V) (fun x2 V1 =>
      if x2 = 0 then
        cl (Yf d 79 [xr 13 p0, xi l5, xi l1] V1) (fun x4 V3 =>
          if (cmp3 x4 l2) = 0 then
            some (xi l5, V3)
          else
            Xf d 82 4 [xr 13 p0, xi l1, xl l2, xr 0 0, xr 0 0, xi (w32 (l5 + 1))] [] V3)
      else
        Xf d 82 4 [xr 13 p0, xi l1, xl l2, xr 0 0, xr 0 0, xi (w32 (l5 + 1))] [] V1)
  else
    some (xi (-9), V) := Xx_es [4] P_X7_rowWith 2 _ _ _ V
set_option maxRecDepth 100000 in
theorem s_X7_order (d : Nat) (V : XM) (t : Nat) (a : Int) (b : Int) : Yf (d + 1) 83 [xr 13 t, xi a, xi b] V =
    Xf d 83 2 [xr 13 t, xi a, xi b, xi 0, xr 0 0] [] V := Xc_es [2, 25, 36, 83] P_X7_order 1 _ V
set_option maxRecDepth 100000 in
theorem s_X7_order_2 (d : Nat) (V : XM) (p0 : Nat) (l1 : Int) (l2 : Int) (l3 : Int) : Xf d 83 2 [xr 13 p0, xi l1, xi l2, xi l3, xr 0 0] [] V =
    if l3 < (V 13 p0 4) then
    if 0 ≤ l3 ∧ l3 < 16 then
      Xf d 83 2 [xr 13 p0, xi l1, xi l2, xi (w32 (l3 + 1)), xr 0 0] [] (xu V 66 p0 (l3.toNat) l3)
    else
      none
  else
    Xf d 83 25 [xr 13 p0, xi l1, xi l2, xi 1, xr 0 0] [] V := Xx_es [2, 25, 36, 83] P_X7_order 2 _ _ _ V
set_option maxRecDepth 100000 in
theorem s_X7_order_25 (d : Nat) (V : XM) (p0 : Nat) (l1 : Int) (l2 : Int) (l3 : Int) : Xf d 83 25 [xr 13 p0, xi l1, xi l2, xi l3, xr 0 0] [] V =
    if l3 < (V 13 p0 4) then
    Xf d 83 36 [xr 13 p0, xi l1, xi l2, xi l3, xi l3] [] V
  else
    Xf d 83 83 [xr 13 p0, xr 0 0, xr 0 0, xi 0, xi 0] [] V := Xx_es [2, 25, 36, 83] P_X7_order 2 _ _ _ V
set_option maxRecDepth 100000 in
theorem s_X7_order_83 (d : Nat) (V : XM) (p0 : Nat) (l3 : Int) (l4 : Int) : Xf d 83 83 [xr 13 p0, xr 0 0, xr 0 0, xi l3, xi l4] [] V =
    if l4 < (V 13 p0 4) then
    if 0 ≤ l4 ∧ l4 < 16 then
      if (V 66 p0 (l4.toNat)) = l4 then
        Xf d 83 83 [xr 13 p0, xr 0 0, xr 0 0, xi l3, xi (w32 (l4 + 1))] [] V
      else
        Xf d 83 83 [xr 13 p0, xr 0 0, xr 0 0, xi (w32 (l3 + 1)), xi (w32 (l4 + 1))] [] V
    else
      none
  else
    some (xi l3, V) := Xx_es [2, 25, 36, 83] P_X7_order 2 _ _ _ V
set_option maxRecDepth 100000 in
theorem s_X7_order_36 (d : Nat) (V : XM) (p0 : Nat) (l1 : Int) (l2 : Int) (l3 : Int) (l4 : Int) : Xf d 83 36 [xr 13 p0, xi l1, xi l2, xi l3, xi l4] [] V =
    if 0 < l4 then
    ci (Yf d 84 [xr 13 p0, xi l4, xi (w32 (l4 - 1)), xi l1, xi l2] V) (fun x2 V1 =>
      if x2 = 0 then
        Xf d 83 25 [xr 13 p0, xi l1, xi l2, xi (w32 (l3 + 1)), xr 0 0] [] V1
      else
        cv (Yf d 85 [xr 13 p0, xi l4, xi (w32 (l4 - 1))] V1) (fun V3 =>
          Xf d 83 36 [xr 13 p0, xi l1, xi l2, xi l3, xi (w32 (l4 + (-1)))] [] V3))
  else
    Xf d 83 25 [xr 13 p0, xi l1, xi l2, xi (w32 (l3 + 1)), xr 0 0] [] V := Xx_es [2, 25, 36, 83] P_X7_order 2 _ _ _ V
set_option maxRecDepth 100000 in
theorem s_X7_isAhead (d : Nat) (V : XM) (t : Nat) (a : Int) (b : Int) (c : Int) (e : Int) : Yf (d + 1) 84 [xr 13 t, xi a, xi b, xi c, xi e] V =
    ci (Yf d 78 [xr 13 t, xi a, xi c] V) (fun x2 V1 =>
    if x2 = 0 then
      ci (Yf d 78 [xr 13 t, xi b, xi c] V1) (fun x4 V3 =>
        if x4 = 0 then
          if e = 0 then
            cl (Yf d 79 [xr 13 t, xi a, xi c] V3) (fun x6 V5 =>
              cl (Yf d 79 [xr 13 t, xi b, xi c] V5) (fun x8 V7 =>
                if (cmp3 x6 x8) < 0 then
                  some (xi 1, V7)
                else
                  some (xi 0, V7)))
          else
            cl (Yf d 79 [xr 13 t, xi a, xi c] V3) (fun x10 V9 =>
              cl (Yf d 79 [xr 13 t, xi b, xi c] V9) (fun x12 V11 =>
                if 0 < (cmp3 x10 x12) then
                  some (xi 1, V11)
                else
                  some (xi 0, V11)))
        else
          some (xi 1, V3))
    else
      some (xi 0, V1)) := Xc_es [] P_X7_isAhead 6 _ V
set_option maxRecDepth 100000 in
theorem s_X7_swap (d : Nat) (V : XM) (t : Nat) (a : Int) (b : Int) : Yf (d + 1) 85 [xr 13 t, xi a, xi b] V =
    if 0 ≤ a ∧ a < 16 then
    if 0 ≤ b ∧ b < 16 then
      if 0 ≤ a ∧ a < 16 then
        if 0 ≤ b ∧ b < 16 then
          Xf d 85 29 [xr 13 t, xi a, xi b, xr 0 0, xi 0, xr 0 0, xr 0 0, xr 0 0, xr 0 0, xr 0 0] [] (xu (xu V 66 t (a.toNat) (V 66 t (b.toNat))) 66 t (b.toNat) (V 66 t (a.toNat)))
        else
          none
      else
        none
    else
      none
  else
    none := Xc_es [29] P_X7_swap 1 _ V
set_option maxRecDepth 100000 in
theorem s_X7_swap_29 (d : Nat) (V : XM) (p0 : Nat) (l1 : Int) (l2 : Int) (l4 : Int) : Xf d 85 29 [xr 13 p0, xi l1, xi l2, xr 0 0, xi l4, xr 0 0, xr 0 0, xr 0 0, xr 0 0, xr 0 0] [] V =
    if l4 < (V 13 p0 5) then
    if 0 ≤ w32 ((w32 (l1 * 5)) + l4) ∧ w32 ((w32 (l1 * 5)) + l4) < 80 then
      if 0 ≤ w32 ((w32 (l1 * 5)) + l4) ∧ w32 ((w32 (l1 * 5)) + l4) < 80 then
        if 0 ≤ w32 ((w32 (l2 * 5)) + l4) ∧ w32 ((w32 (l2 * 5)) + l4) < 80 then
          if 0 ≤ w32 ((w32 (l1 * 5)) + l4) ∧ w32 ((w32 (l1 * 5)) + l4) < 80 then
            if 0 ≤ w32 ((w32 (l2 * 5)) + l4) ∧ w32 ((w32 (l2 * 5)) + l4) < 80 then
              if 0 ≤ w32 ((w32 (l1 * 5)) + l4) ∧ w32 ((w32 (l1 * 5)) + l4) < 80 then
                if 0 ≤ w32 ((w32 (l2 * 5)) + l4) ∧ w32 ((w32 (l2 * 5)) + l4) < 80 then
                  if 0 ≤ w32 ((w32 (l2 * 5)) + l4) ∧ w32 ((w32 (l2 * 5)) + l4) < 80 then
                    Xf d 85 29 [xr 13 p0, xi l1, xi l2, xr 0 0, xi (w32 (l4 + 1)), xr 0 0, xr 0 0, xr 0 0, xr 0 0, xr 0 0] [] (xu (xu (xu (xu V 63 p0 ((w32 ((w32 (l1 * 5)) + l4)).toNat) (V 63 p0 ((w32 ((w32 (l2 * 5)) + l4)).toNat))) 64 p0 ((w32 ((w32 (l1 * 5)) + l4)).toNat) ((V 64 p0 ((w32 ((w32 (l2 * 5)) + l4)).toNat)) % 2)) 63 p0 ((w32 ((w32 (l2 * 5)) + l4)).toNat) (V 63 p0 ((w32 ((w32 (l1 * 5)) + l4)).toNat))) 64 p0 ((w32 ((w32 (l2 * 5)) + l4)).toNat) ((V 64 p0 ((w32 ((w32 (l1 * 5)) + l4)).toNat)) % 2))
                  else
                    none
                else
                  none
              else
                none
            else
              none
          else
            none
        else
          none
      else
        none
    else
      none
  else
    some (xi 0, V) := Xx_es [29] P_X7_swap 2 _ _ _ V
set_option maxRecDepth 100000 in
theorem s_X7_sum (d : Nat) (V : XM) (t : Nat) (a : Int) : Yf (d + 1) 86 [xr 13 t, xi a] V =
    Xf d 86 5 [xr 13 t, xi a, xl 0, xr 0 0, xi 0] [] V := Xc_es [5] P_X7_sum 1 _ V
set_option maxRecDepth 100000 in
theorem s_X7_sum_5 (d : Nat) (V : XM) (p0 : Nat) (l1 : Int) (l2 : Int) (l4 : Int) : Xf d 86 5 [xr 13 p0, xi l1, xl l2, xr 0 0, xi l4] [] V =
    if l4 < (V 13 p0 4) then
    ci (Yf d 78 [xr 13 p0, xi l4, xi l1] V) (fun x2 V1 =>
      if x2 = 0 then
        cl (Yf d 79 [xr 13 p0, xi l4, xi l1] V1) (fun x4 V3 =>
          Xf d 86 5 [xr 13 p0, xi l1, xl (w64 (l2 + x4)), xr 0 0, xi (w32 (l4 + 1))] [] V3)
      else
        Xf d 86 5 [xr 13 p0, xi l1, xl l2, xr 0 0, xi (w32 (l4 + 1))] [] V1)
  else
    some (xl l2, V) := Xx_es [5] P_X7_sum 2 _ _ _ V
set_option maxRecDepth 100000 in
theorem s_X7_filledIn (d : Nat) (V : XM) (t : Nat) (a : Int) : Yf (d + 1) 87 [xr 13 t, xi a] V =
    Xf d 87 4 [xr 13 t, xi a, xi 0, xi 0] [] V := Xc_es [4] P_X7_filledIn 1 _ V
set_option maxRecDepth 100000 in
theorem s_X7_filledIn_4 (d : Nat) (V : XM) (p0 : Nat) (l1 : Int) (l2 : Int) (l3 : Int) : Xf d 87 4 [xr 13 p0, xi l1, xi l2, xi l3] [] V =
    if l3 < (V 13 p0 4) then
    ci (Yf d 78 [xr 13 p0, xi l3, xi l1] V) (fun x2 V1 =>
      if x2 = 0 then
        Xf d 87 4 [xr 13 p0, xi l1, xi (w32 (l2 + 1)), xi (w32 (l3 + 1))] [] V1
      else
        Xf d 87 4 [xr 13 p0, xi l1, xi l2, xi (w32 (l3 + 1))] [] V1)
  else
    some (xi l2, V) := Xx_es [4] P_X7_filledIn 2 _ _ _ V
set_option maxRecDepth 100000 in
theorem s_X8_add (d : Nat) (V : XM) (a : Int) (b : Int) : Yf (d + 1) 89 [xr 4 0, xi a, xi b] V =
    if 0 ≤ V 4 0 7 ∧ V 4 0 7 < 64 then
    ci (Yf d 5 [xr 3 0, xi a] (xu V 20 0 ((V 4 0 7).toNat) a)) (fun x2 V1 =>
      if 0 ≤ V 4 0 7 ∧ V 4 0 7 < 64 then
        if 0 ≤ V1 4 0 7 ∧ V1 4 0 7 < 64 then
          if 0 ≤ V1 4 0 7 ∧ V1 4 0 7 < 64 then
            if 0 ≤ V1 4 0 7 ∧ V1 4 0 7 < 64 then
              if 0 ≤ V1 4 0 7 ∧ V1 4 0 7 < 64 then
                some (xi (V1 4 0 7), (xu (xu (xu (xu (xu (xu V1 21 0 ((V 4 0 7).toNat) x2) 22 0 ((V1 4 0 7).toNat) b) 23 0 ((V1 4 0 7).toNat) b) 24 0 ((V1 4 0 7).toNat) b) 25 0 ((V1 4 0 7).toNat) 0) 4 0 7 (w32 ((V1 4 0 7) + 1))))
              else
                none
            else
              none
          else
            none
        else
          none
      else
        none)
  else
    none := Xc_es [] P_X8_add 1 _ V
set_option maxRecDepth 100000 in
theorem s_X8_has (d : Nat) (V : XM) (a : Int) : Yf (d + 1) 90 [xr 4 0, xl a] V =
    if (cmp3 a 0) < 0 then
    some (xi 0, V)
  else
    if (cmp3 a (V 4 0 7)) < 0 then
      some (xi 1, V)
    else
      some (xi 0, V) := Xc_es [] P_X8_has 3 _ V
set_option maxRecDepth 100000 in
theorem s_X8_all (d : Nat) (V : XM) : Yf (d + 1) 91 [xr 4 0] V =
    if (V 4 0 7) < 64 then
    cl (Yf d 186 [xi (V 4 0 7)] V) (fun x2 V1 =>
      some (xl (w64 (x2 - 1)), V1))
  else
    some (xl (-1), V) := Xc_es [] P_X8_all 3 _ V
set_option maxRecDepth 100000 in
theorem s_X8_holders (d : Nat) (V : XM) : Yf (d + 1) 92 [xr 4 0] V =
    Xf d 92 4 [xr 4 0, xl 0, xr 0 0, xi 0] [] V := Xc_es [4] P_X8_holders 1 _ V
set_option maxRecDepth 100000 in
theorem s_X8_holders_4 (d : Nat) (V : XM) (l1 : Int) (l3 : Int) : Xf d 92 4 [xr 4 0, xl l1, xr 0 0, xi l3] [] V =
    if l3 < (V 4 0 7) then
    ci (Yf d 96 [xr 4 0, xi l3] V) (fun x2 V1 =>
      if x2 = 0 then
        Xf d 92 4 [xr 4 0, xl l1, xr 0 0, xi (w32 (l3 + 1))] [] V1
      else
        cl (Yf d 186 [xi l3] V1) (fun x4 V3 =>
          Xf d 92 4 [xr 4 0, xl (lOr l1 x4), xr 0 0, xi (w32 (l3 + 1))] [] V3))
  else
    some (xl l1, V) := Xx_es [4] P_X8_holders 2 _ _ _ V
set_option maxRecDepth 100000 in
theorem s_X8_isRoom (d : Nat) (V : XM) (a : Int) : Yf (d + 1) 93 [xr 4 0, xi a] V =
    ci (Yf d 90 [xr 4 0, xl a] V) (fun x2 V1 =>
    if x2 = 0 then
      some (xi 0, V1)
    else
      if 0 ≤ a ∧ a < 64 then
        if (V1 21 0 (a.toNat)) = 1 then
          some (xi 1, V1)
        else
          some (xi 0, V1)
      else
        none) := Xc_es [] P_X8_isRoom 3 _ V
set_option maxRecDepth 100000 in
theorem s_X8_haveRoom (d : Nat) (V : XM) : Yf (d + 1) 94 [xr 4 0] V =
    Xf d 94 2 [xr 4 0, xi 0] [] V := Xc_es [2] P_X8_haveRoom 1 _ V
set_option maxRecDepth 100000 in
theorem s_X8_haveRoom_2 (d : Nat) (V : XM) (l1 : Int) : Xf d 94 2 [xr 4 0, xi l1] [] V =
    if l1 < (V 4 0 7) then
    if 0 ≤ l1 ∧ l1 < 64 then
      if (V 21 0 (l1.toNat)) = 1 then
        some (xi 1, V)
      else
        Xf d 94 2 [xr 4 0, xi (w32 (l1 + 1))] [] V
    else
      none
  else
    some (xi 0, V) := Xx_es [2] P_X8_haveRoom 2 _ _ _ V
set_option maxRecDepth 100000 in
theorem s_X8_isCarrier (d : Nat) (V : XM) (a : Int) : Yf (d + 1) 95 [xr 4 0, xi a] V =
    if 0 ≤ a ∧ a < 64 then
    if (V 21 0 (a.toNat)) = 4 then
      some (xi 1, V)
    else
      if 0 ≤ a ∧ a < 64 then
        if (V 21 0 (a.toNat)) = 5 then
          some (xi 1, V)
        else
          some (xi 0, V)
      else
        none
  else
    none := Xc_es [] P_X8_isCarrier 3 _ V
set_option maxRecDepth 100000 in
theorem s_X8_isHolder (d : Nat) (V : XM) (a : Int) : Yf (d + 1) 96 [xr 4 0, xi a] V =
    if 0 ≤ a ∧ a < 64 then
    if (V 21 0 (a.toNat)) = 1 then
      some (xi 1, V)
    else
      ci (Yf d 95 [xr 4 0, xi a] V) (fun x2 V1 =>
        if x2 = 0 then
          some (xi 0, V1)
        else
          some (xi 1, V1))
  else
    none := Xc_es [] P_X8_isHolder 3 _ V
set_option maxRecDepth 100000 in
theorem s_X8_hasLid (d : Nat) (V : XM) (a : Int) : Yf (d + 1) 97 [xr 4 0, xi a] V =
    if 0 ≤ a ∧ a < 64 then
    if (V 21 0 (a.toNat)) = 2 then
      some (xi 1, V)
    else
      ci (Yf d 95 [xr 4 0, xi a] V) (fun x2 V1 =>
        if x2 = 0 then
          some (xi 0, V1)
        else
          some (xi 1, V1))
  else
    none := Xc_es [] P_X8_hasLid 3 _ V
set_option maxRecDepth 100000 in
theorem s_X8_isFixed (d : Nat) (V : XM) (a : Int) : Yf (d + 1) 98 [xr 4 0, xi a] V =
    if 0 ≤ a ∧ a < 64 then
    if (V 21 0 (a.toNat)) = 1 then
      some (xi 1, V)
    else
      if 0 ≤ a ∧ a < 64 then
        if (V 21 0 (a.toNat)) = 2 then
          some (xi 1, V)
        else
          some (xi 0, V)
      else
        none
  else
    none := Xc_es [] P_X8_isFixed 3 _ V
set_option maxRecDepth 100000 in
theorem s_X8_liesInOne (d : Nat) (V : XM) (a : Int) : Yf (d + 1) 99 [xr 4 0, xi a] V =
    ci (Yf d 98 [xr 4 0, xi a] V) (fun x2 V1 =>
    if x2 = 0 then
      if 0 ≤ a ∧ a < 64 then
        if (V1 21 0 (a.toNat)) = 3 then
          some (xi 0, V1)
        else
          some (xi 1, V1)
      else
        none
    else
      some (xi 0, V1)) := Xc_es [] P_X8_liesInOne 3 _ V
set_option maxRecDepth 100000 in
theorem s_X8_mayLieIn (d : Nat) (V : XM) (a : Int) (b : Int) : Yf (d + 1) 100 [xr 4 0, xi a, xi b] V =
    ci (Yf d 98 [xr 4 0, xi a] V) (fun x2 V1 =>
    if x2 = 0 then
      if 0 ≤ a ∧ a < 64 then
        if (V1 21 0 (a.toNat)) = 3 then
          ci (Yf d 93 [xr 4 0, xi b] V1) (fun x4 V3 =>
            if x4 = 0 then
              some (xi 0, V3)
            else
              some (xi 1, V3))
        else
          ci (Yf d 96 [xr 4 0, xi b] V1) (fun x6 V5 =>
            if x6 = 0 then
              some (xi 0, V5)
            else
              some (xi 1, V5))
      else
        none
    else
      some (xi 0, V1)) := Xc_es [] P_X8_mayLieIn 4 _ V
set_option maxRecDepth 100000 in
theorem s_X8_worth (d : Nat) (V : XM) (a : Int) : Yf (d + 1) 101 [xr 4 0, xi a] V =
    if 0 ≤ a ∧ a < 64 then
    if 0 ≤ a ∧ a < 64 then
      if (V 21 0 (a.toNat)) = 1 then
        some (xi (w32 ((w32 ((w32 (3 * (V 22 0 (a.toNat)))) + 1)) + 1000)), V)
      else
        if (V 21 0 (a.toNat)) = 1 + 1 then
          some (xi (w32 ((w32 ((w32 (3 * (V 22 0 (a.toNat)))) + 1)) + 100)), V)
        else
          if (V 21 0 (a.toNat)) = 1 + 1 + 1 then
            some (xi (w32 (-(w32 ((w32 (3 * (V 22 0 (a.toNat)))) + 1)))), V)
          else
            if (V 21 0 (a.toNat)) = 1 + 1 + 1 + 1 then
              some (xi (w32 ((w32 (3 * (V 22 0 (a.toNat)))) + 1)), V)
            else
              if (V 21 0 (a.toNat)) = 1 + 1 + 1 + 1 + 1 then
                some (xi (w32 (2 * (w32 ((w32 (3 * (V 22 0 (a.toNat)))) + 1)))), V)
              else
                some (xi (w32 ((w32 (3 * (V 22 0 (a.toNat)))) + 1)), V)
    else
      none
  else
    none := Xc_es [] P_X8_worth 2 _ V
set_option maxRecDepth 100000 in
theorem s_X8_lid (d : Nat) (V : XM) (a : Int) : Yf (d + 1) 102 [xr 4 0, xi a] V =
    if 0 ≤ a ∧ a < 64 then
    if (V 21 0 (a.toNat)) = 2 then
      if 0 ≤ a ∧ a < 64 then
        if 0 ≤ a ∧ a < 64 then
          if (V 25 0 (a.toNat)) = 0 then
            some (xi (w32 ((w32 (10 * (V 24 0 (a.toNat)))) + 0)), V)
          else
            some (xi (w32 ((w32 (10 * (V 24 0 (a.toNat)))) + 1)), V)
        else
          none
      else
        none
    else
      if 0 ≤ a ∧ a < 64 then
        if 0 ≤ a ∧ a < 64 then
          if (V 25 0 (a.toNat)) = 0 then
            some (xi (w32 ((V 24 0 (a.toNat)) + 0)), V)
          else
            some (xi (w32 ((V 24 0 (a.toNat)) + 1000)), V)
        else
          none
      else
        none
  else
    none := Xc_es [] P_X8_lid 4 _ V
set_option maxRecDepth 100000 in
theorem s_X9_add (d : Nat) (V : XM) (a : Int) (b : Int) (c : Int) : Yf (d + 1) 104 [xr 5 0, xi a, xi b, xi c] V =
    if 0 ≤ V 5 0 9 ∧ V 5 0 9 < 12 then
    if 0 ≤ V 5 0 9 ∧ V 5 0 9 < 12 then
      if 0 ≤ V 5 0 9 ∧ V 5 0 9 < 12 then
        Xf d 104 33 [xr 5 0, xr 0 0, xr 0 0, xr 0 0, xi 0] [] (xu (xu (xu V 26 0 ((V 5 0 9).toNat) a) 27 0 ((V 5 0 9).toNat) b) 28 0 ((V 5 0 9).toNat) c)
      else
        none
    else
      none
  else
    none := Xc_es [33, 65] P_X9_add 1 _ V
set_option maxRecDepth 100000 in
theorem s_X9_add_33 (d : Nat) (V : XM) (l4 : Int) : Xf d 104 33 [xr 5 0, xr 0 0, xr 0 0, xr 0 0, xi l4] [] V =
    if l4 < 24 then
    if 0 ≤ w32 ((w32 ((V 5 0 9) * 24)) + l4) ∧ w32 ((w32 ((V 5 0 9) * 24)) + l4) < 288 then
      Xf d 104 33 [xr 5 0, xr 0 0, xr 0 0, xr 0 0, xi (w32 (l4 + 1))] [] (xu V 30 0 ((w32 ((w32 ((V 5 0 9) * 24)) + l4)).toNat) 0)
    else
      none
  else
    Xf d 104 65 [xr 5 0, xr 0 0, xr 0 0, xr 0 0, xi 0] [] V := Xx_es [33, 65] P_X9_add 2 _ _ _ V
set_option maxRecDepth 100000 in
theorem s_X9_add_65 (d : Nat) (V : XM) (l4 : Int) : Xf d 104 65 [xr 5 0, xr 0 0, xr 0 0, xr 0 0, xi l4] [] V =
    if l4 < 64 then
    cl (Yf d 106 [xr 5 0, xi (V 5 0 9)] V) (fun x2 V1 =>
      if 0 ≤ w32 ((w32 ((V 5 0 9) * 64)) + l4) ∧ w32 ((w32 ((V 5 0 9) * 64)) + l4) < 768 then
        if 0 ≤ w32 ((w32 ((V1 5 0 9) * 64)) + l4) ∧ w32 ((w32 ((V1 5 0 9) * 64)) + l4) < 768 then
          Xf d 104 65 [xr 5 0, xr 0 0, xr 0 0, xr 0 0, xi (w32 (l4 + 1))] [] (xu (xu V1 31 0 ((w32 ((w32 ((V 5 0 9) * 64)) + l4)).toNat) x2) 32 0 ((w32 ((w32 ((V1 5 0 9) * 64)) + l4)).toNat) (-9))
        else
          none
      else
        none)
  else
    some (xi (V 5 0 9), (xu V 5 0 9 (w32 ((V 5 0 9) + 1)))) := Xx_es [33, 65] P_X9_add 2 _ _ _ V
end
section
set_option maxRecDepth 100000 in
theorem s_X9_has (d : Nat) (V : XM) (a : Int) : Yf (d + 1) 105 [xr 5 0, xi a] V =
    ci (Yf d 123 [xi a, xi (V 5 0 9)] V) (fun x2 V1 =>
    if x2 = 0 ∨ x2 = 1 then
      some (xi x2, V1)
    else
      none) := Xc_es [] P_X9_has 1 _ V
set_option maxRecDepth 100000 in
theorem s_X9_emptyCell (d : Nat) (V : XM) (a : Int) : Yf (d + 1) 106 [xr 5 0, xi a] V =
    if 0 ≤ a ∧ a < 12 then
    if (V 27 0 (a.toNat)) = 8 then
      some (xl (-9), V)
    else
      some (xl 0, V)
  else
    none := Xc_es [] P_X9_emptyCell 3 _ V
set_option maxRecDepth 100000 in
theorem s_X9_knows (d : Nat) (V : XM) (a : Int) (b : Int) : Yf (d + 1) 107 [xr 5 0, xi a, xl b] V =
    if 0 ≤ a ∧ a < 12 then
    if (V 27 0 (a.toNat)) = 8 then
      if (cmp3 b (-9)) = 0 then
        some (xi 1, V)
      else
        ci (Yf d 90 [xr 4 0, xl b] V) (fun x2 V1 =>
          if x2 = 0 then
            some (xi 0, V1)
          else
            some (xi 1, V1))
    else
      some (xi 1, V)
  else
    none := Xc_es [] P_X9_knows 3 _ V
set_option maxRecDepth 100000 in
theorem s_X9_takes (d : Nat) (V : XM) (a : Int) (b : Int) : Yf (d + 1) 108 [xr 5 0, xi a, xl b] V =
    if 0 ≤ a ∧ a < 12 then
    if (V 27 0 (a.toNat)) = 8 then
      ci (Yf d 90 [xr 4 0, xl b] V) (fun x2 V1 =>
        if x2 = 0 then
          some (xi 1, V1)
        else
          if 0 ≤ w32 b ∧ w32 b < 64 then
            if 0 ≤ a ∧ a < 12 then
              ci (Yf d 4 [xr 3 0, xi (V1 21 0 ((w32 b).toNat)), xi (V1 28 0 (a.toNat))] V1) (fun x4 V3 =>
                if x4 = 0 then
                  some (xi 0, V3)
                else
                  some (xi 1, V3))
            else
              none
          else
            none)
    else
      some (xi 1, V)
  else
    none := Xc_es [] P_X9_takes 3 _ V
set_option maxRecDepth 100000 in
theorem s_X9_isFor (d : Nat) (V : XM) (a : Int) (b : Int) : Yf (d + 1) 109 [xr 5 0, xi a, xi b] V =
    if 0 ≤ a ∧ a < 64 then
    if 0 ≤ b ∧ b < 12 then
      ci (Yf d 4 [xr 3 0, xi (V 20 0 (a.toNat)), xi (V 26 0 (b.toNat))] V) (fun x2 V1 =>
        if x2 = 0 ∨ x2 = 1 then
          some (xi x2, V1)
        else
          none)
    else
      none
  else
    none := Xc_es [] P_X9_isFor 1 _ V
set_option maxRecDepth 100000 in
theorem s_X9_tellUsual (d : Nat) (V : XM) (a : Int) (b : Int) (c : Int) : Yf (d + 1) 110 [xr 5 0, xi a, xi b, xl c] V =
    if 0 ≤ b ∧ b < 12 then
    cl (Yf d 187 [xi (V 27 0 (b.toNat)), xl c] V) (fun x2 V1 =>
      if 0 ≤ w32 ((w32 (b * 24)) + a) ∧ w32 ((w32 (b * 24)) + a) < 288 then
        if 0 ≤ w32 ((w32 (b * 24)) + a) ∧ w32 ((w32 (b * 24)) + a) < 288 then
          some (xi 0, (xu (xu V1 29 0 ((w32 ((w32 (b * 24)) + a)).toNat) x2) 30 0 ((w32 ((w32 (b * 24)) + a)).toNat) 1))
        else
          none
      else
        none)
  else
    none := Xc_es [] P_X9_tellUsual 1 _ V
set_option maxRecDepth 100000 in
theorem s_X9_tellGiven (d : Nat) (V : XM) (a : Int) (b : Int) (c : Int) (e : Int) : Yf (d + 1) 111 [xr 5 0, xi a, xi b, xl c, xi e] V =
    if 0 ≤ b ∧ b < 12 then
    cl (Yf d 187 [xi (V 27 0 (b.toNat)), xl c] V) (fun x2 V1 =>
      if 0 ≤ w32 ((w32 (b * 64)) + a) ∧ w32 ((w32 (b * 64)) + a) < 768 then
        if 0 ≤ w32 ((w32 (b * 64)) + a) ∧ w32 ((w32 (b * 64)) + a) < 768 then
          some (xi 0, (xu (xu V1 31 0 ((w32 ((w32 (b * 64)) + a)).toNat) x2) 32 0 ((w32 ((w32 (b * 64)) + a)).toNat) e))
        else
          none
      else
        none)
  else
    none := Xc_es [] P_X9_tellGiven 1 _ V
set_option maxRecDepth 100000 in
theorem s_X9_givenBy (d : Nat) (V : XM) (a : Int) (b : Int) : Yf (d + 1) 112 [xr 5 0, xi a, xi b] V =
    if 0 ≤ w32 ((w32 (b * 64)) + a) ∧ w32 ((w32 (b * 64)) + a) < 768 then
    some (xi (V 32 0 ((w32 ((w32 (b * 64)) + a)).toNat)), V)
  else
    none := Xc_es [] P_X9_givenBy 1 _ V
set_option maxRecDepth 100000 in
theorem s_X9_givenCell (d : Nat) (V : XM) (a : Int) (b : Int) : Yf (d + 1) 113 [xr 5 0, xi a, xi b] V =
    if 0 ≤ w32 ((w32 (b * 64)) + a) ∧ w32 ((w32 (b * 64)) + a) < 768 then
    some (xl (V 31 0 ((w32 ((w32 (b * 64)) + a)).toNat)), V)
  else
    none := Xc_es [] P_X9_givenCell 1 _ V
set_option maxRecDepth 100000 in
theorem s_X9_isGivenOtherwise (d : Nat) (V : XM) (a : Int) (b : Int) (c : Int) : Yf (d + 1) 114 [xr 5 0, xi a, xi b, xl c] V =
    ci (Yf d 112 [xr 5 0, xi a, xi b] V) (fun x2 V1 =>
    if x2 < 0 then
      some (xi 0, V1)
    else
      cl (Yf d 113 [xr 5 0, xi a, xi b] V1) (fun x4 V3 =>
        if 0 ≤ b ∧ b < 12 then
          cl (Yf d 187 [xi (V3 27 0 (b.toNat)), xl c] V3) (fun x6 V5 =>
            if (cmp3 x4 x6) = 0 then
              some (xi 0, V5)
            else
              some (xi 1, V5))
        else
          none)) := Xc_es [] P_X9_isGivenOtherwise 3 _ V
set_option maxRecDepth 100000 in
theorem s_X9_valueOf (d : Nat) (V : XM) (a : Int) (b : Int) : Yf (d + 1) 115 [xr 5 0, xi a, xi b] V =
    ci (Yf d 112 [xr 5 0, xi a, xi b] V) (fun x2 V1 =>
    if x2 < 0 then
      if 0 ≤ a ∧ a < 64 then
        Xf d 115 29 [xr 5 0, xr 0 0, xi b, xi (V1 20 0 (a.toNat)), xi 0] [] V1
      else
        none
    else
      cl (Yf d 113 [xr 5 0, xi a, xi b] V1) (fun x4 V3 =>
        some (xl x4, V3))) := Xc_es [29] P_X9_valueOf 2 _ V
set_option maxRecDepth 100000 in
theorem s_X9_valueOf_29 (d : Nat) (V : XM) (l2 : Int) (l3 : Int) (l4 : Int) : Xf d 115 29 [xr 5 0, xr 0 0, xi l2, xi l3, xi l4] [] V =
    if l3 < 0 then
    cl (Yf d 106 [xr 5 0, xi l2] V) (fun x2 V1 =>
      some (xl x2, V1))
  else
    if l4 < 24 then
      if 0 ≤ w32 ((w32 (l2 * 24)) + l3) ∧ w32 ((w32 (l2 * 24)) + l3) < 288 then
        if (V 30 0 ((w32 ((w32 (l2 * 24)) + l3)).toNat)) = 0 then
          if 0 ≤ l3 ∧ l3 < 24 then
            Xf d 115 29 [xr 5 0, xr 0 0, xi l2, xi (V 19 0 (l3.toNat)), xi (w32 (l4 + 1))] [] V
          else
            none
        else
          if 0 ≤ w32 ((w32 (l2 * 24)) + l3) ∧ w32 ((w32 (l2 * 24)) + l3) < 288 then
            some (xl (V 29 0 ((w32 ((w32 (l2 * 24)) + l3)).toNat)), V)
          else
            none
      else
        none
    else
      cl (Yf d 106 [xr 5 0, xi l2] V) (fun x4 V3 =>
        some (xl x4, V3)) := Xx_es [29] P_X9_valueOf 2 _ _ _ V
set_option maxRecDepth 100000 in
theorem s_X10_begin (d : Nat) (V : XM) (a : Int) : Yf (d + 1) 117 [xr 9 0, xi a] V =
    Xf d 117 2 [xr 9 0, xi a, xi 0] [] V := Xc_es [2] P_X10_begin 1 _ V
set_option maxRecDepth 100000 in
theorem s_X10_begin_2 (d : Nat) (V : XM) (l1 : Int) (l2 : Int) : Xf d 117 2 [xr 9 0, xi l1, xi l2] [] V =
    if l2 < 64 then
    if 0 ≤ l2 ∧ l2 < 64 then
      if 0 ≤ l2 ∧ l2 < 64 then
        Xf d 117 2 [xr 9 0, xi l1, xi (w32 (l2 + 1))] [] (xu (xu V 51 0 (l2.toNat) (-9)) 52 0 (l2.toNat) (-9))
      else
        none
    else
      none
  else
    if 0 ≤ l1 ∧ l1 < 64 then
      some (xi 0, (xu (xu (xu V 51 0 (l1.toNat) 0) 53 0 0 l1) 9 0 3 1))
    else
      none := Xx_es [2] P_X10_begin 2 _ _ _ V
set_option maxRecDepth 100000 in
theorem s_X10_step (d : Nat) (V : XM) (a : Int) (b : Int) (c : Int) : Yf (d + 1) 118 [xr 9 0, xi a, xi b, xi c] V =
    if 0 ≤ b ∧ b < 64 then
    if (V 51 0 (b.toNat)) = (-9) then
      if (V 9 0 3) < 64 then
        if 0 ≤ a ∧ a < 64 then
          if 0 ≤ b ∧ b < 64 then
            if 0 ≤ a ∧ a < 64 then
              if ((xu V 51 0 (b.toNat) (w32 ((V 51 0 (a.toNat)) + 1))) 51 0 (a.toNat)) = 0 then
                if 0 ≤ b ∧ b < 64 then
                  if 0 ≤ V 9 0 3 ∧ V 9 0 3 < 64 then
                    some (xi 0, (xu (xu (xu (xu V 51 0 (b.toNat) (w32 ((V 51 0 (a.toNat)) + 1))) 52 0 (b.toNat) c) 9 0 3 (w32 ((V 9 0 3) + 1))) 53 0 ((V 9 0 3).toNat) b))
                  else
                    none
                else
                  none
              else
                if 0 ≤ a ∧ a < 64 then
                  if 0 ≤ b ∧ b < 64 then
                    if 0 ≤ V 9 0 3 ∧ V 9 0 3 < 64 then
                      some (xi 0, (xu (xu (xu (xu V 51 0 (b.toNat) (w32 ((V 51 0 (a.toNat)) + 1))) 52 0 (b.toNat) (V 52 0 (a.toNat))) 9 0 3 (w32 ((V 9 0 3) + 1))) 53 0 ((V 9 0 3).toNat) b))
                    else
                      none
                  else
                    none
                else
                  none
            else
              none
          else
            none
        else
          none
      else
        some (xi 0, V)
    else
      some (xi 0, V)
  else
    none := Xc_es [] P_X10_step 4 _ V
set_option maxRecDepth 100000 in
theorem s_X11_beginAnew (d : Nat) (V : XM) : Yf (d + 1) 120 [xr 2 0] V =
    cv (Yf d 1 [xr 3 0] V) (fun V1 =>
    some (xi 0, (xu (xu (xu (xu (xu (xu (xu (xu (xu (xu V1 4 0 7 0) 5 0 9 0) 6 0 4 0) 7 0 15 0) 10 0 6 0) 2 0 12 0) 2 0 13 0) 2 0 14 0) 2 0 15 0) 2 0 16 0))) := Xc_es [] P_X11_beginAnew 1 _ V
set_option maxRecDepth 100000 in
theorem s_X11_faulted (d : Nat) (V : XM) (a : Int) : Yf (d + 1) 121 [xr 2 0, xi a] V =
    some (xi (w32 ((-10) - a)), (xu V 2 0 15 a)) := Xc_es [] P_X11_faulted 1 _ V
set_option maxRecDepth 100000 in
theorem s_X11_against (d : Nat) (V : XM) (a : Int) : Yf (d + 1) 122 [xi a] V =
    some (xi (w32 ((-100) - a)), V) := Xc_es [] P_X11_against 1 _ V
set_option maxRecDepth 100000 in
theorem s_X11_inRange (d : Nat) (V : XM) (a : Int) (b : Int) : Yf (d + 1) 123 [xi a, xi b] V =
    if a < 0 then
    some (xi 0, V)
  else
    if a < b then
      some (xi 1, V)
    else
      some (xi 0, V) := Xc_es [] P_X11_inRange 3 _ V
set_option maxRecDepth 100000 in
theorem s_X11_kind (d : Nat) (V : XM) (a : Int) : Yf (d + 1) 124 [xr 2 0, xi a] V =
    ci (Yf d 3 [xr 3 0, xi a] V) (fun x2 V1 =>
    if x2 = 0 then
      some (xi (-1), V1)
    else
      if (V1 3 0 1) < 24 then
        ci (Yf d 2 [xr 3 0, xi a] V1) (fun x4 V3 =>
          some (xi x4, V3))
      else
        some (xi (-4), V1)) := Xc_es [] P_X11_kind 3 _ V
set_option maxRecDepth 100000 in
theorem s_X11_is (d : Nat) (V : XM) (a : Int) (b : Int) : Yf (d + 1) 125 [xr 2 0, xi a, xi b] V =
    ci (Yf d 3 [xr 3 0, xi a] V) (fun x2 V1 =>
    if x2 = 0 then
      some (xi (-1), V1)
    else
      ci (Yf d 3 [xr 3 0, xi b] V1) (fun x4 V3 =>
        if x4 = 0 then
          some (xi (-1), V3)
        else
          ci (Yf d 4 [xr 3 0, xi a, xi b] V3) (fun x6 V5 =>
            if x6 = 0 then
              some (xi 0, V5)
            else
              some (xi 1, V5)))) := Xc_es [] P_X11_is 4 _ V
set_option maxRecDepth 100000 in
theorem s_X11_property (d : Nat) (V : XM) (a : Int) (b : Int) (c : Int) : Yf (d + 1) 126 [xr 2 0, xi a, xi b, xi c] V =
    ci (Yf d 3 [xr 3 0, xi a] V) (fun x2 V1 =>
    if x2 = 0 then
      some (xi (-1), V1)
    else
      if b = 8 then
        ci (Yf d 3 [xr 3 0, xi c] V1) (fun x4 V3 =>
          if x4 = 0 then
            some (xi (-1), V3)
          else
            ci (Yf d 123 [xi b, xi 9] V3) (fun x6 V5 =>
              if x6 = 0 then
                some (xi (-2), V5)
              else
                if (V5 5 0 9) < 12 then
                  if b = 8 then
                    ci (Yf d 5 [xr 3 0, xi c] V5) (fun x8 V7 =>
                      ci (Yf d 104 [xr 5 0, xi a, xi b, xi x8] V7) (fun x10 V9 =>
                        some (xi x10, V9)))
                  else
                    ci (Yf d 104 [xr 5 0, xi a, xi b, xi (-9)] V5) (fun x12 V11 =>
                      some (xi x12, V11))
                else
                  some (xi (-4), V5)))
      else
        ci (Yf d 123 [xi b, xi 9] V1) (fun x14 V13 =>
          if x14 = 0 then
            some (xi (-2), V13)
          else
            if (V13 5 0 9) < 12 then
              if b = 8 then
                ci (Yf d 5 [xr 3 0, xi c] V13) (fun x16 V15 =>
                  ci (Yf d 104 [xr 5 0, xi a, xi b, xi x16] V15) (fun x18 V17 =>
                    some (xi x18, V17)))
              else
                ci (Yf d 104 [xr 5 0, xi a, xi b, xi (-9)] V13) (fun x20 V19 =>
                  some (xi x20, V19))
            else
              some (xi (-4), V13))) := Xc_es [] P_X11_property 6 _ V
set_option maxRecDepth 100000 in
theorem s_X11_usual (d : Nat) (V : XM) (a : Int) (b : Int) (c : Int) : Yf (d + 1) 127 [xr 2 0, xi a, xi b, xl c] V =
    ci (Yf d 3 [xr 3 0, xi a] V) (fun x2 V1 =>
    if x2 = 0 then
      some (xi (-1), V1)
    else
      ci (Yf d 105 [xr 5 0, xi b] V1) (fun x4 V3 =>
        if x4 = 0 then
          some (xi (-1), V3)
        else
          ci (Yf d 107 [xr 5 0, xi b, xl c] V3) (fun x6 V5 =>
            if x6 = 0 then
              some (xi (-1), V5)
            else
              if 0 ≤ b ∧ b < 12 then
                ci (Yf d 4 [xr 3 0, xi a, xi (V5 26 0 (b.toNat))] V5) (fun x8 V7 =>
                  if x8 = 0 then
                    some (xi (-3), V7)
                  else
                    ci (Yf d 108 [xr 5 0, xi b, xl c] V7) (fun x10 V9 =>
                      if x10 = 0 then
                        ci (Yf d 121 [xr 2 0, xi 4] V9) (fun x12 V11 =>
                          some (xi x12, V11))
                      else
                        cv (Yf d 110 [xr 5 0, xi a, xi b, xl c] V9) (fun V13 =>
                          some (xi 1, V13))))
              else
                none))) := Xc_es [] P_X11_usual 4 _ V
set_option maxRecDepth 100000 in
theorem s_X11_thing (d : Nat) (V : XM) (a : Int) (b : Int) : Yf (d + 1) 128 [xr 2 0, xi a, xi b] V =
    ci (Yf d 3 [xr 3 0, xi a] V) (fun x2 V1 =>
    if x2 = 0 then
      some (xi (-1), V1)
    else
      if b < 0 then
        some (xi (-2), V1)
      else
        if 1000 < b then
          some (xi (-2), V1)
        else
          if (V1 4 0 7) < 64 then
            ci (Yf d 89 [xr 4 0, xi a, xi b] V1) (fun x4 V3 =>
              cv (Yf d 7 [xr 7 0, xi x4] V3) (fun V5 =>
                cv (Yf d 50 [xr 11 0, xi x4] V5) (fun V6 =>
                  some (xi x4, V6))))
          else
            some (xi (-4), V1)) := Xc_es [] P_X11_thing 4 _ V
set_option maxRecDepth 100000 in
theorem s_X11_put (d : Nat) (V : XM) (a : Int) (b : Int) : Yf (d + 1) 129 [xr 2 0, xi a, xi b] V =
    ci (Yf d 90 [xr 4 0, xl a] V) (fun x2 V1 =>
    if x2 = 0 then
      some (xi (-1), V1)
    else
      ci (Yf d 90 [xr 4 0, xl b] V1) (fun x4 V3 =>
        if x4 = 0 then
          some (xi (-1), V3)
        else
          ci (Yf d 100 [xr 4 0, xi a, xi b] V3) (fun x6 V5 =>
            if x6 = 0 then
              some (xi (-3), V5)
            else
              ci (Yf d 12 [xr 7 0, xi b, xi a] V5) (fun x8 V7 =>
                if x8 = 0 then
                  ci (Yf d 10 [xr 7 0, xi a, xi b] V7) (fun x10 V9 =>
                    if x10 = 0 then
                      ci (Yf d 63 [xr 6 0] V9) (fun x12 V11 =>
                        if x12 = 0 then
                          ci (Yf d 11 [xr 7 0, xi a] V11) (fun x14 V13 =>
                            if x14 = 0 then
                              ci (Yf d 15 [xr 7 0, xi a, xi b] V13) (fun x16 V15 =>
                                if x16 < 0 then
                                  ci (Yf d 64 [xr 6 0, xi 0, xi a, xi b, xi (-9)] V15) (fun x18 V17 =>
                                    cv (Yf d 13 [xr 7 0, xi a, xi b, xi x18] V17) (fun V19 =>
                                      some (xi x18, V19)))
                                else
                                  ci (Yf d 122 [xi x16] V15) (fun x21 V20 =>
                                    some (xi x21, V20)))
                            else
                              some (xi (-4), V13))
                        else
                          some (xi (-4), V11))
                    else
                      some (xi (-3), V9))
                else
                  some (xi (-3), V7))))) := Xc_es [] P_X11_put 5 _ V
set_option maxRecDepth 100000 in
theorem s_X11_bar (d : Nat) (V : XM) (a : Int) (b : Int) : Yf (d + 1) 130 [xr 2 0, xi a, xi b] V =
    ci (Yf d 90 [xr 4 0, xl a] V) (fun x2 V1 =>
    if x2 = 0 then
      some (xi (-1), V1)
    else
      ci (Yf d 90 [xr 4 0, xl b] V1) (fun x4 V3 =>
        if x4 = 0 then
          some (xi (-1), V3)
        else
          ci (Yf d 98 [xr 4 0, xi a] V3) (fun x6 V5 =>
            if x6 = 0 then
              ci (Yf d 96 [xr 4 0, xi b] V5) (fun x8 V7 =>
                if x8 = 0 then
                  some (xi (-3), V7)
                else
                  ci (Yf d 63 [xr 6 0] V7) (fun x10 V9 =>
                    if x10 = 0 then
                      ci (Yf d 19 [xr 7 0, xi a, xi b] V9) (fun x12 V11 =>
                        if x12 < 0 then
                          cv (Yf d 20 [xr 7 0, xi a, xi b] V11) (fun V13 =>
                            ci (Yf d 64 [xr 6 0, xi 1, xi a, xi b, xi (-9)] V13) (fun x15 V14 =>
                              some (xi x15, V14)))
                        else
                          ci (Yf d 122 [xi x12] V11) (fun x17 V16 =>
                            some (xi x17, V16)))
                    else
                      some (xi (-4), V9)))
            else
              some (xi (-3), V5)))) := Xc_es [] P_X11_bar 5 _ V
set_option maxRecDepth 100000 in
theorem s_X11_give (d : Nat) (V : XM) (a : Int) (b : Int) (c : Int) : Yf (d + 1) 131 [xr 2 0, xi a, xi b, xl c] V =
    ci (Yf d 90 [xr 4 0, xl a] V) (fun x2 V1 =>
    if x2 = 0 then
      some (xi (-1), V1)
    else
      ci (Yf d 105 [xr 5 0, xi b] V1) (fun x4 V3 =>
        if x4 = 0 then
          some (xi (-1), V3)
        else
          ci (Yf d 107 [xr 5 0, xi b, xl c] V3) (fun x6 V5 =>
            if x6 = 0 then
              some (xi (-1), V5)
            else
              ci (Yf d 109 [xr 5 0, xi a, xi b] V5) (fun x8 V7 =>
                if x8 = 0 then
                  some (xi (-3), V7)
                else
                  ci (Yf d 63 [xr 6 0] V7) (fun x10 V9 =>
                    if x10 = 0 then
                      ci (Yf d 108 [xr 5 0, xi b, xl c] V9) (fun x12 V11 =>
                        if x12 = 0 then
                          ci (Yf d 121 [xr 2 0, xi 4] V11) (fun x14 V13 =>
                            some (xi x14, V13))
                        else
                          ci (Yf d 114 [xr 5 0, xi a, xi b, xl c] V11) (fun x16 V15 =>
                            if x16 = 0 then
                              ci (Yf d 64 [xr 6 0, xi 2, xi a, xi b, xi (-9)] V15) (fun x18 V17 =>
                                cv (Yf d 111 [xr 5 0, xi a, xi b, xl c, xi x18] V17) (fun V19 =>
                                  some (xi x18, V19)))
                            else
                              ci (Yf d 112 [xr 5 0, xi a, xi b] V15) (fun x21 V20 =>
                                ci (Yf d 122 [xi x21] V20) (fun x23 V22 =>
                                  some (xi x23, V22)))))
                    else
                      some (xi (-4), V9)))))) := Xc_es [] P_X11_give 6 _ V
set_option maxRecDepth 100000 in
theorem s_X11_value (d : Nat) (V : XM) (a : Int) (b : Int) : Yf (d + 1) 132 [xr 2 0, xi a, xi b] V =
    ci (Yf d 90 [xr 4 0, xl a] V) (fun x2 V1 =>
    if x2 = 0 then
      some (xl (-1), V1)
    else
      ci (Yf d 105 [xr 5 0, xi b] V1) (fun x4 V3 =>
        if x4 = 0 then
          some (xl (-1), V3)
        else
          ci (Yf d 109 [xr 5 0, xi a, xi b] V3) (fun x6 V5 =>
            if x6 = 0 then
              some (xl (-3), V5)
            else
              cl (Yf d 115 [xr 5 0, xi a, xi b] V5) (fun x8 V7 =>
                some (xl x8, V7))))) := Xc_es [] P_X11_value 3 _ V
set_option maxRecDepth 100000 in
theorem s_X11_given (d : Nat) (V : XM) (a : Int) (b : Int) : Yf (d + 1) 133 [xr 2 0, xi a, xi b] V =
    ci (Yf d 90 [xr 4 0, xl a] V) (fun x2 V1 =>
    if x2 = 0 then
      some (xi (-1), V1)
    else
      ci (Yf d 105 [xr 5 0, xi b] V1) (fun x4 V3 =>
        if x4 = 0 then
          some (xi (-1), V3)
        else
          ci (Yf d 112 [xr 5 0, xi a, xi b] V3) (fun x6 V5 =>
            some (xi x6, V5)))) := Xc_es [] P_X11_given 2 _ V
set_option maxRecDepth 100000 in
theorem s_X11_peek (d : Nat) (V : XM) (a : Int) (b : Int) (c : Int) : Yf (d + 1) 134 [xr 2 0, xi a, xi b, xi c] V =
    ci (Yf d 105 [xr 5 0, xi a] V) (fun x2 V1 =>
    if x2 = 0 then
      some (xl (-1), V1)
    else
      ci (Yf d 123 [xi b, xi 9] V1) (fun x4 V3 =>
        if x4 = 0 then
          some (xl (-2), V3)
        else
          if 0 ≤ a ∧ a < 12 then
            if b = (V3 27 0 (a.toNat)) then
              ci (Yf d 123 [xi c, xi 64] V3) (fun x6 V5 =>
                if x6 = 0 then
                  ci (Yf d 121 [xr 2 0, xi 2] V5) (fun x8 V7 =>
                    some (xl x8, V7))
                else
                  cl (Yf d 113 [xr 5 0, xi c, xi a] V5) (fun x10 V9 =>
                    some (xl x10, V9)))
            else
              ci (Yf d 121 [xr 2 0, xi 3] V3) (fun x12 V11 =>
                some (xl x12, V11))
          else
            none)) := Xc_es [] P_X11_peek 5 _ V
set_option maxRecDepth 100000 in
theorem s_X11_place (d : Nat) (V : XM) (a : Int) (b : Int) : Yf (d + 1) 135 [xr 2 0, xi a, xi b] V =
    ci (Yf d 90 [xr 4 0, xl a] V) (fun x2 V1 =>
    if x2 = 0 then
      some (xi (-1), V1)
    else
      ci (Yf d 8 [xr 7 0, xi a, xi b] V1) (fun x4 V3 =>
        some (xi x4, V3))) := Xc_es [] P_X11_place 2 _ V
set_option maxRecDepth 100000 in
theorem s_X11_says (d : Nat) (V : XM) (a : Int) (b : Int) : Yf (d + 1) 136 [xr 2 0, xi a, xi b] V =
    ci (Yf d 90 [xr 4 0, xl a] V) (fun x2 V1 =>
    if x2 = 0 then
      some (xi (-1), V1)
    else
      if b < 0 then
        some (xi (-2), V1)
      else
        if 4 < b then
          some (xi (-2), V1)
        else
          ci (Yf d 137 [xr 2 0, xi a, xi b] V1) (fun x4 V3 =>
            some (xi x4, V3))) := Xc_es [] P_X11_says 3 _ V
set_option maxRecDepth 100000 in
theorem s_X11_saying (d : Nat) (V : XM) (a : Int) (b : Int) : Yf (d + 1) 137 [xr 2 0, xi a, xi b] V =
    if b = 0 then
    ci (Yf d 32 [xr 7 0, xi a] V) (fun x2 V1 =>
      some (xi x2, V1))
  else
    if b = 0 + 1 then
      ci (Yf d 101 [xr 4 0, xi a] V) (fun x4 V3 =>
        some (xi x4, V3))
    else
      if b = 0 + 1 + 1 then
        ci (Yf d 96 [xr 4 0, xi a] V) (fun x6 V5 =>
          if x6 = 0 then
            ci (Yf d 121 [xr 2 0, xi 3] V5) (fun x8 V7 =>
              some (xi x8, V7))
          else
            ci (Yf d 34 [xr 7 0, xi a] V5) (fun x10 V9 =>
              some (xi x10, V9)))
      else
        if b = 0 + 1 + 1 + 1 then
          ci (Yf d 97 [xr 4 0, xi a] V) (fun x12 V11 =>
            if x12 = 0 then
              ci (Yf d 121 [xr 2 0, xi 3] V11) (fun x14 V13 =>
                some (xi x14, V13))
            else
              ci (Yf d 102 [xr 4 0, xi a] V11) (fun x16 V15 =>
                some (xi x16, V15)))
        else
          if 0 ≤ a ∧ a < 64 then
            if (V 21 0 (a.toNat)) = 5 then
              ci (Yf d 138 [xr 2 0, xi a] V) (fun x18 V17 =>
                some (xi x18, V17))
            else
              ci (Yf d 121 [xr 2 0, xi 3] V) (fun x20 V19 =>
                some (xi x20, V19))
          else
            none := Xc_es [] P_X11_saying 4 _ V
set_option maxRecDepth 100000 in
theorem s_X11_stride (d : Nat) (V : XM) (a : Int) : Yf (d + 1) 138 [xr 2 0, xi a] V =
    ci (Yf d 34 [xr 7 0, xi a] V) (fun x2 V1 =>
    if x2 = 0 then
      ci (Yf d 121 [xr 2 0, xi 6] V1) (fun x4 V3 =>
        some (xi x4, V3))
    else
      if x2 = 0 then
        none
      else
        some (xi (w32 (Int.tdiv 1000 x2)), V1)) := Xc_es [] P_X11_stride 3 _ V
set_option maxRecDepth 100000 in
theorem s_X11_follow (d : Nat) (V : XM) (a : Int) (b : Int) (c : Int) : Yf (d + 1) 139 [xr 2 0, xi a, xi b, xi c] V =
    ci (Yf d 90 [xr 4 0, xl a] V) (fun x2 V1 =>
    if x2 = 0 then
      some (xi (-1), V1)
    else
      ci (Yf d 105 [xr 5 0, xi b] V1) (fun x4 V3 =>
        if x4 = 0 then
          some (xi (-1), V3)
        else
          if c < 0 then
            some (xi (-2), V3)
          else
            if 4 < c then
              some (xi (-2), V3)
            else
              ci (Yf d 109 [xr 5 0, xi a, xi b] V3) (fun x6 V5 =>
                if x6 = 0 then
                  some (xi (-3), V5)
                else
                  if 0 ≤ b ∧ b < 12 then
                    if (V5 27 0 (b.toNat)) = 8 then
                      cl (Yf d 115 [xr 5 0, xi a, xi b] V5) (fun x8 V7 =>
                        ci (Yf d 90 [xr 4 0, xl x8] V7) (fun x10 V9 =>
                          if x10 = 0 then
                            ci (Yf d 121 [xr 2 0, xi 1] V9) (fun x12 V11 =>
                              some (xi x12, V11))
                          else
                            ci (Yf d 137 [xr 2 0, xi (w32 x8), xi c] V9) (fun x14 V13 =>
                              some (xi x14, V13))))
                    else
                      ci (Yf d 121 [xr 2 0, xi 3] V5) (fun x16 V15 =>
                        some (xi x16, V15))
                  else
                    none))) := Xc_es [] P_X11_follow 7 _ V
set_option maxRecDepth 100000 in
theorem s_X11_mark (d : Nat) (V : XM) (a : Int) (b : Int) : Yf (d + 1) 140 [xr 2 0, xi a, xi b] V =
    ci (Yf d 90 [xr 4 0, xl a] V) (fun x2 V1 =>
    if x2 = 0 then
      some (xi (-1), V1)
    else
      if b = 0 then
        if b = 1 then
          ci (Yf d 97 [xr 4 0, xi a] V1) (fun x4 V3 =>
            if x4 = 0 then
              ci (Yf d 121 [xr 2 0, xi 3] V3) (fun x6 V5 =>
                some (xi x6, V5))
            else
              if b = 0 then
                if 0 ≤ a ∧ a < 64 then
                  some (xi (V3 23 0 (a.toNat)), V3)
                else
                  none
              else
                if 0 ≤ a ∧ a < 64 then
                  some (xi (V3 24 0 (a.toNat)), V3)
                else
                  none)
        else
          if b = 0 then
            if 0 ≤ a ∧ a < 64 then
              some (xi (V1 23 0 (a.toNat)), V1)
            else
              none
          else
            if 0 ≤ a ∧ a < 64 then
              some (xi (V1 24 0 (a.toNat)), V1)
            else
              none
      else
        if b = 1 then
          if b = 1 then
            ci (Yf d 97 [xr 4 0, xi a] V1) (fun x8 V7 =>
              if x8 = 0 then
                ci (Yf d 121 [xr 2 0, xi 3] V7) (fun x10 V9 =>
                  some (xi x10, V9))
              else
                if b = 0 then
                  if 0 ≤ a ∧ a < 64 then
                    some (xi (V7 23 0 (a.toNat)), V7)
                  else
                    none
                else
                  if 0 ≤ a ∧ a < 64 then
                    some (xi (V7 24 0 (a.toNat)), V7)
                  else
                    none)
          else
            if b = 0 then
              if 0 ≤ a ∧ a < 64 then
                some (xi (V1 23 0 (a.toNat)), V1)
              else
                none
            else
              if 0 ≤ a ∧ a < 64 then
                some (xi (V1 24 0 (a.toNat)), V1)
              else
                none
        else
          some (xi (-2), V1)) := Xc_es [] P_X11_mark 6 _ V
set_option maxRecDepth 100000 in
theorem s_X11_remark (d : Nat) (V : XM) (a : Int) (b : Int) (c : Int) : Yf (d + 1) 141 [xr 2 0, xi a, xi b, xi c] V =
    ci (Yf d 90 [xr 4 0, xl a] V) (fun x2 V1 =>
    if x2 = 0 then
      some (xi (-1), V1)
    else
      if b = 0 then
        if c < 0 then
          some (xi (-2), V1)
        else
          if 1000 < c then
            some (xi (-2), V1)
          else
            if b = 1 then
              ci (Yf d 97 [xr 4 0, xi a] V1) (fun x4 V3 =>
                if x4 = 0 then
                  ci (Yf d 121 [xr 2 0, xi 3] V3) (fun x6 V5 =>
                    some (xi x6, V5))
                else
                  if b = 0 then
                    if 0 ≤ a ∧ a < 64 then
                      if 0 ≤ a ∧ a < 64 then
                        some (xi (V3 23 0 (a.toNat)), (xu V3 23 0 (a.toNat) c))
                      else
                        none
                    else
                      none
                  else
                    if 0 ≤ a ∧ a < 64 then
                      if 0 ≤ a ∧ a < 64 then
                        some (xi (V3 24 0 (a.toNat)), (xu V3 24 0 (a.toNat) c))
                      else
                        none
                    else
                      none)
            else
              if b = 0 then
                if 0 ≤ a ∧ a < 64 then
                  if 0 ≤ a ∧ a < 64 then
                    some (xi (V1 23 0 (a.toNat)), (xu V1 23 0 (a.toNat) c))
                  else
                    none
                else
                  none
              else
                if 0 ≤ a ∧ a < 64 then
                  if 0 ≤ a ∧ a < 64 then
                    some (xi (V1 24 0 (a.toNat)), (xu V1 24 0 (a.toNat) c))
                  else
                    none
                else
                  none
      else
        if b = 1 then
          if c < 0 then
            some (xi (-2), V1)
          else
            if 1000 < c then
              some (xi (-2), V1)
            else
              if b = 1 then
                ci (Yf d 97 [xr 4 0, xi a] V1) (fun x8 V7 =>
                  if x8 = 0 then
                    ci (Yf d 121 [xr 2 0, xi 3] V7) (fun x10 V9 =>
                      some (xi x10, V9))
                  else
                    if b = 0 then
                      if 0 ≤ a ∧ a < 64 then
                        if 0 ≤ a ∧ a < 64 then
                          some (xi (V7 23 0 (a.toNat)), (xu V7 23 0 (a.toNat) c))
                        else
                          none
                      else
                        none
                    else
                      if 0 ≤ a ∧ a < 64 then
                        if 0 ≤ a ∧ a < 64 then
                          some (xi (V7 24 0 (a.toNat)), (xu V7 24 0 (a.toNat) c))
                        else
                          none
                      else
                        none)
              else
                if b = 0 then
                  if 0 ≤ a ∧ a < 64 then
                    if 0 ≤ a ∧ a < 64 then
                      some (xi (V1 23 0 (a.toNat)), (xu V1 23 0 (a.toNat) c))
                    else
                      none
                  else
                    none
                else
                  if 0 ≤ a ∧ a < 64 then
                    if 0 ≤ a ∧ a < 64 then
                      some (xi (V1 24 0 (a.toNat)), (xu V1 24 0 (a.toNat) c))
                    else
                      none
                  else
                    none
        else
          some (xi (-2), V1)) := Xc_es [] P_X11_remark 7 _ V
set_option maxRecDepth 100000 in
theorem s_X11_open (d : Nat) (V : XM) (a : Int) (b : Int) : Yf (d + 1) 142 [xr 2 0, xi a, xi b] V =
    ci (Yf d 90 [xr 4 0, xl a] V) (fun x2 V1 =>
    if x2 = 0 then
      some (xi (-1), V1)
    else
      ci (Yf d 97 [xr 4 0, xi a] V1) (fun x4 V3 =>
        if x4 = 0 then
          ci (Yf d 121 [xr 2 0, xi 3] V3) (fun x6 V5 =>
            some (xi x6, V5))
        else
          if 0 ≤ a ∧ a < 64 then
            if (V3 25 0 (a.toNat)) = 0 then
              if 0 ≤ a ∧ a < 64 then
                some (xi 0, (xu V3 25 0 (a.toNat) (b % 2)))
              else
                none
            else
              if 0 ≤ a ∧ a < 64 then
                some (xi 1, (xu V3 25 0 (a.toNat) (b % 2)))
              else
                none
          else
            none)) := Xc_es [] P_X11_open 5 _ V
set_option maxRecDepth 100000 in
theorem s_X11_among (d : Nat) (V : XM) (a : Int) (b : Int) : Yf (d + 1) 143 [xr 2 0, xi a, xl b] V =
    ci (Yf d 90 [xr 4 0, xl a] V) (fun x2 V1 =>
    if x2 = 0 then
      some (xi (-1), V1)
    else
      cl (Yf d 91 [xr 4 0] V1) (fun x4 V3 =>
        if (cmp3 (lAnd b (lXor x4 (-1))) 0) = 0 then
          if (cmp3 b 0) = 0 then
            some (xi (-2), V3)
          else
            ci (Yf d 99 [xr 4 0, xi a] V3) (fun x6 V5 =>
              if x6 = 0 then
                some (xi (-3), V5)
              else
                cl (Yf d 186 [xi a] V5) (fun x8 V7 =>
                  if (cmp3 (lAnd b x8) 0) = 0 then
                    cl (Yf d 92 [xr 4 0] V7) (fun x10 V9 =>
                      if (cmp3 (lAnd b (lXor x10 (-1))) 0) = 0 then
                        ci (Yf d 63 [xr 6 0] V9) (fun x12 V11 =>
                          if x12 = 0 then
                            ci (Yf d 21 [xr 7 0, xi a, xl b] V11) (fun x14 V13 =>
                              if x14 < 0 then
                                ci (Yf d 64 [xr 6 0, xi 3, xi a, xi (w32 b), xi (-9)] V13) (fun x16 V15 =>
                                  cv (Yf d 23 [xr 7 0, xi a, xl b, xi x16] V15) (fun V17 =>
                                    some (xi x16, V17)))
                              else
                                ci (Yf d 122 [xi x14] V13) (fun x19 V18 =>
                                  some (xi x19, V18)))
                          else
                            some (xi (-4), V11))
                      else
                        some (xi (-3), V9))
                  else
                    some (xi (-3), V7)))
        else
          some (xi (-1), V3))) := Xc_es [] P_X11_among 6 _ V
set_option maxRecDepth 100000 in
theorem s_X11_pair (d : Nat) (V : XM) (a : Int) (b : Int) (c : Int) : Yf (d + 1) 144 [xr 2 0, xi a, xi b, xi c] V =
    ci (Yf d 90 [xr 4 0, xl a] V) (fun x2 V1 =>
    if x2 = 0 then
      some (xi (-1), V1)
    else
      ci (Yf d 90 [xr 4 0, xl b] V1) (fun x4 V3 =>
        if x4 = 0 then
          some (xi (-1), V3)
        else
          if a = b then
            some (xi (-3), V3)
          else
            ci (Yf d 99 [xr 4 0, xi a] V3) (fun x6 V5 =>
              if x6 = 0 then
                some (xi (-3), V5)
              else
                ci (Yf d 99 [xr 4 0, xi b] V5) (fun x8 V7 =>
                  if x8 = 0 then
                    some (xi (-3), V7)
                  else
                    ci (Yf d 63 [xr 6 0] V7) (fun x10 V9 =>
                      if x10 = 0 then
                        if (V9 7 0 15) < 16 then
                          ci (Yf d 27 [xr 7 0, xi a, xi b, xi c] V9) (fun x12 V11 =>
                            if x12 < 0 then
                              ci (Yf d 64 [xr 6 0, xi 4, xi a, xi b, xi (-9)] V11) (fun x14 V13 =>
                                cv (Yf d 28 [xr 7 0, xi a, xi b, xi c, xi x14] V13) (fun V15 =>
                                  some (xi x14, V15)))
                            else
                              ci (Yf d 122 [xi x12] V11) (fun x17 V16 =>
                                some (xi x17, V16)))
                        else
                          some (xi (-4), V9)
                      else
                        some (xi (-4), V9)))))) := Xc_es [] P_X11_pair 5 _ V
set_option maxRecDepth 100000 in
theorem s_X11_most (d : Nat) (V : XM) (a : Int) (b : Int) : Yf (d + 1) 145 [xr 2 0, xi a, xi b] V =
    ci (Yf d 90 [xr 4 0, xl a] V) (fun x2 V1 =>
    if x2 = 0 then
      some (xi (-1), V1)
    else
      if b < 0 then
        some (xi (-2), V1)
      else
        if 64 < b then
          some (xi (-2), V1)
        else
          ci (Yf d 96 [xr 4 0, xi a] V1) (fun x4 V3 =>
            if x4 = 0 then
              some (xi (-3), V3)
            else
              ci (Yf d 29 [xr 7 0, xi a] V3) (fun x6 V5 =>
                if x6 = 0 then
                  ci (Yf d 63 [xr 6 0] V5) (fun x8 V7 =>
                    if x8 = 0 then
                      ci (Yf d 31 [xr 7 0, xi a, xi b] V7) (fun x10 V9 =>
                        if x10 < 0 then
                          ci (Yf d 64 [xr 6 0, xi 5, xi a, xi b, xi (-9)] V9) (fun x12 V11 =>
                            cv (Yf d 30 [xr 7 0, xi a, xi b, xi x12] V11) (fun V13 =>
                              some (xi x12, V13)))
                        else
                          ci (Yf d 122 [xi x10] V9) (fun x15 V14 =>
                            some (xi x15, V14)))
                    else
                      some (xi (-4), V7))
                else
                  some (xi (-3), V5)))) := Xc_es [] P_X11_most 6 _ V
end
section
set_option maxRecDepth 100000 in
theorem s_X11_settle (d : Nat) (V : XM) : Yf (d + 1) 146 [xr 2 0] V =
    ci (Yf d 26 [xr 7 0] V) (fun x2 V1 =>
    if 7 < x2 then
      some (xi (-3), V1)
    else
      ci (Yf d 67 [xr 8 0] V1) (fun x4 V3 =>
        if 3000 < x4 then
          some (xi (-3), V3)
        else
          if 300 < (w32 ((V3 6 0 4) + x2)) then
            some (xi (-4), V3)
          else
            ci (Yf d 69 [xr 8 0, xi (V3 6 0 4)] V3) (fun x6 V5 =>
              if x6 = 0 then
                some (xi (-5), V5)
              else
                Xf d 146 70 [xr 2 0, xi x2, xi 0, xr 0 0] [] V5))) := Xc_es [70] P_X11_settle 4 _ V
set_option maxRecDepth 100000 in
theorem s_X11_settle_70 (d : Nat) (V : XM) (l1 : Int) (l2 : Int) : Xf d 146 70 [xr 2 0, xi l1, xi l2, xr 0 0] [] V =
    if l2 < l1 then
    ci (Yf d 68 [xr 8 0, xi l2] V) (fun x2 V1 =>
      ci (Yf d 8 [xr 7 0, xi x2, xi 0] V1) (fun x4 V3 =>
        ci (Yf d 64 [xr 6 0, xi 0, xi x2, xi x4, xi (-9)] V3) (fun x6 V5 =>
          Xf d 146 70 [xr 2 0, xi l1, xi (w32 (l2 + 1)), xr 0 0] [] V5)))
  else
    some (xi l1, V) := Xx_es [70] P_X11_settle 2 _ _ _ V
set_option maxRecDepth 100000 in
theorem s_X11_set (d : Nat) (V : XM) (a : Int) : Yf (d + 1) 147 [xr 2 0, xi a] V =
    ci (Yf d 90 [xr 4 0, xl a] V) (fun x2 V1 =>
    if x2 = 0 then
      some (xl 0, V1)
    else
      cl (Yf d 24 [xr 7 0, xi a] V1) (fun x4 V3 =>
        some (xl x4, V3))) := Xc_es [] P_X11_set 3 _ V
set_option maxRecDepth 100000 in
theorem s_X11_relation (d : Nat) (V : XM) (a : Int) : Yf (d + 1) 148 [xr 2 0, xi a] V =
    if a < 0 then
    some (xi (-2), V)
  else
    if 5 < a then
      some (xi (-2), V)
    else
      if (V 10 0 6) < 8 then
        ci (Yf d 36 [xr 10 0, xi a] V) (fun x2 V1 =>
          some (xi x2, V1))
      else
        some (xi (-4), V) := Xc_es [] P_X11_relation 3 _ V
set_option maxRecDepth 100000 in
theorem s_X11_relate (d : Nat) (V : XM) (a : Int) (b : Int) (c : Int) : Yf (d + 1) 149 [xr 2 0, xi a, xi b, xi c] V =
    ci (Yf d 154 [xr 2 0, xi a, xi b, xi c] V) (fun x2 V1 =>
    if x2 = 0 then
      some (xi (-1), V1)
    else
      if b = c then
        some (xi (-3), V1)
      else
        ci (Yf d 39 [xr 10 0, xi a, xi b, xi c] V1) (fun x4 V3 =>
          if x4 = 0 then
            ci (Yf d 63 [xr 6 0] V3) (fun x6 V5 =>
              if x6 = 0 then
                ci (Yf d 42 [xr 10 0, xi a, xi b, xi c] V5) (fun x8 V7 =>
                  if x8 < 0 then
                    cv (Yf d 40 [xr 10 0, xi a, xi b, xi c] V7) (fun V9 =>
                      ci (Yf d 64 [xr 6 0, xi 6, xi a, xi b, xi c] V9) (fun x11 V10 =>
                        some (xi x11, V10)))
                  else
                    ci (Yf d 122 [xi x8] V7) (fun x13 V12 =>
                      some (xi x13, V12)))
              else
                some (xi (-4), V5))
          else
            some (xi (-3), V3))) := Xc_es [] P_X11_relate 5 _ V
set_option maxRecDepth 100000 in
theorem s_X11_deny (d : Nat) (V : XM) (a : Int) (b : Int) (c : Int) : Yf (d + 1) 150 [xr 2 0, xi a, xi b, xi c] V =
    ci (Yf d 154 [xr 2 0, xi a, xi b, xi c] V) (fun x2 V1 =>
    if x2 = 0 then
      some (xi (-1), V1)
    else
      if b = c then
        some (xi (-3), V1)
      else
        ci (Yf d 65 [xr 6 0, xi 7, xi a, xi b, xi c] V1) (fun x4 V3 =>
          if x4 < 0 then
            ci (Yf d 63 [xr 6 0] V3) (fun x6 V5 =>
              if x6 = 0 then
                ci (Yf d 39 [xr 10 0, xi a, xi b, xi c] V5) (fun x8 V7 =>
                  if x8 = 0 then
                    ci (Yf d 64 [xr 6 0, xi 7, xi a, xi b, xi c] V7) (fun x10 V9 =>
                      some (xi x10, V9))
                  else
                    ci (Yf d 45 [xr 10 0, xi a, xi b, xi c] V7) (fun x12 V11 =>
                      ci (Yf d 122 [xi x12] V11) (fun x14 V13 =>
                        some (xi x14, V13))))
              else
                some (xi (-4), V5))
          else
            some (xi (-3), V3))) := Xc_es [] P_X11_deny 5 _ V
set_option maxRecDepth 100000 in
theorem s_X11_related (d : Nat) (V : XM) (a : Int) (b : Int) (c : Int) : Yf (d + 1) 151 [xr 2 0, xi a, xi b, xi c] V =
    ci (Yf d 154 [xr 2 0, xi a, xi b, xi c] V) (fun x2 V1 =>
    if x2 = 0 then
      some (xi (-1), V1)
    else
      ci (Yf d 39 [xr 10 0, xi a, xi b, xi c] V1) (fun x4 V3 =>
        if x4 = 0 then
          some (xi 0, V3)
        else
          some (xi 1, V3))) := Xc_es [] P_X11_related 4 _ V
set_option maxRecDepth 100000 in
theorem s_X11_along (d : Nat) (V : XM) (a : Int) (b : Int) (c : Int) : Yf (d + 1) 152 [xr 2 0, xi a, xi b, xi c] V =
    ci (Yf d 154 [xr 2 0, xi a, xi b, xi c] V) (fun x2 V1 =>
    if x2 = 0 then
      some (xi (-1), V1)
    else
      cr (Yf d 47 [xr 10 0, xi a, xi b] V1) (fun V3 =>
        if 0 ≤ c ∧ c < 64 then
          some (xi (V3 51 0 (c.toNat)), V3)
        else
          none)) := Xc_es [] P_X11_along 2 _ V
set_option maxRecDepth 100000 in
theorem s_X11_next (d : Nat) (V : XM) (a : Int) (b : Int) (c : Int) : Yf (d + 1) 153 [xr 2 0, xi a, xi b, xi c] V =
    ci (Yf d 154 [xr 2 0, xi a, xi b, xi c] V) (fun x2 V1 =>
    if x2 = 0 then
      some (xi (-1), V1)
    else
      cr (Yf d 47 [xr 10 0, xi a, xi b] V1) (fun V3 =>
        if 0 ≤ c ∧ c < 64 then
          some (xi (V3 52 0 (c.toNat)), V3)
        else
          none)) := Xc_es [] P_X11_next 2 _ V
set_option maxRecDepth 100000 in
theorem s_X11_areRelatable (d : Nat) (V : XM) (a : Int) (b : Int) (c : Int) : Yf (d + 1) 154 [xr 2 0, xi a, xi b, xi c] V =
    ci (Yf d 37 [xr 10 0, xi a] V) (fun x2 V1 =>
    if x2 = 0 then
      some (xi 0, V1)
    else
      ci (Yf d 90 [xr 4 0, xl b] V1) (fun x4 V3 =>
        if x4 = 0 then
          some (xi 0, V3)
        else
          ci (Yf d 90 [xr 4 0, xl c] V3) (fun x6 V5 =>
            if x6 = 0 then
              some (xi 0, V5)
            else
              some (xi 1, V5)))) := Xc_es [] P_X11_areRelatable 3 _ V
set_option maxRecDepth 100000 in
theorem s_X11_exit (d : Nat) (V : XM) (a : Int) (b : Int) (c : Int) : Yf (d + 1) 155 [xr 2 0, xi a, xi b, xi c] V =
    ci (Yf d 93 [xr 4 0, xi a] V) (fun x2 V1 =>
    if x2 = 0 then
      some (xi (-1), V1)
    else
      if c = (-9) then
        ci (Yf d 123 [xi b, xi 8] V1) (fun x4 V3 =>
          if x4 = 0 then
            some (xi (-2), V3)
          else
            ci (Yf d 54 [xr 11 0, xi a, xi b] V3) (fun x6 V5 =>
              if x6 = 0 then
                ci (Yf d 63 [xr 6 0] V5) (fun x8 V7 =>
                  if x8 = 0 then
                    ci (Yf d 54 [xr 11 0, xi a, xi b] V7) (fun x10 V9 =>
                      if x10 = 0 then
                        ci (Yf d 64 [xr 6 0, xi 8, xi a, xi b, xi c] V9) (fun x12 V11 =>
                          cv (Yf d 57 [xr 11 0, xi a, xi b, xi c, xi x12] V11) (fun V13 =>
                            some (xi x12, V13)))
                      else
                        ci (Yf d 55 [xr 11 0, xi a, xi b] V9) (fun x15 V14 =>
                          ci (Yf d 122 [xi x15] V14) (fun x17 V16 =>
                            some (xi x17, V16))))
                  else
                    some (xi (-4), V7))
              else
                ci (Yf d 52 [xr 11 0, xi a, xi b] V5) (fun x19 V18 =>
                  if x19 = 3 then
                    ci (Yf d 63 [xr 6 0] V18) (fun x21 V20 =>
                      if x21 = 0 then
                        ci (Yf d 54 [xr 11 0, xi a, xi b] V20) (fun x23 V22 =>
                          if x23 = 0 then
                            ci (Yf d 64 [xr 6 0, xi 8, xi a, xi b, xi c] V22) (fun x25 V24 =>
                              cv (Yf d 57 [xr 11 0, xi a, xi b, xi c, xi x25] V24) (fun V26 =>
                                some (xi x25, V26)))
                          else
                            ci (Yf d 55 [xr 11 0, xi a, xi b] V22) (fun x28 V27 =>
                              ci (Yf d 122 [xi x28] V27) (fun x30 V29 =>
                                some (xi x30, V29))))
                      else
                        some (xi (-4), V20))
                  else
                    ci (Yf d 53 [xr 11 0, xi a, xi b] V18) (fun x32 V31 =>
                      if x32 = c then
                        some (xi (-3), V31)
                      else
                        ci (Yf d 63 [xr 6 0] V31) (fun x34 V33 =>
                          if x34 = 0 then
                            ci (Yf d 54 [xr 11 0, xi a, xi b] V33) (fun x36 V35 =>
                              if x36 = 0 then
                                ci (Yf d 64 [xr 6 0, xi 8, xi a, xi b, xi c] V35) (fun x38 V37 =>
                                  cv (Yf d 57 [xr 11 0, xi a, xi b, xi c, xi x38] V37) (fun V39 =>
                                    some (xi x38, V39)))
                              else
                                ci (Yf d 55 [xr 11 0, xi a, xi b] V35) (fun x41 V40 =>
                                  ci (Yf d 122 [xi x41] V40) (fun x43 V42 =>
                                    some (xi x43, V42))))
                          else
                            some (xi (-4), V33))))))
      else
        ci (Yf d 93 [xr 4 0, xi c] V1) (fun x45 V44 =>
          if x45 = 0 then
            some (xi (-1), V44)
          else
            ci (Yf d 123 [xi b, xi 8] V44) (fun x47 V46 =>
              if x47 = 0 then
                some (xi (-2), V46)
              else
                ci (Yf d 54 [xr 11 0, xi a, xi b] V46) (fun x49 V48 =>
                  if x49 = 0 then
                    ci (Yf d 63 [xr 6 0] V48) (fun x51 V50 =>
                      if x51 = 0 then
                        ci (Yf d 54 [xr 11 0, xi a, xi b] V50) (fun x53 V52 =>
                          if x53 = 0 then
                            ci (Yf d 64 [xr 6 0, xi 8, xi a, xi b, xi c] V52) (fun x55 V54 =>
                              cv (Yf d 57 [xr 11 0, xi a, xi b, xi c, xi x55] V54) (fun V56 =>
                                some (xi x55, V56)))
                          else
                            ci (Yf d 55 [xr 11 0, xi a, xi b] V52) (fun x58 V57 =>
                              ci (Yf d 122 [xi x58] V57) (fun x60 V59 =>
                                some (xi x60, V59))))
                      else
                        some (xi (-4), V50))
                  else
                    ci (Yf d 52 [xr 11 0, xi a, xi b] V48) (fun x62 V61 =>
                      if x62 = 3 then
                        ci (Yf d 63 [xr 6 0] V61) (fun x64 V63 =>
                          if x64 = 0 then
                            ci (Yf d 54 [xr 11 0, xi a, xi b] V63) (fun x66 V65 =>
                              if x66 = 0 then
                                ci (Yf d 64 [xr 6 0, xi 8, xi a, xi b, xi c] V65) (fun x68 V67 =>
                                  cv (Yf d 57 [xr 11 0, xi a, xi b, xi c, xi x68] V67) (fun V69 =>
                                    some (xi x68, V69)))
                              else
                                ci (Yf d 55 [xr 11 0, xi a, xi b] V65) (fun x71 V70 =>
                                  ci (Yf d 122 [xi x71] V70) (fun x73 V72 =>
                                    some (xi x73, V72))))
                          else
                            some (xi (-4), V63))
                      else
                        ci (Yf d 53 [xr 11 0, xi a, xi b] V61) (fun x75 V74 =>
                          if x75 = c then
                            some (xi (-3), V74)
                          else
                            ci (Yf d 63 [xr 6 0] V74) (fun x77 V76 =>
                              if x77 = 0 then
                                ci (Yf d 54 [xr 11 0, xi a, xi b] V76) (fun x79 V78 =>
                                  if x79 = 0 then
                                    ci (Yf d 64 [xr 6 0, xi 8, xi a, xi b, xi c] V78) (fun x81 V80 =>
                                      cv (Yf d 57 [xr 11 0, xi a, xi b, xi c, xi x81] V80) (fun V82 =>
                                        some (xi x81, V82)))
                                  else
                                    ci (Yf d 55 [xr 11 0, xi a, xi b] V78) (fun x84 V83 =>
                                      ci (Yf d 122 [xi x84] V83) (fun x86 V85 =>
                                        some (xi x86, V85))))
                              else
                                some (xi (-4), V76)))))))) := Xc_es [] P_X11_exit 6 _ V
set_option maxRecDepth 100000 in
theorem s_X11_door (d : Nat) (V : XM) (a : Int) (b : Int) (c : Int) (e : Int) : Yf (d + 1) 156 [xr 2 0, xi a, xi b, xi c, xi e] V =
    ci (Yf d 90 [xr 4 0, xl a] V) (fun x2 V1 =>
    if x2 = 0 then
      some (xi (-1), V1)
    else
      ci (Yf d 93 [xr 4 0, xi b] V1) (fun x4 V3 =>
        if x4 = 0 then
          some (xi (-1), V3)
        else
          ci (Yf d 93 [xr 4 0, xi e] V3) (fun x6 V5 =>
            if x6 = 0 then
              some (xi (-1), V5)
            else
              ci (Yf d 123 [xi c, xi 8] V5) (fun x8 V7 =>
                if x8 = 0 then
                  some (xi (-2), V7)
                else
                  if 0 ≤ a ∧ a < 64 then
                    if (V7 21 0 (a.toNat)) = 2 then
                      if b = e then
                        some (xi (-3), V7)
                      else
                        ci (Yf d 63 [xr 6 0] V7) (fun x10 V9 =>
                          if x10 = 0 then
                            ci (Yf d 58 [xr 11 0, xi a, xi b, xi c, xi e] V9) (fun x12 V11 =>
                              if x12 < 0 then
                                ci (Yf d 64 [xr 6 0, xi 9, xi a, xi b, xi c] V11) (fun x14 V13 =>
                                  cv (Yf d 59 [xr 11 0, xi a, xi b, xi c, xi e, xi x14] V13) (fun V15 =>
                                    some (xi x14, V15)))
                              else
                                ci (Yf d 122 [xi x12] V11) (fun x17 V16 =>
                                  some (xi x17, V16)))
                          else
                            some (xi (-4), V9))
                    else
                      some (xi (-3), V7)
                  else
                    none)))) := Xc_es [] P_X11_door 6 _ V
set_option maxRecDepth 100000 in
theorem s_X11_leads (d : Nat) (V : XM) (a : Int) (b : Int) : Yf (d + 1) 157 [xr 2 0, xi a, xi b] V =
    ci (Yf d 93 [xr 4 0, xi a] V) (fun x2 V1 =>
    if x2 = 0 then
      some (xi (-1), V1)
    else
      ci (Yf d 123 [xi b, xi 8] V1) (fun x4 V3 =>
        if x4 = 0 then
          some (xi (-2), V3)
        else
          ci (Yf d 53 [xr 11 0, xi a, xi b] V3) (fun x6 V5 =>
            some (xi x6, V5)))) := Xc_es [] P_X11_leads 4 _ V
set_option maxRecDepth 100000 in
theorem s_X11_sort (d : Nat) (V : XM) (a : Int) (b : Int) : Yf (d + 1) 158 [xr 2 0, xi a, xi b] V =
    ci (Yf d 93 [xr 4 0, xi a] V) (fun x2 V1 =>
    if x2 = 0 then
      some (xi (-1), V1)
    else
      ci (Yf d 123 [xi b, xi 8] V1) (fun x4 V3 =>
        if x4 = 0 then
          some (xi (-2), V3)
        else
          ci (Yf d 52 [xr 11 0, xi a, xi b] V3) (fun x6 V5 =>
            some (xi x6, V5)))) := Xc_es [] P_X11_sort 4 _ V
set_option maxRecDepth 100000 in
theorem s_X11_route (d : Nat) (V : XM) (a : Int) (b : Int) (c : Int) : Yf (d + 1) 159 [xr 2 0, xi a, xi b, xi c] V =
    ci (Yf d 93 [xr 4 0, xi a] V) (fun x2 V1 =>
    if x2 = 0 then
      some (xi (-1), V1)
    else
      ci (Yf d 93 [xr 4 0, xi b] V1) (fun x4 V3 =>
        if x4 = 0 then
          some (xi (-1), V3)
        else
          cr (Yf d 61 [xr 11 0, xi a, xi c] V3) (fun V5 =>
            if 0 ≤ b ∧ b < 64 then
              some (xi (V5 51 0 (b.toNat)), V5)
            else
              none))) := Xc_es [] P_X11_route 2 _ V
set_option maxRecDepth 100000 in
theorem s_X11_first (d : Nat) (V : XM) (a : Int) (b : Int) (c : Int) : Yf (d + 1) 160 [xr 2 0, xi a, xi b, xi c] V =
    ci (Yf d 93 [xr 4 0, xi a] V) (fun x2 V1 =>
    if x2 = 0 then
      some (xi (-1), V1)
    else
      ci (Yf d 93 [xr 4 0, xi b] V1) (fun x4 V3 =>
        if x4 = 0 then
          some (xi (-1), V3)
        else
          cr (Yf d 61 [xr 11 0, xi a, xi c] V3) (fun V5 =>
            if 0 ≤ b ∧ b < 64 then
              some (xi (V5 52 0 (b.toNat)), V5)
            else
              none))) := Xc_es [] P_X11_first 2 _ V
set_option maxRecDepth 100000 in
theorem s_X11_shelf (d : Nat) (V : XM) (a : Int) (b : Int) : Yf (d + 1) 161 [xr 2 0, xi a, xi b] V =
    ci (Yf d 3 [xr 3 0, xi a] V) (fun x2 V1 =>
    if x2 = 0 then
      some (xi (-1), V1)
    else
      if 16 < b then
        some (xi (-2), V1)
      else
        if (V1 2 0 12) < 10 then
          if b < 0 then
            ci (Yf d 121 [xr 2 0, xi 5] V1) (fun x4 V3 =>
              some (xi x4, V3))
          else
            if 0 ≤ V1 2 0 12 ∧ V1 2 0 12 < 10 then
              ci (Yf d 5 [xr 3 0, xi a] V1) (fun x6 V5 =>
                cv (Yf d 73 [xr 12 ((V1 2 0 12).toNat), xi x6, xi b] V5) (fun V7 =>
                  some (xi (V7 2 0 12), (xu V7 2 0 12 (w32 ((V7 2 0 12) + 1))))))
            else
              none
        else
          some (xi (-4), V1)) := Xc_es [] P_X11_shelf 5 _ V
set_option maxRecDepth 100000 in
theorem s_X11_stand (d : Nat) (V : XM) (a : Int) (b : Int) (c : Int) : Yf (d + 1) 162 [xr 2 0, xi a, xi b, xi c] V =
    ci (Yf d 123 [xi a, xi (V 2 0 12)] V) (fun x2 V1 =>
    if x2 = 0 then
      some (xi (-1), V1)
    else
      if c = (-9) then
        if 0 ≤ a ∧ a < 10 then
          ci (Yf d 123 [xi b, xi (V1 12 (a.toNat) 2)] V1) (fun x4 V3 =>
            if x4 = 0 then
              ci (Yf d 121 [xr 2 0, xi 2] V3) (fun x6 V5 =>
                some (xi x6, V5))
            else
              ci (Yf d 163 [xr 2 0, xr 12 (a.toNat), xi c] V3) (fun x8 V7 =>
                if x8 = 0 then
                  ci (Yf d 121 [xr 2 0, xi 4] V7) (fun x10 V9 =>
                    some (xi x10, V9))
                else
                  if 0 ≤ b ∧ b < 16 then
                    some (xi 1, (xu V7 62 (a.toNat) (b.toNat) c))
                  else
                    none))
        else
          none
      else
        ci (Yf d 90 [xr 4 0, xl c] V1) (fun x12 V11 =>
          if x12 = 0 then
            some (xi (-1), V11)
          else
            if 0 ≤ a ∧ a < 10 then
              ci (Yf d 123 [xi b, xi (V11 12 (a.toNat) 2)] V11) (fun x14 V13 =>
                if x14 = 0 then
                  ci (Yf d 121 [xr 2 0, xi 2] V13) (fun x16 V15 =>
                    some (xi x16, V15))
                else
                  ci (Yf d 163 [xr 2 0, xr 12 (a.toNat), xi c] V13) (fun x18 V17 =>
                    if x18 = 0 then
                      ci (Yf d 121 [xr 2 0, xi 4] V17) (fun x20 V19 =>
                        some (xi x20, V19))
                    else
                      if 0 ≤ b ∧ b < 16 then
                        some (xi 1, (xu V17 62 (a.toNat) (b.toNat) c))
                      else
                        none))
            else
              none)) := Xc_es [] P_X11_stand 4 _ V
set_option maxRecDepth 100000 in
theorem s_X11_shelfTakes (d : Nat) (V : XM) (a : Nat) (b : Int) : Yf (d + 1) 163 [xr 2 0, xr 12 a, xi b] V =
    if b = (-9) then
    some (xi 1, V)
  else
    if 0 ≤ b ∧ b < 64 then
      ci (Yf d 4 [xr 3 0, xi (V 21 0 (b.toNat)), xi (V 12 a 1)] V) (fun x2 V1 =>
        if x2 = 0 then
          some (xi 0, V1)
        else
          some (xi 1, V1))
    else
      none := Xc_es [] P_X11_shelfTakes 3 _ V
set_option maxRecDepth 100000 in
theorem s_X11_stands (d : Nat) (V : XM) (a : Int) (b : Int) : Yf (d + 1) 164 [xr 2 0, xi a, xi b] V =
    ci (Yf d 123 [xi a, xi (V 2 0 12)] V) (fun x2 V1 =>
    if x2 = 0 then
      some (xi (-1), V1)
    else
      if 0 ≤ a ∧ a < 10 then
        ci (Yf d 123 [xi b, xi (V1 12 (a.toNat) 2)] V1) (fun x4 V3 =>
          if x4 = 0 then
            ci (Yf d 121 [xr 2 0, xi 2] V3) (fun x6 V5 =>
              some (xi x6, V5))
          else
            if 0 ≤ a ∧ a < 10 then
              if 0 ≤ b ∧ b < 16 then
                some (xi (V3 62 (a.toNat) (b.toNat)), V3)
              else
                none
            else
              none)
      else
        none) := Xc_es [] P_X11_stands 4 _ V
set_option maxRecDepth 100000 in
theorem s_X11_haul (d : Nat) (V : XM) (a : Int) (b : Int) (c : Int) (e : Int) (f : Int) : Yf (d + 1) 165 [xr 2 0, xi a, xi b, xi c, xi e, xi f] V =
    ci (Yf d 123 [xi a, xi (V 2 0 12)] V) (fun x2 V1 =>
    if x2 = 0 then
      some (xi (-1), V1)
    else
      ci (Yf d 123 [xi c, xi (V1 2 0 12)] V1) (fun x4 V3 =>
        if x4 = 0 then
          some (xi (-1), V3)
        else
          if 0 ≤ a ∧ a < 10 then
            if 0 ≤ c ∧ c < 10 then
              ci (Yf d 74 [xr 12 (a.toNat), xi b, xi f] V3) (fun x6 V5 =>
                if x6 = 0 then
                  ci (Yf d 121 [xr 2 0, xi 2] V5) (fun x8 V7 =>
                    some (xi x8, V7))
                else
                  ci (Yf d 74 [xr 12 (c.toNat), xi e, xi f] V5) (fun x10 V9 =>
                    if x10 = 0 then
                      ci (Yf d 121 [xr 2 0, xi 2] V9) (fun x12 V11 =>
                        some (xi x12, V11))
                    else
                      Xf d 165 72 [xr 2 0, xr 0 0, xi b, xr 0 0, xi e, xi f, xr 12 (a.toNat), xr 12 (c.toNat), xi 0] [] V9))
            else
              none
          else
            none)) := Xc_es [72, 110] P_X11_haul 3 _ V
set_option maxRecDepth 100000 in
theorem s_X11_haul_72 (d : Nat) (V : XM) (l2 : Int) (l4 : Int) (l5 : Int) (p6 : Nat) (p7 : Nat) (l8 : Int) : Xf d 165 72 [xr 2 0, xr 0 0, xi l2, xr 0 0, xi l4, xi l5, xr 12 p6, xr 12 p7, xi l8] [] V =
    if l8 < l5 then
    if 0 ≤ w32 (l2 + l8) ∧ w32 (l2 + l8) < 16 then
      if 0 ≤ l8 ∧ l8 < 16 then
        Xf d 165 72 [xr 2 0, xr 0 0, xi l2, xr 0 0, xi l4, xi l5, xr 12 p6, xr 12 p7, xi (w32 (l8 + 1))] [] (xu V 17 0 (l8.toNat) (V 62 p6 ((w32 (l2 + l8)).toNat)))
      else
        none
    else
      none
  else
    Xf d 165 110 [xr 2 0, xr 0 0, xr 0 0, xr 0 0, xi l4, xi l5, xr 0 0, xr 12 p7, xi 0] [] (xu V 2 0 16 0) := Xx_es [72, 110] P_X11_haul 2 _ _ _ V
set_option maxRecDepth 100000 in
theorem s_X11_haul_110 (d : Nat) (V : XM) (l4 : Int) (l5 : Int) (p7 : Nat) (l8 : Int) : Xf d 165 110 [xr 2 0, xr 0 0, xr 0 0, xr 0 0, xi l4, xi l5, xr 0 0, xr 12 p7, xi l8] [] V =
    if l8 < l5 then
    if 0 ≤ l8 ∧ l8 < 16 then
      ci (Yf d 163 [xr 2 0, xr 12 p7, xi (V 17 0 (l8.toNat))] V) (fun x2 V1 =>
        if x2 = 0 then
          ci (Yf d 121 [xr 2 0, xi 4] V1) (fun x4 V3 =>
            some (xi x4, V3))
        else
          if 0 ≤ l8 ∧ l8 < 16 then
            if 0 ≤ w32 (l4 + l8) ∧ w32 (l4 + l8) < 16 then
              Xf d 165 110 [xr 2 0, xr 0 0, xr 0 0, xr 0 0, xi l4, xi l5, xr 0 0, xr 12 p7, xi (w32 (l8 + 1))] [] (xu (xu V1 62 p7 ((w32 (l4 + l8)).toNat) (V1 17 0 (l8.toNat))) 2 0 16 (w32 ((V1 2 0 16) + 1)))
            else
              none
          else
            none)
    else
      none
  else
    some (xi l5, V) := Xx_es [72, 110] P_X11_haul 2 _ _ _ V
set_option maxRecDepth 100000 in
theorem s_X11_came (d : Nat) (V : XM) : Yf (d + 1) 166 [xr 2 0] V =
    some (xi (V 2 0 16), V) := Xc_es [] P_X11_came 1 _ V
set_option maxRecDepth 100000 in
theorem s_X11_table (d : Nat) (V : XM) (a : Int) (b : Int) (c : Int) : Yf (d + 1) 167 [xr 2 0, xi a, xi b, xi c] V =
    if a < 1 then
    some (xi (-2), V)
  else
    if 16 < a then
      some (xi (-2), V)
    else
      if b < 1 then
        some (xi (-2), V)
      else
        if 5 < b then
          some (xi (-2), V)
        else
          ci (Yf d 168 [xi c, xi b] V) (fun x2 V1 =>
            if x2 = 0 then
              some (xi (-2), V1)
            else
              if (V1 2 0 13) < 6 then
                if 0 ≤ V1 2 0 13 ∧ V1 2 0 13 < 6 then
                  cv (Yf d 76 [xr 13 ((V1 2 0 13).toNat), xi a, xi b, xi c] V1) (fun V3 =>
                    some (xi (V3 2 0 13), (xu V3 2 0 13 (w32 ((V3 2 0 13) + 1)))))
                else
                  none
              else
                some (xi (-4), V1)) := Xc_es [] P_X11_table 3 _ V
set_option maxRecDepth 100000 in
theorem s_X11_areLanes (d : Nat) (V : XM) (a : Int) (b : Int) : Yf (d + 1) 168 [xi a, xi b] V =
    Xf d 168 4 [xr 0 0, xi b, xi a, xi 0] [] V := Xc_es [4] P_X11_areLanes 1 _ V
set_option maxRecDepth 100000 in
theorem s_X11_areLanes_4 (d : Nat) (V : XM) (l1 : Int) (l2 : Int) (l3 : Int) : Xf d 168 4 [xr 0 0, xi l1, xi l2, xi l3] [] V =
    if l3 < l1 then
    if l2 < 0 then
      some (xi 0, V)
    else
      if (Int.tmod l2 10) < 8 then
        Xf d 168 4 [xr 0 0, xi l1, xi (w32 (Int.tdiv l2 10)), xi (w32 (l3 + 1))] [] V
      else
        some (xi 0, V)
  else
    if l2 = 0 then
      some (xi 1, V)
    else
      some (xi 0, V) := Xx_es [4] P_X11_areLanes 4 _ _ _ V
set_option maxRecDepth 100000 in
theorem s_X11_fill (d : Nat) (V : XM) (a : Int) (b : Int) (c : Int) (e : Int) : Yf (d + 1) 169 [xr 2 0, xi a, xi b, xi c, xl e] V =
    ci (Yf d 123 [xi a, xi (V 2 0 13)] V) (fun x2 V1 =>
    if x2 = 0 then
      some (xi (-1), V1)
    else
      if 0 ≤ a ∧ a < 6 then
        ci (Yf d 77 [xr 13 (a.toNat), xi b, xi c] V1) (fun x4 V3 =>
          if x4 = 0 then
            ci (Yf d 121 [xr 2 0, xi 2] V3) (fun x6 V5 =>
              some (xi x6, V5))
          else
            if 0 ≤ a ∧ a < 6 then
              cv (Yf d 80 [xr 13 (a.toNat), xi b, xi c, xl e] V3) (fun V7 =>
                some (xi 1, V7))
            else
              none)
      else
        none) := Xc_es [] P_X11_fill 3 _ V
set_option maxRecDepth 100000 in
theorem s_X11_blank (d : Nat) (V : XM) (a : Int) (b : Int) (c : Int) : Yf (d + 1) 170 [xr 2 0, xi a, xi b, xi c] V =
    ci (Yf d 123 [xi a, xi (V 2 0 13)] V) (fun x2 V1 =>
    if x2 = 0 then
      some (xi (-1), V1)
    else
      if 0 ≤ a ∧ a < 6 then
        ci (Yf d 77 [xr 13 (a.toNat), xi b, xi c] V1) (fun x4 V3 =>
          if x4 = 0 then
            ci (Yf d 121 [xr 2 0, xi 2] V3) (fun x6 V5 =>
              some (xi x6, V5))
          else
            if 0 ≤ a ∧ a < 6 then
              ci (Yf d 81 [xr 13 (a.toNat), xi b, xi c] V3) (fun x8 V7 =>
                if x8 = 0 then
                  some (xi 0, V7)
                else
                  some (xi 1, V7))
            else
              none)
      else
        none) := Xc_es [] P_X11_blank 5 _ V
set_option maxRecDepth 100000 in
theorem s_X11_read (d : Nat) (V : XM) (a : Int) (b : Int) (c : Int) : Yf (d + 1) 171 [xr 2 0, xi a, xi b, xi c] V =
    ci (Yf d 123 [xi a, xi (V 2 0 13)] V) (fun x2 V1 =>
    if x2 = 0 then
      some (xl (-1), V1)
    else
      if 0 ≤ a ∧ a < 6 then
        ci (Yf d 77 [xr 13 (a.toNat), xi b, xi c] V1) (fun x4 V3 =>
          if x4 = 0 then
            ci (Yf d 121 [xr 2 0, xi 2] V3) (fun x6 V5 =>
              some (xl x6, V5))
          else
            if 0 ≤ a ∧ a < 6 then
              ci (Yf d 78 [xr 13 (a.toNat), xi b, xi c] V3) (fun x8 V7 =>
                if x8 = 0 then
                  if 0 ≤ a ∧ a < 6 then
                    cl (Yf d 79 [xr 13 (a.toNat), xi b, xi c] V7) (fun x10 V9 =>
                      some (xl x10, V9))
                  else
                    none
                else
                  ci (Yf d 121 [xr 2 0, xi 1] V7) (fun x12 V11 =>
                    some (xl x12, V11)))
            else
              none)
      else
        none) := Xc_es [] P_X11_read 5 _ V
set_option maxRecDepth 100000 in
theorem s_X11_choose (d : Nat) (V : XM) (a : Int) (b : Int) (c : Int) (e : Int) : Yf (d + 1) 172 [xr 2 0, xi a, xi b, xl c, xi e] V =
    ci (Yf d 123 [xi a, xi (V 2 0 13)] V) (fun x2 V1 =>
    if x2 = 0 then
      some (xi (-1), V1)
    else
      ci (Yf d 123 [xi e, xi 16] V1) (fun x4 V3 =>
        if x4 = 0 then
          some (xi (-2), V3)
        else
          if 0 ≤ a ∧ a < 6 then
            ci (Yf d 123 [xi b, xi (V3 13 (a.toNat) 5)] V3) (fun x6 V5 =>
              if x6 = 0 then
                ci (Yf d 121 [xr 2 0, xi 2] V5) (fun x8 V7 =>
                  some (xi x8, V7))
              else
                if 0 ≤ a ∧ a < 6 then
                  ci (Yf d 82 [xr 13 (a.toNat), xi b, xl c, xi e] V5) (fun x10 V9 =>
                    some (xi x10, V9))
                else
                  none)
          else
            none)) := Xc_es [] P_X11_choose 4 _ V
set_option maxRecDepth 100000 in
theorem s_X11_rank (d : Nat) (V : XM) (a : Int) (b : Int) (c : Int) : Yf (d + 1) 173 [xr 2 0, xi a, xi b, xi c] V =
    ci (Yf d 123 [xi a, xi (V 2 0 13)] V) (fun x2 V1 =>
    if x2 = 0 then
      some (xi (-1), V1)
    else
      if 0 ≤ a ∧ a < 6 then
        ci (Yf d 123 [xi b, xi (V1 13 (a.toNat) 5)] V1) (fun x4 V3 =>
          if x4 = 0 then
            ci (Yf d 121 [xr 2 0, xi 2] V3) (fun x6 V5 =>
              some (xi x6, V5))
          else
            if 0 ≤ a ∧ a < 6 then
              ci (Yf d 83 [xr 13 (a.toNat), xi b, xi c] V3) (fun x8 V7 =>
                some (xi x8, V7))
            else
              none)
      else
        none) := Xc_es [] P_X11_rank 4 _ V
set_option maxRecDepth 100000 in
theorem s_X11_total (d : Nat) (V : XM) (a : Int) (b : Int) : Yf (d + 1) 174 [xr 2 0, xi a, xi b] V =
    ci (Yf d 123 [xi a, xi (V 2 0 13)] V) (fun x2 V1 =>
    if x2 = 0 then
      some (xl (-1), V1)
    else
      if 0 ≤ a ∧ a < 6 then
        ci (Yf d 123 [xi b, xi (V1 13 (a.toNat) 5)] V1) (fun x4 V3 =>
          if x4 = 0 then
            ci (Yf d 121 [xr 2 0, xi 2] V3) (fun x6 V5 =>
              some (xl x6, V5))
          else
            if 0 ≤ a ∧ a < 6 then
              cl (Yf d 86 [xr 13 (a.toNat), xi b] V3) (fun x8 V7 =>
                some (xl x8, V7))
            else
              none)
      else
        none) := Xc_es [] P_X11_total 4 _ V
set_option maxRecDepth 100000 in
theorem s_X11_mean (d : Nat) (V : XM) (a : Int) (b : Int) : Yf (d + 1) 175 [xr 2 0, xi a, xi b] V =
    ci (Yf d 123 [xi a, xi (V 2 0 13)] V) (fun x2 V1 =>
    if x2 = 0 then
      some (xl (-1), V1)
    else
      if 0 ≤ a ∧ a < 6 then
        ci (Yf d 123 [xi b, xi (V1 13 (a.toNat) 5)] V1) (fun x4 V3 =>
          if x4 = 0 then
            ci (Yf d 121 [xr 2 0, xi 2] V3) (fun x6 V5 =>
              some (xl x6, V5))
          else
            if 0 ≤ a ∧ a < 6 then
              ci (Yf d 87 [xr 13 (a.toNat), xi b] V3) (fun x8 V7 =>
                if x8 = 0 then
                  ci (Yf d 121 [xr 2 0, xi 6] V7) (fun x10 V9 =>
                    some (xl x10, V9))
                else
                  if 0 ≤ a ∧ a < 6 then
                    cl (Yf d 86 [xr 13 (a.toNat), xi b] V7) (fun x12 V11 =>
                      if x8 = 0 then
                        none
                      else
                        some (xl (w64 (Int.tdiv x12 x8)), V11))
                  else
                    none)
            else
              none)
      else
        none) := Xc_es [] P_X11_mean 5 _ V
set_option maxRecDepth 100000 in
theorem s_X11_make (d : Nat) (V : XM) : Yf (d + 1) 176 [xr 2 0] V =
    ci (Yf d 94 [xr 4 0] V) (fun x2 V1 =>
    if x2 = 0 then
      some (xi (-3), V1)
    else
      ci (Yf d 26 [xr 7 0] V1) (fun x4 V3 =>
        if 0 < x4 then
          some (xi (-3), V3)
        else
          cv (Yf d 177 [xr 2 0, xi (V3 3 0 1)] (xu V3 2 0 14 0)) (fun V5 =>
            cv (Yf d 177 [xr 2 0, xi (V5 4 0 7)] V5) (fun V6 =>
              Xf d 176 52 [xr 2 0, xi 0] [] V6)))) := Xc_es [52, 76, 111] P_X11_make 2 _ V
set_option maxRecDepth 100000 in
theorem s_X11_make_52 (d : Nat) (V : XM) (l1 : Int) : Xf d 176 52 [xr 2 0, xi l1] [] V =
    if l1 < (V 4 0 7) then
    cv (Yf d 178 [xr 2 0, xi l1] V) (fun V1 =>
      Xf d 176 52 [xr 2 0, xi (w32 (l1 + 1))] [] V1)
  else
    Xf d 176 76 [xr 2 0, xi 0] [] V := Xx_es [52, 76, 111] P_X11_make 2 _ _ _ V
set_option maxRecDepth 100000 in
theorem s_X11_make_76 (d : Nat) (V : XM) (l1 : Int) : Xf d 176 76 [xr 2 0, xi l1] [] V =
    if l1 < (V 4 0 7) then
    ci (Yf d 93 [xr 4 0, xi l1] V) (fun x2 V1 =>
      if x2 = 0 then
        Xf d 176 76 [xr 2 0, xi (w32 (l1 + 1))] [] V1
      else
        cv (Yf d 179 [xr 2 0, xi l1] V1) (fun V3 =>
          Xf d 176 76 [xr 2 0, xi (w32 (l1 + 1))] [] V3))
  else
    Xf d 176 111 [xr 2 0, xi 0] [] V := Xx_es [52, 76, 111] P_X11_make 2 _ _ _ V
set_option maxRecDepth 100000 in
theorem s_X11_make_111 (d : Nat) (V : XM) (l1 : Int) : Xf d 176 111 [xr 2 0, xi l1] [] V =
    if l1 < (V 10 0 6) then
    if 0 ≤ l1 ∧ l1 < 8 then
      cv (Yf d 177 [xr 2 0, xi (V 54 0 (l1.toNat))] V) (fun V1 =>
        ci (Yf d 48 [xr 10 0, xi l1] V1) (fun x3 V2 =>
          cv (Yf d 177 [xr 2 0, xi x3] V2) (fun V4 =>
            Xf d 176 111 [xr 2 0, xi (w32 (l1 + 1))] [] V4)))
    else
      none
  else
    some (xi (V 2 0 14), V) := Xx_es [52, 76, 111] P_X11_make 2 _ _ _ V
set_option maxRecDepth 100000 in
theorem s_X11_addWord (d : Nat) (V : XM) (a : Int) : Yf (d + 1) 177 [xr 2 0, xi a] V =
    if (V 2 0 14) < 1490 then
    if 0 ≤ V 2 0 14 ∧ V 2 0 14 < 1490 then
      some (xi 0, (xu (xu V 2 0 14 (w32 ((V 2 0 14) + 1))) 18 0 ((V 2 0 14).toNat) a))
    else
      none
  else
    some (xi 0, V) := Xc_es [] P_X11_addWord 2 _ V
set_option maxRecDepth 100000 in
theorem s_X11_addWordsOfThing (d : Nat) (V : XM) (a : Int) : Yf (d + 1) 178 [xr 2 0, xi a] V =
    if 0 ≤ a ∧ a < 64 then
    cv (Yf d 177 [xr 2 0, xi (V 20 0 (a.toNat))] V) (fun V1 =>
      ci (Yf d 8 [xr 7 0, xi a, xi 0] V1) (fun x3 V2 =>
        cv (Yf d 177 [xr 2 0, xi x3] V2) (fun V4 =>
          if 0 ≤ a ∧ a < 64 then
            cv (Yf d 177 [xr 2 0, xi (V4 22 0 (a.toNat))] V4) (fun V5 =>
              Xf d 178 41 [xr 2 0, xi a, xi 0] [] V5)
          else
            none)))
  else
    none := Xc_es [41] P_X11_addWordsOfThing 1 _ V
set_option maxRecDepth 100000 in
theorem s_X11_addWordsOfThing_41 (d : Nat) (V : XM) (l1 : Int) (l2 : Int) : Xf d 178 41 [xr 2 0, xi l1, xi l2] [] V =
    if l2 < (V 5 0 9) then
    ci (Yf d 109 [xr 5 0, xi l1, xi l2] V) (fun x2 V1 =>
      if x2 = 0 then
        Xf d 178 41 [xr 2 0, xi l1, xi (w32 (l2 + 1))] [] V1
      else
        cl (Yf d 115 [xr 5 0, xi l1, xi l2] V1) (fun x4 V3 =>
          cv (Yf d 177 [xr 2 0, xi (w32 x4)] V3) (fun V5 =>
            Xf d 178 41 [xr 2 0, xi l1, xi (w32 (l2 + 1))] [] V5)))
  else
    some (xi 0, V) := Xx_es [41] P_X11_addWordsOfThing 2 _ _ _ V
set_option maxRecDepth 100000 in
theorem s_X11_addWordsOfRoom (d : Nat) (V : XM) (a : Int) : Yf (d + 1) 179 [xr 2 0, xi a] V =
    Xf d 179 2 [xr 2 0, xi a, xi 0] [] V := Xc_es [2] P_X11_addWordsOfRoom 1 _ V
set_option maxRecDepth 100000 in
theorem s_X11_addWordsOfRoom_2 (d : Nat) (V : XM) (l1 : Int) (l2 : Int) : Xf d 179 2 [xr 2 0, xi l1, xi l2] [] V =
    if l2 < 8 then
    ci (Yf d 53 [xr 11 0, xi l1, xi l2] V) (fun x2 V1 =>
      cv (Yf d 177 [xr 2 0, xi x2] V1) (fun V3 =>
        Xf d 179 2 [xr 2 0, xi l1, xi (w32 (l2 + 1))] [] V3))
  else
    some (xi 0, V) := Xx_es [2] P_X11_addWordsOfRoom 2 _ _ _ V
set_option maxRecDepth 100000 in
theorem s_X11_word (d : Nat) (V : XM) (a : Int) : Yf (d + 1) 180 [xr 2 0, xi a] V =
    ci (Yf d 123 [xi a, xi (V 2 0 14)] V) (fun x2 V1 =>
    if x2 = 0 then
      some (xi (-9), V1)
    else
      if 0 ≤ a ∧ a < 1490 then
        some (xi (V1 18 0 (a.toNat)), V1)
      else
        none) := Xc_es [] P_X11_word 3 _ V
set_option maxRecDepth 100000 in
theorem s_X11_digest (d : Nat) (V : XM) : Yf (d + 1) 181 [xr 2 0] V =
    Xf d 181 6 [xr 2 0, xl 17, xr 0 0, xi 0] [] V := Xc_es [6] P_X11_digest 1 _ V
set_option maxRecDepth 100000 in
theorem s_X11_digest_6 (d : Nat) (V : XM) (l1 : Int) (l3 : Int) : Xf d 181 6 [xr 2 0, xl l1, xr 0 0, xi l3] [] V =
    if l3 < (V 2 0 14) then
    if 0 ≤ l3 ∧ l3 < 1490 then
      Xf d 181 6 [xr 2 0, xl (w64 ((w64 (31 * l1)) + (V 18 0 (l3.toNat)))), xr 0 0, xi (w32 (l3 + 1))] [] V
    else
      none
  else
    some (xl l1, V) := Xx_es [6] P_X11_digest 2 _ _ _ V
set_option maxRecDepth 100000 in
theorem s_X11_sentence (d : Nat) (V : XM) (a : Int) (b : Int) : Yf (d + 1) 182 [xr 2 0, xi a, xi b] V =
    ci (Yf d 123 [xi a, xi (V 6 0 4)] V) (fun x2 V1 =>
    if x2 = 0 then
      some (xi (-1), V1)
    else
      if b = 0 then
        if 0 ≤ a ∧ a < 300 then
          some (xi (V1 33 0 (a.toNat)), V1)
        else
          none
      else
        if b = 0 + 1 then
          if 0 ≤ a ∧ a < 300 then
            some (xi (V1 34 0 (a.toNat)), V1)
          else
            none
        else
          if b = 0 + 1 + 1 then
            if 0 ≤ a ∧ a < 300 then
              some (xi (V1 35 0 (a.toNat)), V1)
            else
              none
          else
            some (xi (-2), V1)) := Xc_es [] P_X11_sentence 3 _ V
set_option maxRecDepth 100000 in
theorem s_X11_count (d : Nat) (V : XM) (a : Int) : Yf (d + 1) 183 [xr 2 0, xi a] V =
    if a = 0 then
    some (xi (V 3 0 1), V)
  else
    if a = 0 + 1 then
      some (xi (V 5 0 9), V)
    else
      if a = 0 + 1 + 1 then
        some (xi (V 4 0 7), V)
      else
        if a = 0 + 1 + 1 + 1 then
          some (xi (V 6 0 4), V)
        else
          if a = 0 + 1 + 1 + 1 + 1 then
            some (xi (V 10 0 6), V)
          else
            if a = 0 + 1 + 1 + 1 + 1 + 1 then
              some (xi (V 2 0 12), V)
            else
              if a = 0 + 1 + 1 + 1 + 1 + 1 + 1 then
                some (xi (V 2 0 13), V)
              else
                if a = 0 + 1 + 1 + 1 + 1 + 1 + 1 + 1 then
                  ci (Yf d 26 [xr 7 0] V) (fun x2 V1 =>
                    some (xi x2, V1))
                else
                  if a = 0 + 1 + 1 + 1 + 1 + 1 + 1 + 1 + 1 then
                    some (xi (V 2 0 14), V)
                  else
                    if a = 0 + 1 + 1 + 1 + 1 + 1 + 1 + 1 + 1 + 1 then
                      some (xi (V 7 0 15), V)
                    else
                      some (xi (-2), V) := Xc_es [] P_X11_count 2 _ V
set_option maxRecDepth 100000 in
theorem s_X11_fault (d : Nat) (V : XM) : Yf (d + 1) 184 [xr 2 0] V =
    some (xi (V 2 0 15), V) := Xc_es [] P_X11_fault 1 _ V
set_option maxRecDepth 100000 in
theorem s_X11_clear (d : Nat) (V : XM) : Yf (d + 1) 185 [xr 2 0] V =
    cv (Yf d 120 [xr 2 0] V) (fun V1 =>
    some (xi (V 4 0 7), V1)) := Xc_es [] P_X11_clear 1 _ V
end
section
set_option maxRecDepth 100000 in
theorem s_X11_bit (d : Nat) (V : XM) (a : Int) : Yf (d + 1) 186 [xi a] V =
    some (xl (lShl 1 a), V) := Xc_es [] P_X11_bit 1 _ V
set_option maxRecDepth 100000 in
theorem s_X11_toldBy (d : Nat) (V : XM) (a : Int) (b : Int) : Yf (d + 1) 187 [xi a, xl b] V =
    if a = 0 then
    if (cmp3 b 0) = 0 then
      some (xl 0, V)
    else
      some (xl 1, V)
  else
    if a = 0 + 1 then
      some (xl (w8 (w32 b)), V)
    else
      if a = 0 + 1 + 1 then
        some (xl (w16 (w32 b)), V)
      else
        if a = 0 + 1 + 1 + 1 then
          some (xl (c16 (w32 b)), V)
        else
          if a = 0 + 1 + 1 + 1 + 1 then
            some (xl (w32 b), V)
          else
            if a = 0 + 1 + 1 + 1 + 1 + 1 then
              some (xl b, V)
            else
              if a = 0 + 1 + 1 + 1 + 1 + 1 + 1 then
                some (xl (fF2L (fL2F b)), V)
              else
                if a = 0 + 1 + 1 + 1 + 1 + 1 + 1 + 1 then
                  some (xl (fD2L (fL2D b)), V)
                else
                  some (xl b, V) := Xc_es [] P_X11_toldBy 4 _ V
set_option maxRecDepth 100000 in
theorem s_X12_in (d : Nat) (V : XM) (a : Int) (b : Int) (c : Int) : Yf (d + 1) 189 [xl a, xl b, xl c] V =
    if (cmp3 a b) < 0 then
    some (xi 0, V)
  else
    if 0 < (cmp3 a c) then
      some (xi 0, V)
    else
      some (xi 1, V) := Xc_es [] P_X12_in 3 _ V
set_option maxRecDepth 100000 in
theorem s_X12_faulty (d : Nat) (V : XM) (a : Int) : Yf (d + 1) 190 [xr 14 0, xi a] V =
    some (xi a, (xu V 14 0 0 (w32 ((-10) - a)))) := Xc_es [] P_X12_faulty 1 _ V
set_option maxRecDepth 100000 in
theorem s_X12_begin (d : Nat) (V : XM) : Yf (d + 1) 191 [xr 14 0] V =
    Xf d 191 13 [xr 14 0, xi 0] [] (xu (xu V 14 0 0 0) 14 0 1 6) := Xc_es [13, 88, 110] P_X12_begin 1 _ V
set_option maxRecDepth 100000 in
theorem s_X12_begin_13 (d : Nat) (V : XM) (l1 : Int) : Xf d 191 13 [xr 14 0, xi l1] [] V =
    if l1 < 6 then
    if l1 = 5 then
      if 0 ≤ l1 ∧ l1 < 24 then
        Xf d 191 13 [xr 14 0, xi (w32 (l1 + 1))] [] (xu V 67 0 (l1.toNat) 4)
      else
        none
    else
      if 0 ≤ l1 ∧ l1 < 24 then
        Xf d 191 13 [xr 14 0, xi (w32 (l1 + 1))] [] (xu V 67 0 (l1.toNat) 0)
      else
        none
  else
    Xf d 191 88 [xr 14 0, xi 0] [] (xu (xu (xu (xu (xu (xu (xu (xu (xu V 14 0 3 0) 14 0 9 0) 14 0 22 0) 14 0 29 0) 14 0 39 0) 14 0 45 0) 14 0 56 0) 14 0 27 0) 14 0 44 0) := Xx_es [13, 88, 110] P_X12_begin 3 _ _ _ V
set_option maxRecDepth 100000 in
theorem s_X12_begin_88 (d : Nat) (V : XM) (l1 : Int) : Xf d 191 88 [xr 14 0, xi l1] [] V =
    if l1 < 288 then
    if 0 ≤ l1 ∧ l1 < 288 then
      Xf d 191 88 [xr 14 0, xi (w32 (l1 + 1))] [] (xu V 71 0 (l1.toNat) 0)
    else
      none
  else
    Xf d 191 110 [xr 14 0, xi 0] [] V := Xx_es [13, 88, 110] P_X12_begin 2 _ _ _ V
set_option maxRecDepth 100000 in
theorem s_X12_begin_110 (d : Nat) (V : XM) (l1 : Int) : Xf d 191 110 [xr 14 0, xi l1] [] V =
    if l1 < 512 then
    if 0 ≤ l1 ∧ l1 < 512 then
      if 0 ≤ l1 ∧ l1 < 512 then
        if 0 ≤ l1 ∧ l1 < 512 then
          Xf d 191 110 [xr 14 0, xi (w32 (l1 + 1))] [] (xu (xu (xu V 95 0 (l1.toNat) 0) 96 0 (l1.toNat) (-9)) 97 0 (l1.toNat) (-9))
        else
          none
      else
        none
    else
      none
  else
    some (xi 0, V) := Xx_es [13, 88, 110] P_X12_begin 2 _ _ _ V
set_option maxRecDepth 100000 in
theorem s_X12_isKind (d : Nat) (V : XM) (a : Int) : Yf (d + 1) 192 [xr 14 0, xi a] V =
    ci (Yf d 189 [xl a, xl 0, xl (w32 ((V 14 0 1) - 1))] V) (fun x2 V1 =>
    if x2 = 0 ∨ x2 = 1 then
      some (xi x2, V1)
    else
      none) := Xc_es [] P_X12_isKind 1 _ V
set_option maxRecDepth 100000 in
theorem s_X12_isProperty (d : Nat) (V : XM) (a : Int) : Yf (d + 1) 193 [xr 14 0, xi a] V =
    ci (Yf d 189 [xl a, xl 0, xl (w32 ((V 14 0 3) - 1))] V) (fun x2 V1 =>
    if x2 = 0 ∨ x2 = 1 then
      some (xi x2, V1)
    else
      none) := Xc_es [] P_X12_isProperty 1 _ V
set_option maxRecDepth 100000 in
theorem s_X12_comesTo (d : Nat) (V : XM) (a : Int) (b : Int) : Yf (d + 1) 194 [xr 14 0, xi a, xi b] V =
    Xf d 194 2 [xr 14 0, xr 0 0, xi b, xi a] [] V := Xc_es [2] P_X12_comesTo 1 _ V
set_option maxRecDepth 100000 in
theorem s_X12_comesTo_2 (d : Nat) (V : XM) (l2 : Int) (l3 : Int) : Xf d 194 2 [xr 14 0, xr 0 0, xi l2, xi l3] [] V =
    if l3 = l2 then
    if l3 = l2 then
      some (xi 1, V)
    else
      some (xi 0, V)
  else
    if l3 = 0 then
      if l3 = l2 then
        some (xi 1, V)
      else
        some (xi 0, V)
    else
      if 0 ≤ l3 ∧ l3 < 24 then
        Xf d 194 2 [xr 14 0, xr 0 0, xi l2, xi (V 67 0 (l3.toNat))] [] V
      else
        none := Xx_es [2] P_X12_comesTo 4 _ _ _ V
set_option maxRecDepth 100000 in
theorem s_X12_baseOf (d : Nat) (V : XM) (a : Int) : Yf (d + 1) 195 [xr 14 0, xi a] V =
    Xf d 195 2 [xr 14 0, xr 0 0, xi a] [] V := Xc_es [2] P_X12_baseOf 1 _ V
set_option maxRecDepth 100000 in
theorem s_X12_baseOf_2 (d : Nat) (V : XM) (l2 : Int) : Xf d 195 2 [xr 14 0, xr 0 0, xi l2] [] V =
    if 5 < l2 then
    if 0 ≤ l2 ∧ l2 < 24 then
      Xf d 195 2 [xr 14 0, xr 0 0, xi (V 67 0 (l2.toNat))] [] V
    else
      none
  else
    some (xi l2, V) := Xx_es [2] P_X12_baseOf 2 _ _ _ V
set_option maxRecDepth 100000 in
theorem s_X12_kind (d : Nat) (V : XM) (a : Int) : Yf (d + 1) 196 [xr 14 0, xi a] V =
    ci (Yf d 192 [xr 14 0, xi a] V) (fun x2 V1 =>
    if x2 = 0 then
      some (xi (-1), V1)
    else
      if (V1 14 0 1) = 24 then
        some (xi (-4), V1)
      else
        if 0 ≤ V1 14 0 1 ∧ V1 14 0 1 < 24 then
          some (xi (w32 ((w32 ((V1 14 0 1) + 1)) - 1)), (xu (xu V1 67 0 ((V1 14 0 1).toNat) a) 14 0 1 (w32 ((V1 14 0 1) + 1))))
        else
          none) := Xc_es [] P_X12_kind 3 _ V
set_option maxRecDepth 100000 in
theorem s_X12_is (d : Nat) (V : XM) (a : Int) (b : Int) : Yf (d + 1) 197 [xr 14 0, xi a, xi b] V =
    ci (Yf d 192 [xr 14 0, xi a] V) (fun x2 V1 =>
    if x2 = 0 then
      some (xi (-1), V1)
    else
      ci (Yf d 192 [xr 14 0, xi b] V1) (fun x4 V3 =>
        if x4 = 0 then
          some (xi (-1), V3)
        else
          ci (Yf d 194 [xr 14 0, xi a, xi b] V3) (fun x6 V5 =>
            if x6 = 0 then
              some (xi 0, V5)
            else
              some (xi 1, V5)))) := Xc_es [] P_X12_is 4 _ V
set_option maxRecDepth 100000 in
theorem s_X12_property (d : Nat) (V : XM) (a : Int) (b : Int) (c : Int) : Yf (d + 1) 198 [xr 14 0, xi a, xi b, xi c] V =
    ci (Yf d 192 [xr 14 0, xi a] V) (fun x2 V1 =>
    if x2 = 0 then
      some (xi (-1), V1)
    else
      if b = 8 then
        ci (Yf d 192 [xr 14 0, xi c] V1) (fun x4 V3 =>
          if x4 = 0 then
            some (xi (-1), V3)
          else
            ci (Yf d 189 [xl b, xl 0, xl 8] V3) (fun x6 V5 =>
              if x6 = 0 then
                some (xi (-2), V5)
              else
                if (V5 14 0 3) = 12 then
                  some (xi (-4), V5)
                else
                  if 0 ≤ V5 14 0 3 ∧ V5 14 0 3 < 12 then
                    if 0 ≤ V5 14 0 3 ∧ V5 14 0 3 < 12 then
                      if b = 8 then
                        ci (Yf d 195 [xr 14 0, xi c] (xu (xu V5 68 0 ((V5 14 0 3).toNat) a) 69 0 ((V5 14 0 3).toNat) b)) (fun x8 V7 =>
                          if 0 ≤ V5 14 0 3 ∧ V5 14 0 3 < 12 then
                            Xf d 198 98 [xr 14 0, xr 0 0, xr 0 0, xr 0 0, xi 0] [] (xu V7 70 0 ((V5 14 0 3).toNat) x8)
                          else
                            none)
                      else
                        if 0 ≤ V5 14 0 3 ∧ V5 14 0 3 < 12 then
                          Xf d 198 98 [xr 14 0, xr 0 0, xr 0 0, xr 0 0, xi 0] [] (xu (xu (xu V5 68 0 ((V5 14 0 3).toNat) a) 69 0 ((V5 14 0 3).toNat) b) 70 0 ((V5 14 0 3).toNat) 0)
                        else
                          none
                    else
                      none
                  else
                    none))
      else
        ci (Yf d 189 [xl b, xl 0, xl 8] V1) (fun x10 V9 =>
          if x10 = 0 then
            some (xi (-2), V9)
          else
            if (V9 14 0 3) = 12 then
              some (xi (-4), V9)
            else
              if 0 ≤ V9 14 0 3 ∧ V9 14 0 3 < 12 then
                if 0 ≤ V9 14 0 3 ∧ V9 14 0 3 < 12 then
                  if b = 8 then
                    ci (Yf d 195 [xr 14 0, xi c] (xu (xu V9 68 0 ((V9 14 0 3).toNat) a) 69 0 ((V9 14 0 3).toNat) b)) (fun x12 V11 =>
                      if 0 ≤ V9 14 0 3 ∧ V9 14 0 3 < 12 then
                        Xf d 198 98 [xr 14 0, xr 0 0, xr 0 0, xr 0 0, xi 0] [] (xu V11 70 0 ((V9 14 0 3).toNat) x12)
                      else
                        none)
                  else
                    if 0 ≤ V9 14 0 3 ∧ V9 14 0 3 < 12 then
                      Xf d 198 98 [xr 14 0, xr 0 0, xr 0 0, xr 0 0, xi 0] [] (xu (xu (xu V9 68 0 ((V9 14 0 3).toNat) a) 69 0 ((V9 14 0 3).toNat) b) 70 0 ((V9 14 0 3).toNat) 0)
                    else
                      none
                else
                  none
              else
                none)) := Xc_es [98] P_X12_property 6 _ V
set_option maxRecDepth 100000 in
theorem s_X12_property_98 (d : Nat) (V : XM) (l4 : Int) : Xf d 198 98 [xr 14 0, xr 0 0, xr 0 0, xr 0 0, xi l4] [] V =
    if l4 < 64 then
    if 0 ≤ w32 ((w32 (64 * (V 14 0 3))) + l4) ∧ w32 ((w32 (64 * (V 14 0 3))) + l4) < 768 then
      Xf d 198 98 [xr 14 0, xr 0 0, xr 0 0, xr 0 0, xi (w32 (l4 + 1))] [] (xu V 83 0 ((w32 ((w32 (64 * (V 14 0 3))) + l4)).toNat) (-9))
    else
      none
  else
    some (xi (w32 ((w32 ((V 14 0 3) + 1)) - 1)), (xu V 14 0 3 (w32 ((V 14 0 3) + 1)))) := Xx_es [98] P_X12_property 2 _ _ _ V
set_option maxRecDepth 100000 in
theorem s_X12_cell (d : Nat) (V : XM) (a : Int) (b : Int) : Yf (d + 1) 199 [xi a, xl b] V =
    if a = 0 then
    if (cmp3 b 0) = 0 then
      some (xl 0, V)
    else
      some (xl 1, V)
  else
    if a = 0 + 1 then
      some (xl (w8 (w32 b)), V)
    else
      if a = 0 + 1 + 1 then
        some (xl (w16 (w32 b)), V)
      else
        if a = 0 + 1 + 1 + 1 then
          some (xl (lAnd b 65535), V)
        else
          if a = 0 + 1 + 1 + 1 + 1 then
            some (xl (w32 b), V)
          else
            if a = 0 + 1 + 1 + 1 + 1 + 1 then
              some (xl b, V)
            else
              if a = 0 + 1 + 1 + 1 + 1 + 1 + 1 then
                some (xl (fF2L (fL2F b)), V)
              else
                if a = 0 + 1 + 1 + 1 + 1 + 1 + 1 + 1 then
                  some (xl (fD2L (fL2D b)), V)
                else
                  some (xl b, V) := Xc_es [] P_X12_cell 4 _ V
set_option maxRecDepth 100000 in
theorem s_X12_isUnknown (d : Nat) (V : XM) (a : Int) (b : Int) : Yf (d + 1) 200 [xr 14 0, xi a, xl b] V =
    if 0 ≤ a ∧ a < 12 then
    if (V 69 0 (a.toNat)) = 8 then
      if (cmp3 b (-9)) = 0 then
        some (xi 0, V)
      else
        ci (Yf d 189 [xl b, xl 0, xl (w64 ((V 14 0 9) - 1))] V) (fun x2 V1 =>
          if x2 = 0 then
            some (xi 1, V1)
          else
            some (xi 0, V1))
    else
      some (xi 0, V)
  else
    none := Xc_es [] P_X12_isUnknown 3 _ V
set_option maxRecDepth 100000 in
theorem s_X12_isStored (d : Nat) (V : XM) (a : Int) (b : Int) : Yf (d + 1) 201 [xr 14 0, xi a, xl b] V =
    if 0 ≤ a ∧ a < 12 then
    if (V 69 0 (a.toNat)) = 8 then
      if (cmp3 b (-9)) = 0 then
        some (xi 1, V)
      else
        if 0 ≤ w32 b ∧ w32 b < 64 then
          ci (Yf d 195 [xr 14 0, xi (V 73 0 ((w32 b).toNat))] V) (fun x2 V1 =>
            if 0 ≤ a ∧ a < 12 then
              ci (Yf d 194 [xr 14 0, xi x2, xi (V1 70 0 (a.toNat))] V1) (fun x4 V3 =>
                if x4 = 0 then
                  some (xi 0, V3)
                else
                  some (xi 1, V3))
            else
              none)
        else
          none
    else
      some (xi 1, V)
  else
    none := Xc_es [] P_X12_isStored 3 _ V
set_option maxRecDepth 100000 in
theorem s_X12_usual (d : Nat) (V : XM) (a : Int) (b : Int) (c : Int) : Yf (d + 1) 202 [xr 14 0, xi a, xi b, xl c] V =
    ci (Yf d 192 [xr 14 0, xi a] V) (fun x2 V1 =>
    if x2 = 0 then
      some (xi (-1), V1)
    else
      ci (Yf d 193 [xr 14 0, xi b] V1) (fun x4 V3 =>
        if x4 = 0 then
          some (xi (-1), V3)
        else
          ci (Yf d 200 [xr 14 0, xi b, xl c] V3) (fun x6 V5 =>
            if x6 = 0 then
              if 0 ≤ b ∧ b < 12 then
                ci (Yf d 194 [xr 14 0, xi a, xi (V5 68 0 (b.toNat))] V5) (fun x8 V7 =>
                  if x8 = 0 then
                    some (xi (-3), V7)
                  else
                    ci (Yf d 201 [xr 14 0, xi b, xl c] V7) (fun x10 V9 =>
                      if x10 = 0 then
                        ci (Yf d 190 [xr 14 0, xi (-14)] V9) (fun x12 V11 =>
                          some (xi x12, V11))
                      else
                        if 0 ≤ w32 ((w32 (12 * a)) + b) ∧ w32 ((w32 (12 * a)) + b) < 288 then
                          if 0 ≤ b ∧ b < 12 then
                            cl (Yf d 199 [xi (V9 69 0 (b.toNat)), xl c] (xu V9 71 0 ((w32 ((w32 (12 * a)) + b)).toNat) 1)) (fun x14 V13 =>
                              if 0 ≤ w32 ((w32 (12 * a)) + b) ∧ w32 ((w32 (12 * a)) + b) < 288 then
                                some (xi 1, (xu V13 72 0 ((w32 ((w32 (12 * a)) + b)).toNat) x14))
                              else
                                none)
                          else
                            none
                        else
                          none))
              else
                none
            else
              some (xi (-1), V5)))) := Xc_es [] P_X12_usual 4 _ V
set_option maxRecDepth 100000 in
theorem s_X12_isThing (d : Nat) (V : XM) (a : Int) : Yf (d + 1) 203 [xr 14 0, xl a] V =
    ci (Yf d 189 [xl a, xl 0, xl (w64 ((V 14 0 9) - 1))] V) (fun x2 V1 =>
    if x2 = 0 ∨ x2 = 1 then
      some (xi x2, V1)
    else
      none) := Xc_es [] P_X12_isThing 1 _ V
set_option maxRecDepth 100000 in
theorem s_X12_base (d : Nat) (V : XM) (a : Int) : Yf (d + 1) 204 [xr 14 0, xi a] V =
    if 0 ≤ a ∧ a < 64 then
    ci (Yf d 195 [xr 14 0, xi (V 73 0 (a.toNat))] V) (fun x2 V1 =>
      some (xi x2, V1))
  else
    none := Xc_es [] P_X12_base 1 _ V
set_option maxRecDepth 100000 in
theorem s_X12_isCarrier (d : Nat) (V : XM) (a : Int) : Yf (d + 1) 205 [xr 14 0, xi a] V =
    ci (Yf d 204 [xr 14 0, xi a] V) (fun x2 V1 =>
    if x2 = 4 then
      some (xi 1, V1)
    else
      ci (Yf d 204 [xr 14 0, xi a] V1) (fun x4 V3 =>
        if x4 = 5 then
          some (xi 1, V3)
        else
          some (xi 0, V3))) := Xc_es [] P_X12_isCarrier 3 _ V
set_option maxRecDepth 100000 in
theorem s_X12_isHolder (d : Nat) (V : XM) (a : Int) : Yf (d + 1) 206 [xr 14 0, xi a] V =
    ci (Yf d 204 [xr 14 0, xi a] V) (fun x2 V1 =>
    if x2 = 1 then
      some (xi 1, V1)
    else
      ci (Yf d 205 [xr 14 0, xi a] V1) (fun x4 V3 =>
        if x4 = 0 then
          some (xi 0, V3)
        else
          some (xi 1, V3))) := Xc_es [] P_X12_isHolder 3 _ V
set_option maxRecDepth 100000 in
theorem s_X12_isFixed (d : Nat) (V : XM) (a : Int) : Yf (d + 1) 207 [xr 14 0, xi a] V =
    ci (Yf d 204 [xr 14 0, xi a] V) (fun x2 V1 =>
    if x2 = 1 then
      some (xi 1, V1)
    else
      ci (Yf d 204 [xr 14 0, xi a] V1) (fun x4 V3 =>
        if x4 = 2 then
          some (xi 1, V3)
        else
          some (xi 0, V3))) := Xc_es [] P_X12_isFixed 3 _ V
set_option maxRecDepth 100000 in
theorem s_X12_isBackdrop (d : Nat) (V : XM) (a : Int) : Yf (d + 1) 208 [xr 14 0, xi a] V =
    ci (Yf d 204 [xr 14 0, xi a] V) (fun x2 V1 =>
    if x2 = 3 then
      some (xi 1, V1)
    else
      some (xi 0, V1)) := Xc_es [] P_X12_isBackdrop 3 _ V
set_option maxRecDepth 100000 in
theorem s_X12_thing (d : Nat) (V : XM) (a : Int) (b : Int) : Yf (d + 1) 209 [xr 14 0, xi a, xi b] V =
    ci (Yf d 192 [xr 14 0, xi a] V) (fun x2 V1 =>
    if x2 = 0 then
      some (xi (-1), V1)
    else
      ci (Yf d 189 [xl b, xl 0, xl 1000] V1) (fun x4 V3 =>
        if x4 = 0 then
          some (xi (-2), V3)
        else
          if (V3 14 0 9) = 64 then
            some (xi (-4), V3)
          else
            if 0 ≤ V3 14 0 9 ∧ V3 14 0 9 < 64 then
              if 0 ≤ V3 14 0 9 ∧ V3 14 0 9 < 64 then
                if 0 ≤ V3 14 0 9 ∧ V3 14 0 9 < 64 then
                  if 0 ≤ V3 14 0 9 ∧ V3 14 0 9 < 64 then
                    if 0 ≤ V3 14 0 9 ∧ V3 14 0 9 < 64 then
                      if 0 ≤ V3 14 0 9 ∧ V3 14 0 9 < 64 then
                        if 0 ≤ V3 14 0 9 ∧ V3 14 0 9 < 64 then
                          if 0 ≤ V3 14 0 9 ∧ V3 14 0 9 < 64 then
                            some (xi (V3 14 0 9), (xu (xu (xu (xu (xu (xu (xu (xu (xu V3 14 0 9 (w32 ((V3 14 0 9) + 1))) 73 0 ((V3 14 0 9).toNat) a) 74 0 ((V3 14 0 9).toNat) b) 75 0 ((V3 14 0 9).toNat) b) 76 0 ((V3 14 0 9).toNat) b) 77 0 ((V3 14 0 9).toNat) 0) 80 0 ((V3 14 0 9).toNat) 0) 81 0 ((V3 14 0 9).toNat) 0) 82 0 ((V3 14 0 9).toNat) (-9)))
                          else
                            none
                        else
                          none
                      else
                        none
                    else
                      none
                  else
                    none
                else
                  none
              else
                none
            else
              none)) := Xc_es [] P_X12_thing 4 _ V
set_option maxRecDepth 100000 in
theorem s_X12_tell (d : Nat) (V : XM) (a : Int) (b : Int) (c : Int) (e : Int) : Yf (d + 1) 210 [xr 14 0, xi a, xi b, xi c, xi e] V =
    if 0 ≤ V 14 0 22 ∧ V 14 0 22 < 300 then
    if 0 ≤ V 14 0 22 ∧ V 14 0 22 < 300 then
      if 0 ≤ V 14 0 22 ∧ V 14 0 22 < 300 then
        if 0 ≤ V 14 0 22 ∧ V 14 0 22 < 300 then
          some (xi (w32 ((w32 ((V 14 0 22) + 1)) - 1)), (xu (xu (xu (xu (xu V 85 0 ((V 14 0 22).toNat) a) 86 0 ((V 14 0 22).toNat) b) 87 0 ((V 14 0 22).toNat) c) 88 0 ((V 14 0 22).toNat) e) 14 0 22 (w32 ((V 14 0 22) + 1))))
        else
          none
      else
        none
    else
      none
  else
    none := Xc_es [] P_X12_tell 1 _ V
set_option maxRecDepth 100000 in
theorem s_X12_against (d : Nat) (V : XM) (a : Int) : Yf (d + 1) 211 [xi a] V =
    some (xi (w32 ((-100) - a)), V) := Xc_es [] P_X12_against 1 _ V
set_option maxRecDepth 100000 in
theorem s_X12_first (d : Nat) (V : XM) (a : Int) (b : Int) (c : Int) : Yf (d + 1) 212 [xr 14 0, xi a, xi b, xi c] V =
    Xf d 212 3 [xr 14 0, xi a, xi b, xi c, xi 0] [] V := Xc_es [3] P_X12_first 1 _ V
set_option maxRecDepth 100000 in
theorem s_X12_first_3 (d : Nat) (V : XM) (l1 : Int) (l2 : Int) (l3 : Int) (l4 : Int) : Xf d 212 3 [xr 14 0, xi l1, xi l2, xi l3, xi l4] [] V =
    if l4 < (V 14 0 22) then
    if 0 ≤ l4 ∧ l4 < 300 then
      if (V 85 0 (l4.toNat)) = l1 then
        if 0 ≤ l4 ∧ l4 < 300 then
          if (V 86 0 (l4.toNat)) = l2 then
            if 0 ≤ l4 ∧ l4 < 300 then
              if (V 87 0 (l4.toNat)) = l3 then
                some (xi l4, V)
              else
                Xf d 212 3 [xr 14 0, xi l1, xi l2, xi l3, xi (w32 (l4 + 1))] [] V
            else
              none
          else
            Xf d 212 3 [xr 14 0, xi l1, xi l2, xi l3, xi (w32 (l4 + 1))] [] V
        else
          none
      else
        Xf d 212 3 [xr 14 0, xi l1, xi l2, xi l3, xi (w32 (l4 + 1))] [] V
    else
      none
  else
    some (xi (-9), V) := Xx_es [3] P_X12_first 2 _ _ _ V
set_option maxRecDepth 100000 in
theorem s_X12_latestAmong (d : Nat) (V : XM) (a : Int) : Yf (d + 1) 213 [xr 14 0, xi a] V =
    Xf d 213 5 [xr 14 0, xi a, xi (-9), xi 0] [] V := Xc_es [5] P_X12_latestAmong 1 _ V
set_option maxRecDepth 100000 in
theorem s_X12_latestAmong_5 (d : Nat) (V : XM) (l1 : Int) (l2 : Int) (l3 : Int) : Xf d 213 5 [xr 14 0, xi l1, xi l2, xi l3] [] V =
    if l3 < (V 14 0 22) then
    if 0 ≤ l3 ∧ l3 < 300 then
      if (V 85 0 (l3.toNat)) = 3 then
        if 0 ≤ l3 ∧ l3 < 300 then
          if (V 86 0 (l3.toNat)) = l1 then
            Xf d 213 5 [xr 14 0, xi l1, xi l3, xi (w32 (l3 + 1))] [] V
          else
            Xf d 213 5 [xr 14 0, xi l1, xi l2, xi (w32 (l3 + 1))] [] V
        else
          none
      else
        Xf d 213 5 [xr 14 0, xi l1, xi l2, xi (w32 (l3 + 1))] [] V
    else
      none
  else
    some (xi l2, V) := Xx_es [5] P_X12_latestAmong 3 _ _ _ V
set_option maxRecDepth 100000 in
theorem s_X12_isWithin (d : Nat) (V : XM) (a : Int) (b : Int) : Yf (d + 1) 214 [xr 14 0, xi a, xi b] V =
    Xf d 214 2 [xr 14 0, xr 0 0, xi b, xi a] [] V := Xc_es [2] P_X12_isWithin 1 _ V
set_option maxRecDepth 100000 in
theorem s_X12_isWithin_2 (d : Nat) (V : XM) (l2 : Int) (l3 : Int) : Xf d 214 2 [xr 14 0, xr 0 0, xi l2, xi l3] [] V =
    if l3 = l2 then
    if l3 = l2 then
      some (xi 1, V)
    else
      some (xi 0, V)
  else
    if 0 ≤ l3 ∧ l3 < 64 then
      if 0 < (V 80 0 (l3.toNat)) then
        if 0 ≤ w32 (6 * l3) ∧ w32 (6 * l3) < 384 then
          Xf d 214 2 [xr 14 0, xr 0 0, xi l2, xi (V 78 0 ((w32 (6 * l3)).toNat))] [] V
        else
          none
      else
        if l3 = l2 then
          some (xi 1, V)
        else
          some (xi 0, V)
    else
      none := Xx_es [2] P_X12_isWithin 4 _ _ _ V
set_option maxRecDepth 100000 in
theorem s_X12_placeOf (d : Nat) (V : XM) (a : Int) : Yf (d + 1) 215 [xr 14 0, xi a] V =
    if 0 ≤ a ∧ a < 64 then
    if (V 80 0 (a.toNat)) = 0 then
      some (xi (-9), V)
    else
      if 0 ≤ w32 (6 * a) ∧ w32 (6 * a) < 384 then
        some (xi (V 78 0 ((w32 (6 * a)).toNat)), V)
      else
        none
  else
    none := Xc_es [] P_X12_placeOf 3 _ V
set_option maxRecDepth 100000 in
theorem s_X12_nth (d : Nat) (V : XM) (a : Int) (b : Int) : Yf (d + 1) 216 [xr 14 0, xi a, xi b] V =
    Xf d 216 2 [xr 14 0, xi a, xi b, xi 0] [] V := Xc_es [2] P_X12_nth 1 _ V
set_option maxRecDepth 100000 in
theorem s_X12_nth_2 (d : Nat) (V : XM) (l1 : Int) (l2 : Int) (l3 : Int) : Xf d 216 2 [xr 14 0, xi l1, xi l2, xi l3] [] V =
    if 0 ≤ l1 ∧ l1 < 64 then
    if l3 < (V 80 0 (l1.toNat)) then
      if 0 ≤ w32 ((w32 (6 * l1)) + l3) ∧ w32 ((w32 (6 * l1)) + l3) < 384 then
        if (V 78 0 ((w32 ((w32 (6 * l1)) + l3)).toNat)) = l2 then
          some (xi l3, V)
        else
          Xf d 216 2 [xr 14 0, xi l1, xi l2, xi (w32 (l3 + 1))] [] V
      else
        none
    else
      some (xi (-9), V)
  else
    none := Xx_es [2] P_X12_nth 2 _ _ _ V
set_option maxRecDepth 100000 in
theorem s_X12_held (d : Nat) (V : XM) (a : Int) : Yf (d + 1) 217 [xr 14 0, xi a] V =
    Xf d 217 4 [xr 14 0, xi a, xi 0, xi 0] [] V := Xc_es [4] P_X12_held 1 _ V
set_option maxRecDepth 100000 in
theorem s_X12_held_4 (d : Nat) (V : XM) (l1 : Int) (l2 : Int) (l3 : Int) : Xf d 217 4 [xr 14 0, xi l1, xi l2, xi l3] [] V =
    if l3 < (V 14 0 9) then
    ci (Yf d 208 [xr 14 0, xi l3] V) (fun x2 V1 =>
      if x2 = 0 then
        ci (Yf d 215 [xr 14 0, xi l3] V1) (fun x4 V3 =>
          if x4 = l1 then
            Xf d 217 4 [xr 14 0, xi l1, xi (w32 (l2 + 1)), xi (w32 (l3 + 1))] [] V3
          else
            Xf d 217 4 [xr 14 0, xi l1, xi (w32 (l2 + 0)), xi (w32 (l3 + 1))] [] V3)
      else
        Xf d 217 4 [xr 14 0, xi l1, xi (w32 (l2 + 0)), xi (w32 (l3 + 1))] [] V1)
  else
    some (xi l2, V) := Xx_es [4] P_X12_held 3 _ _ _ V
set_option maxRecDepth 100000 in
theorem s_X12_pairAgainst (d : Nat) (V : XM) (a : Int) (b : Int) : Yf (d + 1) 218 [xr 14 0, xi a, xi b] V =
    Xf d 218 2 [xr 14 0, xi a, xi b, xi 0, xr 0 0, xr 0 0] [] V := Xc_es [2] P_X12_pairAgainst 1 _ V
set_option maxRecDepth 100000 in
theorem s_X12_pairAgainst_2 (d : Nat) (V : XM) (l1 : Int) (l2 : Int) (l3 : Int) : Xf d 218 2 [xr 14 0, xi l1, xi l2, xi l3, xr 0 0, xr 0 0] [] V =
    if l3 < (V 14 0 22) then
    if 0 ≤ l3 ∧ l3 < 300 then
      if (V 85 0 (l3.toNat)) = 4 then
        if 0 ≤ l3 ∧ l3 < 300 then
          if (V 86 0 (l3.toNat)) = l1 then
            if 0 ≤ l3 ∧ l3 < 300 then
              if (V 86 0 (l3.toNat)) = l1 then
                if 0 ≤ l3 ∧ l3 < 300 then
                  ci (Yf d 215 [xr 14 0, xi (V 87 0 (l3.toNat))] V) (fun x2 V1 =>
                    if x2 = (-9) then
                      Xf d 218 2 [xr 14 0, xi l1, xi l2, xi (w32 (l3 + 1)), xr 0 0, xr 0 0] [] V1
                    else
                      if x2 = l2 then
                        if 0 ≤ l3 ∧ l3 < 300 then
                          if (V1 88 0 (l3.toNat)) = 1 then
                            Xf d 218 2 [xr 14 0, xi l1, xi l2, xi (w32 (l3 + 1)), xr 0 0, xr 0 0] [] V1
                          else
                            some (xi l3, V1)
                        else
                          none
                      else
                        if 0 ≤ l3 ∧ l3 < 300 then
                          if (V1 88 0 (l3.toNat)) = 1 then
                            some (xi l3, V1)
                          else
                            Xf d 218 2 [xr 14 0, xi l1, xi l2, xi (w32 (l3 + 1)), xr 0 0, xr 0 0] [] V1
                        else
                          none)
                else
                  none
              else
                if 0 ≤ l3 ∧ l3 < 300 then
                  ci (Yf d 215 [xr 14 0, xi (V 86 0 (l3.toNat))] V) (fun x4 V3 =>
                    if x4 = (-9) then
                      Xf d 218 2 [xr 14 0, xi l1, xi l2, xi (w32 (l3 + 1)), xr 0 0, xr 0 0] [] V3
                    else
                      if x4 = l2 then
                        if 0 ≤ l3 ∧ l3 < 300 then
                          if (V3 88 0 (l3.toNat)) = 1 then
                            Xf d 218 2 [xr 14 0, xi l1, xi l2, xi (w32 (l3 + 1)), xr 0 0, xr 0 0] [] V3
                          else
                            some (xi l3, V3)
                        else
                          none
                      else
                        if 0 ≤ l3 ∧ l3 < 300 then
                          if (V3 88 0 (l3.toNat)) = 1 then
                            some (xi l3, V3)
                          else
                            Xf d 218 2 [xr 14 0, xi l1, xi l2, xi (w32 (l3 + 1)), xr 0 0, xr 0 0] [] V3
                        else
                          none)
                else
                  none
            else
              none
          else
            if 0 ≤ l3 ∧ l3 < 300 then
              if (V 87 0 (l3.toNat)) = l1 then
                if 0 ≤ l3 ∧ l3 < 300 then
                  if (V 86 0 (l3.toNat)) = l1 then
                    if 0 ≤ l3 ∧ l3 < 300 then
                      ci (Yf d 215 [xr 14 0, xi (V 87 0 (l3.toNat))] V) (fun x6 V5 =>
                        if x6 = (-9) then
                          Xf d 218 2 [xr 14 0, xi l1, xi l2, xi (w32 (l3 + 1)), xr 0 0, xr 0 0] [] V5
                        else
                          if x6 = l2 then
                            if 0 ≤ l3 ∧ l3 < 300 then
                              if (V5 88 0 (l3.toNat)) = 1 then
                                Xf d 218 2 [xr 14 0, xi l1, xi l2, xi (w32 (l3 + 1)), xr 0 0, xr 0 0] [] V5
                              else
                                some (xi l3, V5)
                            else
                              none
                          else
                            if 0 ≤ l3 ∧ l3 < 300 then
                              if (V5 88 0 (l3.toNat)) = 1 then
                                some (xi l3, V5)
                              else
                                Xf d 218 2 [xr 14 0, xi l1, xi l2, xi (w32 (l3 + 1)), xr 0 0, xr 0 0] [] V5
                            else
                              none)
                    else
                      none
                  else
                    if 0 ≤ l3 ∧ l3 < 300 then
                      ci (Yf d 215 [xr 14 0, xi (V 86 0 (l3.toNat))] V) (fun x8 V7 =>
                        if x8 = (-9) then
                          Xf d 218 2 [xr 14 0, xi l1, xi l2, xi (w32 (l3 + 1)), xr 0 0, xr 0 0] [] V7
                        else
                          if x8 = l2 then
                            if 0 ≤ l3 ∧ l3 < 300 then
                              if (V7 88 0 (l3.toNat)) = 1 then
                                Xf d 218 2 [xr 14 0, xi l1, xi l2, xi (w32 (l3 + 1)), xr 0 0, xr 0 0] [] V7
                              else
                                some (xi l3, V7)
                            else
                              none
                          else
                            if 0 ≤ l3 ∧ l3 < 300 then
                              if (V7 88 0 (l3.toNat)) = 1 then
                                some (xi l3, V7)
                              else
                                Xf d 218 2 [xr 14 0, xi l1, xi l2, xi (w32 (l3 + 1)), xr 0 0, xr 0 0] [] V7
                            else
                              none)
                    else
                      none
                else
                  none
              else
                Xf d 218 2 [xr 14 0, xi l1, xi l2, xi (w32 (l3 + 1)), xr 0 0, xr 0 0] [] V
            else
              none
        else
          none
      else
        Xf d 218 2 [xr 14 0, xi l1, xi l2, xi (w32 (l3 + 1)), xr 0 0, xr 0 0] [] V
    else
      none
  else
    some (xi (-9), V) := Xx_es [2] P_X12_pairAgainst 9 _ _ _ V
set_option maxRecDepth 100000 in
theorem s_X12_putAgainst (d : Nat) (V : XM) (a : Int) (b : Int) : Yf (d + 1) 219 [xr 14 0, xi a, xi b] V =
    ci (Yf d 208 [xr 14 0, xi a] V) (fun x2 V1 =>
    if x2 = 0 then
      if 0 ≤ a ∧ a < 64 then
        if 0 < (V1 80 0 (a.toNat)) then
          if 0 ≤ w32 (6 * a) ∧ w32 (6 * a) < 384 then
            some (xi (V1 79 0 ((w32 (6 * a)).toNat)), V1)
          else
            none
        else
          ci (Yf d 212 [xr 14 0, xi 1, xi a, xi b] V1) (fun x4 V3 =>
            if x4 = (-9) then
              if 0 ≤ a ∧ a < 64 then
                if (cmp3 (V3 81 0 (a.toNat)) 0) = 0 then
                  if x2 = 0 then
                    if 0 ≤ b ∧ b < 64 then
                      if (V3 82 0 (b.toNat)) = (-9) then
                        ci (Yf d 218 [xr 14 0, xi a, xi b] V3) (fun x6 V5 =>
                          some (xi x6, V5))
                      else
                        ci (Yf d 217 [xr 14 0, xi b] V3) (fun x8 V7 =>
                          if 0 ≤ b ∧ b < 64 then
                            if 0 ≤ V7 82 0 (b.toNat) ∧ V7 82 0 (b.toNat) < 300 then
                              if x8 < (V7 87 0 ((V7 82 0 (b.toNat)).toNat)) then
                                ci (Yf d 218 [xr 14 0, xi a, xi b] V7) (fun x10 V9 =>
                                  some (xi x10, V9))
                              else
                                if 0 ≤ b ∧ b < 64 then
                                  some (xi (V7 82 0 (b.toNat)), V7)
                                else
                                  none
                            else
                              none
                          else
                            none)
                    else
                      none
                  else
                    ci (Yf d 218 [xr 14 0, xi a, xi b] V3) (fun x12 V11 =>
                      some (xi x12, V11))
                else
                  if 0 ≤ a ∧ a < 64 then
                    if (cmp3 (lAnd (lUshr (V3 81 0 (a.toNat)) b) 1) 0) = 0 then
                      ci (Yf d 213 [xr 14 0, xi a] V3) (fun x14 V13 =>
                        some (xi x14, V13))
                    else
                      if x2 = 0 then
                        if 0 ≤ b ∧ b < 64 then
                          if (V3 82 0 (b.toNat)) = (-9) then
                            ci (Yf d 218 [xr 14 0, xi a, xi b] V3) (fun x16 V15 =>
                              some (xi x16, V15))
                          else
                            ci (Yf d 217 [xr 14 0, xi b] V3) (fun x18 V17 =>
                              if 0 ≤ b ∧ b < 64 then
                                if 0 ≤ V17 82 0 (b.toNat) ∧ V17 82 0 (b.toNat) < 300 then
                                  if x18 < (V17 87 0 ((V17 82 0 (b.toNat)).toNat)) then
                                    ci (Yf d 218 [xr 14 0, xi a, xi b] V17) (fun x20 V19 =>
                                      some (xi x20, V19))
                                  else
                                    if 0 ≤ b ∧ b < 64 then
                                      some (xi (V17 82 0 (b.toNat)), V17)
                                    else
                                      none
                                else
                                  none
                              else
                                none)
                        else
                          none
                      else
                        ci (Yf d 218 [xr 14 0, xi a, xi b] V3) (fun x22 V21 =>
                          some (xi x22, V21))
                  else
                    none
              else
                none
            else
              some (xi x4, V3))
      else
        none
    else
      ci (Yf d 212 [xr 14 0, xi 1, xi a, xi b] V1) (fun x24 V23 =>
        if x24 = (-9) then
          if 0 ≤ a ∧ a < 64 then
            if (cmp3 (V23 81 0 (a.toNat)) 0) = 0 then
              if x2 = 0 then
                if 0 ≤ b ∧ b < 64 then
                  if (V23 82 0 (b.toNat)) = (-9) then
                    ci (Yf d 218 [xr 14 0, xi a, xi b] V23) (fun x26 V25 =>
                      some (xi x26, V25))
                  else
                    ci (Yf d 217 [xr 14 0, xi b] V23) (fun x28 V27 =>
                      if 0 ≤ b ∧ b < 64 then
                        if 0 ≤ V27 82 0 (b.toNat) ∧ V27 82 0 (b.toNat) < 300 then
                          if x28 < (V27 87 0 ((V27 82 0 (b.toNat)).toNat)) then
                            ci (Yf d 218 [xr 14 0, xi a, xi b] V27) (fun x30 V29 =>
                              some (xi x30, V29))
                          else
                            if 0 ≤ b ∧ b < 64 then
                              some (xi (V27 82 0 (b.toNat)), V27)
                            else
                              none
                        else
                          none
                      else
                        none)
                else
                  none
              else
                ci (Yf d 218 [xr 14 0, xi a, xi b] V23) (fun x32 V31 =>
                  some (xi x32, V31))
            else
              if 0 ≤ a ∧ a < 64 then
                if (cmp3 (lAnd (lUshr (V23 81 0 (a.toNat)) b) 1) 0) = 0 then
                  ci (Yf d 213 [xr 14 0, xi a] V23) (fun x34 V33 =>
                    some (xi x34, V33))
                else
                  if x2 = 0 then
                    if 0 ≤ b ∧ b < 64 then
                      if (V23 82 0 (b.toNat)) = (-9) then
                        ci (Yf d 218 [xr 14 0, xi a, xi b] V23) (fun x36 V35 =>
                          some (xi x36, V35))
                      else
                        ci (Yf d 217 [xr 14 0, xi b] V23) (fun x38 V37 =>
                          if 0 ≤ b ∧ b < 64 then
                            if 0 ≤ V37 82 0 (b.toNat) ∧ V37 82 0 (b.toNat) < 300 then
                              if x38 < (V37 87 0 ((V37 82 0 (b.toNat)).toNat)) then
                                ci (Yf d 218 [xr 14 0, xi a, xi b] V37) (fun x40 V39 =>
                                  some (xi x40, V39))
                              else
                                if 0 ≤ b ∧ b < 64 then
                                  some (xi (V37 82 0 (b.toNat)), V37)
                                else
                                  none
                            else
                              none
                          else
                            none)
                    else
                      none
                  else
                    ci (Yf d 218 [xr 14 0, xi a, xi b] V23) (fun x42 V41 =>
                      some (xi x42, V41))
              else
                none
          else
            none
        else
          some (xi x24, V23))) := Xc_es [] P_X12_putAgainst 5 _ V
set_option maxRecDepth 100000 in
theorem s_X12_lies (d : Nat) (V : XM) (a : Int) (b : Int) : Yf (d + 1) 220 [xr 14 0, xi a, xi b] V =
    ci (Yf d 210 [xr 14 0, xi 0, xi a, xi b, xi 0] V) (fun x2 V1 =>
    if 0 ≤ a ∧ a < 64 then
      if 0 ≤ w32 ((w32 (6 * a)) + (V1 80 0 (a.toNat))) ∧ w32 ((w32 (6 * a)) + (V1 80 0 (a.toNat))) < 384 then
        if 0 ≤ a ∧ a < 64 then
          if 0 ≤ w32 ((w32 (6 * a)) + (V1 80 0 (a.toNat))) ∧ w32 ((w32 (6 * a)) + (V1 80 0 (a.toNat))) < 384 then
            if 0 ≤ a ∧ a < 64 then
              if 0 ≤ a ∧ a < 64 then
                some (xi x2, (xu (xu (xu V1 78 0 ((w32 ((w32 (6 * a)) + (V1 80 0 (a.toNat)))).toNat) b) 79 0 ((w32 ((w32 (6 * a)) + (V1 80 0 (a.toNat)))).toNat) x2) 80 0 (a.toNat) (w32 ((V1 80 0 (a.toNat)) + 1))))
              else
                none
            else
              none
          else
            none
        else
          none
      else
        none
    else
      none) := Xc_es [] P_X12_lies 1 _ V
set_option maxRecDepth 100000 in
theorem s_X12_put (d : Nat) (V : XM) (a : Int) (b : Int) : Yf (d + 1) 221 [xr 14 0, xi a, xi b] V =
    ci (Yf d 203 [xr 14 0, xl a] V) (fun x2 V1 =>
    if x2 = 0 then
      some (xi (-1), V1)
    else
      ci (Yf d 203 [xr 14 0, xl b] V1) (fun x4 V3 =>
        if x4 = 0 then
          some (xi (-1), V3)
        else
          ci (Yf d 208 [xr 14 0, xi a] V3) (fun x6 V5 =>
            if x6 = 0 then
              ci (Yf d 206 [xr 14 0, xi b] V5) (fun x8 V7 =>
                ci (Yf d 207 [xr 14 0, xi a] V7) (fun x10 V9 =>
                  if x10 = 0 then
                    if x8 = 0 then
                      some (xi (-3), V9)
                    else
                      ci (Yf d 214 [xr 14 0, xi b, xi a] V9) (fun x12 V11 =>
                        if x12 = 0 then
                          ci (Yf d 216 [xr 14 0, xi a, xi b] V11) (fun x14 V13 =>
                            if x14 = (-9) then
                              if (V13 14 0 22) = 300 then
                                some (xi (-4), V13)
                              else
                                ci (Yf d 208 [xr 14 0, xi a] V13) (fun x16 V15 =>
                                  if x16 = 0 then
                                    ci (Yf d 219 [xr 14 0, xi a, xi b] V15) (fun x18 V17 =>
                                      if x18 = (-9) then
                                        ci (Yf d 220 [xr 14 0, xi a, xi b] V17) (fun x20 V19 =>
                                          some (xi x20, V19))
                                      else
                                        ci (Yf d 211 [xi x18] V17) (fun x22 V21 =>
                                          some (xi x22, V21)))
                                  else
                                    if 0 ≤ a ∧ a < 64 then
                                      if (V15 80 0 (a.toNat)) = 6 then
                                        some (xi (-4), V15)
                                      else
                                        ci (Yf d 219 [xr 14 0, xi a, xi b] V15) (fun x24 V23 =>
                                          if x24 = (-9) then
                                            ci (Yf d 220 [xr 14 0, xi a, xi b] V23) (fun x26 V25 =>
                                              some (xi x26, V25))
                                          else
                                            ci (Yf d 211 [xi x24] V23) (fun x28 V27 =>
                                              some (xi x28, V27)))
                                    else
                                      none)
                            else
                              some (xi (-3), V13))
                        else
                          some (xi (-3), V11))
                  else
                    some (xi (-3), V9)))
            else
              ci (Yf d 204 [xr 14 0, xi b] V5) (fun x30 V29 =>
                if x30 = 1 then
                  ci (Yf d 207 [xr 14 0, xi a] V29) (fun x32 V31 =>
                    if x32 = 0 then
                      ci (Yf d 214 [xr 14 0, xi b, xi a] V31) (fun x34 V33 =>
                        if x34 = 0 then
                          ci (Yf d 216 [xr 14 0, xi a, xi b] V33) (fun x36 V35 =>
                            if x36 = (-9) then
                              if (V35 14 0 22) = 300 then
                                some (xi (-4), V35)
                              else
                                ci (Yf d 208 [xr 14 0, xi a] V35) (fun x38 V37 =>
                                  if x38 = 0 then
                                    ci (Yf d 219 [xr 14 0, xi a, xi b] V37) (fun x40 V39 =>
                                      if x40 = (-9) then
                                        ci (Yf d 220 [xr 14 0, xi a, xi b] V39) (fun x42 V41 =>
                                          some (xi x42, V41))
                                      else
                                        ci (Yf d 211 [xi x40] V39) (fun x44 V43 =>
                                          some (xi x44, V43)))
                                  else
                                    if 0 ≤ a ∧ a < 64 then
                                      if (V37 80 0 (a.toNat)) = 6 then
                                        some (xi (-4), V37)
                                      else
                                        ci (Yf d 219 [xr 14 0, xi a, xi b] V37) (fun x46 V45 =>
                                          if x46 = (-9) then
                                            ci (Yf d 220 [xr 14 0, xi a, xi b] V45) (fun x48 V47 =>
                                              some (xi x48, V47))
                                          else
                                            ci (Yf d 211 [xi x46] V45) (fun x50 V49 =>
                                              some (xi x50, V49)))
                                    else
                                      none)
                            else
                              some (xi (-3), V35))
                        else
                          some (xi (-3), V33))
                    else
                      some (xi (-3), V31))
                else
                  ci (Yf d 207 [xr 14 0, xi a] V29) (fun x52 V51 =>
                    if x52 = 0 then
                      some (xi (-3), V51)
                    else
                      some (xi (-3), V51)))))) := Xc_es [] P_X12_put 8 _ V
end
section
set_option maxRecDepth 100000 in
theorem s_X12_bar (d : Nat) (V : XM) (a : Int) (b : Int) : Yf (d + 1) 222 [xr 14 0, xi a, xi b] V =
    ci (Yf d 203 [xr 14 0, xl a] V) (fun x2 V1 =>
    if x2 = 0 then
      some (xi (-1), V1)
    else
      ci (Yf d 203 [xr 14 0, xl b] V1) (fun x4 V3 =>
        if x4 = 0 then
          some (xi (-1), V3)
        else
          ci (Yf d 207 [xr 14 0, xi a] V3) (fun x6 V5 =>
            if x6 = 0 then
              ci (Yf d 206 [xr 14 0, xi b] V5) (fun x8 V7 =>
                if x8 = 0 then
                  some (xi (-3), V7)
                else
                  if (V7 14 0 22) = 300 then
                    some (xi (-4), V7)
                  else
                    ci (Yf d 216 [xr 14 0, xi a, xi b] V7) (fun x10 V9 =>
                      if x10 = (-9) then
                        if 0 ≤ a ∧ a < 64 then
                          if 0 ≤ a ∧ a < 64 then
                            if (cmp3 (V9 81 0 (a.toNat)) 0) = 0 then
                              if 0 ≤ a ∧ a < 64 then
                                ci (Yf d 210 [xr 14 0, xi 1, xi a, xi b, xi 0] (xu V9 81 0 (a.toNat) (lAnd (V9 81 0 (a.toNat)) (lXor (lShl 1 b) (-1))))) (fun x12 V11 =>
                                  some (xi x12, V11))
                              else
                                none
                            else
                              if (cmp3 (lAnd (V9 81 0 (a.toNat)) (lXor (lShl 1 b) (-1))) 0) = 0 then
                                ci (Yf d 213 [xr 14 0, xi a] V9) (fun x14 V13 =>
                                  ci (Yf d 211 [xi x14] V13) (fun x16 V15 =>
                                    some (xi x16, V15)))
                              else
                                if 0 ≤ a ∧ a < 64 then
                                  ci (Yf d 210 [xr 14 0, xi 1, xi a, xi b, xi 0] (xu V9 81 0 (a.toNat) (lAnd (V9 81 0 (a.toNat)) (lXor (lShl 1 b) (-1))))) (fun x18 V17 =>
                                    some (xi x18, V17))
                                else
                                  none
                          else
                            none
                        else
                          none
                      else
                        if 0 ≤ w32 ((w32 (6 * a)) + x10) ∧ w32 ((w32 (6 * a)) + x10) < 384 then
                          ci (Yf d 211 [xi (V9 79 0 ((w32 ((w32 (6 * a)) + x10)).toNat))] V9) (fun x20 V19 =>
                            some (xi x20, V19))
                        else
                          none))
            else
              some (xi (-3), V5)))) := Xc_es [] P_X12_bar 6 _ V
set_option maxRecDepth 100000 in
theorem s_X12_give (d : Nat) (V : XM) (a : Int) (b : Int) (c : Int) : Yf (d + 1) 223 [xr 14 0, xi a, xi b, xl c] V =
    ci (Yf d 203 [xr 14 0, xl a] V) (fun x2 V1 =>
    if x2 = 0 then
      some (xi (-1), V1)
    else
      ci (Yf d 193 [xr 14 0, xi b] V1) (fun x4 V3 =>
        if x4 = 0 then
          some (xi (-1), V3)
        else
          ci (Yf d 200 [xr 14 0, xi b, xl c] V3) (fun x6 V5 =>
            if x6 = 0 then
              if 0 ≤ a ∧ a < 64 then
                if 0 ≤ b ∧ b < 12 then
                  ci (Yf d 194 [xr 14 0, xi (V5 73 0 (a.toNat)), xi (V5 68 0 (b.toNat))] V5) (fun x8 V7 =>
                    if x8 = 0 then
                      some (xi (-3), V7)
                    else
                      if (V7 14 0 22) = 300 then
                        some (xi (-4), V7)
                      else
                        ci (Yf d 201 [xr 14 0, xi b, xl c] V7) (fun x10 V9 =>
                          if x10 = 0 then
                            ci (Yf d 190 [xr 14 0, xi (-14)] V9) (fun x12 V11 =>
                              some (xi x12, V11))
                          else
                            if 0 ≤ b ∧ b < 12 then
                              cl (Yf d 199 [xi (V9 69 0 (b.toNat)), xl c] V9) (fun x14 V13 =>
                                if 0 ≤ w32 ((w32 (64 * b)) + a) ∧ w32 ((w32 (64 * b)) + a) < 768 then
                                  if (V13 83 0 ((w32 ((w32 (64 * b)) + a)).toNat)) = (-9) then
                                    if 0 ≤ w32 ((w32 (64 * b)) + a) ∧ w32 ((w32 (64 * b)) + a) < 768 then
                                      ci (Yf d 210 [xr 14 0, xi 2, xi a, xi b, xi 0] (xu V13 84 0 ((w32 ((w32 (64 * b)) + a)).toNat) x14)) (fun x16 V15 =>
                                        if 0 ≤ w32 ((w32 (64 * b)) + a) ∧ w32 ((w32 (64 * b)) + a) < 768 then
                                          if 0 ≤ w32 ((w32 (64 * b)) + a) ∧ w32 ((w32 (64 * b)) + a) < 768 then
                                            some (xi ((xu V15 83 0 ((w32 ((w32 (64 * b)) + a)).toNat) x16) 83 0 ((w32 ((w32 (64 * b)) + a)).toNat)), (xu V15 83 0 ((w32 ((w32 (64 * b)) + a)).toNat) x16))
                                          else
                                            none
                                        else
                                          none)
                                    else
                                      none
                                  else
                                    if 0 ≤ w32 ((w32 (64 * b)) + a) ∧ w32 ((w32 (64 * b)) + a) < 768 then
                                      if (cmp3 (V13 84 0 ((w32 ((w32 (64 * b)) + a)).toNat)) x14) = 0 then
                                        if 0 ≤ w32 ((w32 (64 * b)) + a) ∧ w32 ((w32 (64 * b)) + a) < 768 then
                                          ci (Yf d 210 [xr 14 0, xi 2, xi a, xi b, xi 0] (xu V13 84 0 ((w32 ((w32 (64 * b)) + a)).toNat) x14)) (fun x18 V17 =>
                                            if 0 ≤ w32 ((w32 (64 * b)) + a) ∧ w32 ((w32 (64 * b)) + a) < 768 then
                                              if 0 ≤ w32 ((w32 (64 * b)) + a) ∧ w32 ((w32 (64 * b)) + a) < 768 then
                                                some (xi ((xu V17 83 0 ((w32 ((w32 (64 * b)) + a)).toNat) x18) 83 0 ((w32 ((w32 (64 * b)) + a)).toNat)), (xu V17 83 0 ((w32 ((w32 (64 * b)) + a)).toNat) x18))
                                              else
                                                none
                                            else
                                              none)
                                        else
                                          none
                                      else
                                        if 0 ≤ w32 ((w32 (64 * b)) + a) ∧ w32 ((w32 (64 * b)) + a) < 768 then
                                          ci (Yf d 211 [xi (V13 83 0 ((w32 ((w32 (64 * b)) + a)).toNat))] V13) (fun x20 V19 =>
                                            some (xi x20, V19))
                                        else
                                          none
                                    else
                                      none
                                else
                                  none)
                            else
                              none))
                else
                  none
              else
                none
            else
              some (xi (-1), V5)))) := Xc_es [] P_X12_give 6 _ V
set_option maxRecDepth 100000 in
theorem s_X12_valueOf (d : Nat) (V : XM) (a : Int) (b : Int) : Yf (d + 1) 224 [xr 14 0, xi a, xi b] V =
    if 0 ≤ w32 ((w32 (64 * b)) + a) ∧ w32 ((w32 (64 * b)) + a) < 768 then
    if (V 83 0 ((w32 ((w32 (64 * b)) + a)).toNat)) = (-9) then
      if 0 ≤ a ∧ a < 64 then
        Xf d 224 33 [xr 14 0, xr 0 0, xi b, xr 0 0, xi (V 73 0 (a.toNat))] [] V
      else
        none
    else
      if 0 ≤ w32 ((w32 (64 * b)) + a) ∧ w32 ((w32 (64 * b)) + a) < 768 then
        some (xl (V 84 0 ((w32 ((w32 (64 * b)) + a)).toNat)), V)
      else
        none
  else
    none := Xc_es [33] P_X12_valueOf 2 _ V
set_option maxRecDepth 100000 in
theorem s_X12_valueOf_33 (d : Nat) (V : XM) (l2 : Int) (l4 : Int) : Xf d 224 33 [xr 14 0, xr 0 0, xi l2, xr 0 0, xi l4] [] V =
    if l4 = 0 then
    if 0 ≤ w32 ((w32 (12 * l4)) + l2) ∧ w32 ((w32 (12 * l4)) + l2) < 288 then
      if (V 71 0 ((w32 ((w32 (12 * l4)) + l2)).toNat)) = 0 then
        if 0 ≤ l2 ∧ l2 < 12 then
          if (V 69 0 (l2.toNat)) = 8 then
            some (xl (-9), V)
          else
            some (xl 0, V)
        else
          none
      else
        if 0 ≤ w32 ((w32 (12 * l4)) + l2) ∧ w32 ((w32 (12 * l4)) + l2) < 288 then
          some (xl (V 72 0 ((w32 ((w32 (12 * l4)) + l2)).toNat)), V)
        else
          none
    else
      none
  else
    if 0 ≤ w32 ((w32 (12 * l4)) + l2) ∧ w32 ((w32 (12 * l4)) + l2) < 288 then
      if (V 71 0 ((w32 ((w32 (12 * l4)) + l2)).toNat)) = 0 then
        if 0 ≤ l4 ∧ l4 < 24 then
          Xf d 224 33 [xr 14 0, xr 0 0, xi l2, xr 0 0, xi (V 67 0 (l4.toNat))] [] V
        else
          none
      else
        if 0 ≤ w32 ((w32 (12 * l4)) + l2) ∧ w32 ((w32 (12 * l4)) + l2) < 288 then
          if (V 71 0 ((w32 ((w32 (12 * l4)) + l2)).toNat)) = 0 then
            if 0 ≤ l2 ∧ l2 < 12 then
              if (V 69 0 (l2.toNat)) = 8 then
                some (xl (-9), V)
              else
                some (xl 0, V)
            else
              none
          else
            if 0 ≤ w32 ((w32 (12 * l4)) + l2) ∧ w32 ((w32 (12 * l4)) + l2) < 288 then
              some (xl (V 72 0 ((w32 ((w32 (12 * l4)) + l2)).toNat)), V)
            else
              none
        else
          none
    else
      none := Xx_es [33] P_X12_valueOf 5 _ _ _ V
set_option maxRecDepth 100000 in
theorem s_X12_value (d : Nat) (V : XM) (a : Int) (b : Int) : Yf (d + 1) 225 [xr 14 0, xi a, xi b] V =
    ci (Yf d 203 [xr 14 0, xl a] V) (fun x2 V1 =>
    if x2 = 0 then
      some (xl (-1), V1)
    else
      ci (Yf d 193 [xr 14 0, xi b] V1) (fun x4 V3 =>
        if x4 = 0 then
          some (xl (-1), V3)
        else
          if 0 ≤ a ∧ a < 64 then
            if 0 ≤ b ∧ b < 12 then
              ci (Yf d 194 [xr 14 0, xi (V3 73 0 (a.toNat)), xi (V3 68 0 (b.toNat))] V3) (fun x6 V5 =>
                if x6 = 0 then
                  some (xl (-3), V5)
                else
                  cl (Yf d 224 [xr 14 0, xi a, xi b] V5) (fun x8 V7 =>
                    some (xl x8, V7)))
            else
              none
          else
            none)) := Xc_es [] P_X12_value 4 _ V
set_option maxRecDepth 100000 in
theorem s_X12_given (d : Nat) (V : XM) (a : Int) (b : Int) : Yf (d + 1) 226 [xr 14 0, xi a, xi b] V =
    ci (Yf d 203 [xr 14 0, xl a] V) (fun x2 V1 =>
    if x2 = 0 then
      some (xi (-1), V1)
    else
      ci (Yf d 193 [xr 14 0, xi b] V1) (fun x4 V3 =>
        if x4 = 0 then
          some (xi (-1), V3)
        else
          if 0 ≤ w32 ((w32 (64 * b)) + a) ∧ w32 ((w32 (64 * b)) + a) < 768 then
            some (xi (V3 83 0 ((w32 ((w32 (64 * b)) + a)).toNat)), V3)
          else
            none)) := Xc_es [] P_X12_given 3 _ V
set_option maxRecDepth 100000 in
theorem s_X12_peek (d : Nat) (V : XM) (a : Int) (b : Int) (c : Int) : Yf (d + 1) 227 [xr 14 0, xi a, xi b, xi c] V =
    ci (Yf d 193 [xr 14 0, xi a] V) (fun x2 V1 =>
    if x2 = 0 then
      some (xl (-1), V1)
    else
      ci (Yf d 189 [xl b, xl 0, xl 8] V1) (fun x4 V3 =>
        if x4 = 0 then
          some (xl (-2), V3)
        else
          if 0 ≤ a ∧ a < 12 then
            if (V3 69 0 (a.toNat)) = b then
              ci (Yf d 189 [xl c, xl 0, xl 63] V3) (fun x6 V5 =>
                if x6 = 0 then
                  ci (Yf d 190 [xr 14 0, xi (-12)] V5) (fun x8 V7 =>
                    some (xl x8, V7))
                else
                  if 0 ≤ w32 ((w32 (64 * a)) + c) ∧ w32 ((w32 (64 * a)) + c) < 768 then
                    if (V5 83 0 ((w32 ((w32 (64 * a)) + c)).toNat)) = (-9) then
                      if b = 8 then
                        some (xl (-9), V5)
                      else
                        some (xl 0, V5)
                    else
                      if 0 ≤ w32 ((w32 (64 * a)) + c) ∧ w32 ((w32 (64 * a)) + c) < 768 then
                        some (xl (V5 84 0 ((w32 ((w32 (64 * a)) + c)).toNat)), V5)
                      else
                        none
                  else
                    none)
            else
              ci (Yf d 190 [xr 14 0, xi (-13)] V3) (fun x10 V9 =>
                some (xl x10, V9))
          else
            none)) := Xc_es [] P_X12_peek 8 _ V
set_option maxRecDepth 100000 in
theorem s_X12_place (d : Nat) (V : XM) (a : Int) (b : Int) : Yf (d + 1) 228 [xr 14 0, xi a, xi b] V =
    ci (Yf d 203 [xr 14 0, xl a] V) (fun x2 V1 =>
    if x2 = 0 then
      some (xi (-1), V1)
    else
      if 0 ≤ a ∧ a < 64 then
        ci (Yf d 189 [xl b, xl 0, xl (w32 ((V1 80 0 (a.toNat)) - 1))] V1) (fun x4 V3 =>
          if x4 = 0 then
            some (xi (-9), V3)
          else
            if 0 ≤ w32 ((w32 (6 * a)) + b) ∧ w32 ((w32 (6 * a)) + b) < 384 then
              some (xi (V3 78 0 ((w32 ((w32 (6 * a)) + b)).toNat)), V3)
            else
              none)
      else
        none) := Xc_es [] P_X12_place 4 _ V
set_option maxRecDepth 100000 in
theorem s_X12_loadOf (d : Nat) (V : XM) (a : Int) : Yf (d + 1) 229 [xr 14 0, xi a] V =
    Xf d 229 4 [xr 14 0, xi a, xi 0, xi 0] [] V := Xc_es [4] P_X12_loadOf 1 _ V
set_option maxRecDepth 100000 in
theorem s_X12_loadOf_4 (d : Nat) (V : XM) (l1 : Int) (l2 : Int) (l3 : Int) : Xf d 229 4 [xr 14 0, xi l1, xi l2, xi l3] [] V =
    if l3 < (V 14 0 9) then
    ci (Yf d 208 [xr 14 0, xi l3] V) (fun x2 V1 =>
      if x2 = 0 then
        if 0 ≤ l3 ∧ l3 < 64 then
          if 0 < (V1 80 0 (l3.toNat)) then
            ci (Yf d 215 [xr 14 0, xi l3] V1) (fun x4 V3 =>
              ci (Yf d 214 [xr 14 0, xi x4, xi l1] V3) (fun x6 V5 =>
                if x6 = 0 then
                  Xf d 229 4 [xr 14 0, xi l1, xi l2, xi (w32 (l3 + 1))] [] V5
                else
                  if 0 ≤ l3 ∧ l3 < 64 then
                    ci (Yf d 204 [xr 14 0, xi l3] V5) (fun x8 V7 =>
                      if x8 = 5 then
                        Xf d 229 4 [xr 14 0, xi l1, xi (w32 (l2 + (w32 ((V5 74 0 (l3.toNat)) + 10)))), xi (w32 (l3 + 1))] [] V7
                      else
                        Xf d 229 4 [xr 14 0, xi l1, xi (w32 (l2 + (w32 ((V5 74 0 (l3.toNat)) + 0)))), xi (w32 (l3 + 1))] [] V7)
                  else
                    none))
          else
            Xf d 229 4 [xr 14 0, xi l1, xi l2, xi (w32 (l3 + 1))] [] V1
        else
          none
      else
        Xf d 229 4 [xr 14 0, xi l1, xi l2, xi (w32 (l3 + 1))] [] V1)
  else
    some (xi l2, V) := Xx_es [4] P_X12_loadOf 4 _ _ _ V
set_option maxRecDepth 100000 in
theorem s_X12_bulkOf (d : Nat) (V : XM) (a : Int) : Yf (d + 1) 230 [xr 14 0, xi a] V =
    ci (Yf d 204 [xr 14 0, xi a] V) (fun x2 V1 =>
    if x2 = 1 then
      ci (Yf d 229 [xr 14 0, xi a] V1) (fun x4 V3 =>
        some (xi x4, V3))
    else
      if x2 = 1 + 1 then
        if 0 ≤ a ∧ a < 64 then
          some (xi (w32 (2 * (V1 74 0 (a.toNat)))), V1)
        else
          none
      else
        if x2 = 1 + 1 + 1 then
          some (xi 0, V1)
        else
          if x2 = 1 + 1 + 1 + 1 then
            if 0 ≤ a ∧ a < 64 then
              ci (Yf d 229 [xr 14 0, xi a] V1) (fun x6 V5 =>
                some (xi (w32 ((V1 74 0 (a.toNat)) + x6)), V5))
            else
              none
          else
            if x2 = 1 + 1 + 1 + 1 + 1 then
              if 0 ≤ a ∧ a < 64 then
                ci (Yf d 229 [xr 14 0, xi a] V1) (fun x8 V7 =>
                  some (xi (w32 ((w32 ((V1 74 0 (a.toNat)) + x8)) + 10)), V7))
              else
                none
            else
              if 0 ≤ a ∧ a < 64 then
                some (xi (V1 74 0 (a.toNat)), V1)
              else
                none) := Xc_es [] P_X12_bulkOf 2 _ V
set_option maxRecDepth 100000 in
theorem s_X12_worthOf (d : Nat) (V : XM) (a : Int) : Yf (d + 1) 231 [xr 14 0, xi a] V =
    if 0 ≤ a ∧ a < 64 then
    ci (Yf d 204 [xr 14 0, xi a] V) (fun x2 V1 =>
      if x2 = 1 then
        some (xi (w32 ((w32 ((w32 (3 * (V 74 0 (a.toNat)))) + 1)) + 1000)), V1)
      else
        if x2 = 1 + 1 then
          some (xi (w32 ((w32 ((w32 (3 * (V 74 0 (a.toNat)))) + 1)) + 100)), V1)
        else
          if x2 = 1 + 1 + 1 then
            some (xi (w32 (-(w32 ((w32 (3 * (V 74 0 (a.toNat)))) + 1)))), V1)
          else
            if x2 = 1 + 1 + 1 + 1 then
              some (xi (w32 ((w32 (3 * (V 74 0 (a.toNat)))) + 1)), V1)
            else
              if x2 = 1 + 1 + 1 + 1 + 1 then
                some (xi (w32 (2 * (w32 ((w32 (3 * (V 74 0 (a.toNat)))) + 1)))), V1)
              else
                some (xi (w32 ((w32 (3 * (V 74 0 (a.toNat)))) + 1)), V1))
  else
    none := Xc_es [] P_X12_worthOf 2 _ V
set_option maxRecDepth 100000 in
theorem s_X12_lidOf (d : Nat) (V : XM) (a : Int) : Yf (d + 1) 232 [xr 14 0, xi a] V =
    ci (Yf d 204 [xr 14 0, xi a] V) (fun x2 V1 =>
    if x2 = 2 then
      if 0 ≤ a ∧ a < 64 then
        if 0 ≤ a ∧ a < 64 then
          if (V1 77 0 (a.toNat)) = 0 then
            some (xi (w32 ((w32 (10 * (V1 76 0 (a.toNat)))) + 0)), V1)
          else
            some (xi (w32 ((w32 (10 * (V1 76 0 (a.toNat)))) + 1)), V1)
        else
          none
      else
        none
    else
      if 0 ≤ a ∧ a < 64 then
        if 0 ≤ a ∧ a < 64 then
          if (V1 77 0 (a.toNat)) = 0 then
            some (xi (w32 ((V1 76 0 (a.toNat)) + 0)), V1)
          else
            some (xi (w32 ((V1 76 0 (a.toNat)) + 1000)), V1)
        else
          none
      else
        none) := Xc_es [] P_X12_lidOf 5 _ V
set_option maxRecDepth 100000 in
theorem s_X12_said (d : Nat) (V : XM) (a : Int) (b : Int) : Yf (d + 1) 233 [xr 14 0, xi a, xi b] V =
    if b < 2 then
    if b = 4 then
      ci (Yf d 229 [xr 14 0, xi a] V) (fun x2 V1 =>
        if x2 = 0 then
          ci (Yf d 190 [xr 14 0, xi (-16)] V1) (fun x4 V3 =>
            some (xi x4, V3))
        else
          if x2 = 0 then
            none
          else
            some (xi (w32 (Int.tdiv 1000 x2)), V1))
    else
      if b = 0 then
        ci (Yf d 230 [xr 14 0, xi a] V) (fun x6 V5 =>
          some (xi x6, V5))
      else
        if b = 1 then
          ci (Yf d 231 [xr 14 0, xi a] V) (fun x8 V7 =>
            some (xi x8, V7))
        else
          if b = 2 then
            ci (Yf d 229 [xr 14 0, xi a] V) (fun x10 V9 =>
              some (xi x10, V9))
          else
            ci (Yf d 232 [xr 14 0, xi a] V) (fun x12 V11 =>
              some (xi x12, V11))
  else
    if b = 2 then
      ci (Yf d 206 [xr 14 0, xi a] V) (fun x14 V13 =>
        if x14 = 0 then
          ci (Yf d 190 [xr 14 0, xi (-13)] V13) (fun x16 V15 =>
            some (xi x16, V15))
        else
          if b = 4 then
            ci (Yf d 229 [xr 14 0, xi a] V13) (fun x18 V17 =>
              if x18 = 0 then
                ci (Yf d 190 [xr 14 0, xi (-16)] V17) (fun x20 V19 =>
                  some (xi x20, V19))
              else
                if x18 = 0 then
                  none
                else
                  some (xi (w32 (Int.tdiv 1000 x18)), V17))
          else
            if b = 0 then
              ci (Yf d 230 [xr 14 0, xi a] V13) (fun x22 V21 =>
                some (xi x22, V21))
            else
              if b = 1 then
                ci (Yf d 231 [xr 14 0, xi a] V13) (fun x24 V23 =>
                  some (xi x24, V23))
              else
                if b = 2 then
                  ci (Yf d 229 [xr 14 0, xi a] V13) (fun x26 V25 =>
                    some (xi x26, V25))
                else
                  ci (Yf d 232 [xr 14 0, xi a] V13) (fun x28 V27 =>
                    some (xi x28, V27)))
    else
      if b = 3 then
        ci (Yf d 204 [xr 14 0, xi a] V) (fun x30 V29 =>
          if x30 = 2 then
            if b = 4 then
              ci (Yf d 229 [xr 14 0, xi a] V29) (fun x32 V31 =>
                if x32 = 0 then
                  ci (Yf d 190 [xr 14 0, xi (-16)] V31) (fun x34 V33 =>
                    some (xi x34, V33))
                else
                  if x32 = 0 then
                    none
                  else
                    some (xi (w32 (Int.tdiv 1000 x32)), V31))
            else
              if b = 0 then
                ci (Yf d 230 [xr 14 0, xi a] V29) (fun x36 V35 =>
                  some (xi x36, V35))
              else
                if b = 1 then
                  ci (Yf d 231 [xr 14 0, xi a] V29) (fun x38 V37 =>
                    some (xi x38, V37))
                else
                  if b = 2 then
                    ci (Yf d 229 [xr 14 0, xi a] V29) (fun x40 V39 =>
                      some (xi x40, V39))
                  else
                    ci (Yf d 232 [xr 14 0, xi a] V29) (fun x42 V41 =>
                      some (xi x42, V41))
          else
            ci (Yf d 205 [xr 14 0, xi a] V29) (fun x44 V43 =>
              if x44 = 0 then
                ci (Yf d 190 [xr 14 0, xi (-13)] V43) (fun x46 V45 =>
                  some (xi x46, V45))
              else
                if b = 4 then
                  ci (Yf d 229 [xr 14 0, xi a] V43) (fun x48 V47 =>
                    if x48 = 0 then
                      ci (Yf d 190 [xr 14 0, xi (-16)] V47) (fun x50 V49 =>
                        some (xi x50, V49))
                    else
                      if x48 = 0 then
                        none
                      else
                        some (xi (w32 (Int.tdiv 1000 x48)), V47))
                else
                  if b = 0 then
                    ci (Yf d 230 [xr 14 0, xi a] V43) (fun x52 V51 =>
                      some (xi x52, V51))
                  else
                    if b = 1 then
                      ci (Yf d 231 [xr 14 0, xi a] V43) (fun x54 V53 =>
                        some (xi x54, V53))
                    else
                      if b = 2 then
                        ci (Yf d 229 [xr 14 0, xi a] V43) (fun x56 V55 =>
                          some (xi x56, V55))
                      else
                        ci (Yf d 232 [xr 14 0, xi a] V43) (fun x58 V57 =>
                          some (xi x58, V57))))
      else
        ci (Yf d 204 [xr 14 0, xi a] V) (fun x60 V59 =>
          if x60 = 5 then
            if b = 4 then
              ci (Yf d 229 [xr 14 0, xi a] V59) (fun x62 V61 =>
                if x62 = 0 then
                  ci (Yf d 190 [xr 14 0, xi (-16)] V61) (fun x64 V63 =>
                    some (xi x64, V63))
                else
                  if x62 = 0 then
                    none
                  else
                    some (xi (w32 (Int.tdiv 1000 x62)), V61))
            else
              if b = 0 then
                ci (Yf d 230 [xr 14 0, xi a] V59) (fun x66 V65 =>
                  some (xi x66, V65))
              else
                if b = 1 then
                  ci (Yf d 231 [xr 14 0, xi a] V59) (fun x68 V67 =>
                    some (xi x68, V67))
                else
                  if b = 2 then
                    ci (Yf d 229 [xr 14 0, xi a] V59) (fun x70 V69 =>
                      some (xi x70, V69))
                  else
                    ci (Yf d 232 [xr 14 0, xi a] V59) (fun x72 V71 =>
                      some (xi x72, V71))
          else
            ci (Yf d 190 [xr 14 0, xi (-13)] V59) (fun x74 V73 =>
              some (xi x74, V73))) := Xc_es [] P_X12_said 11 _ V
set_option maxRecDepth 100000 in
theorem s_X12_says (d : Nat) (V : XM) (a : Int) (b : Int) : Yf (d + 1) 234 [xr 14 0, xi a, xi b] V =
    ci (Yf d 203 [xr 14 0, xl a] V) (fun x2 V1 =>
    if x2 = 0 then
      some (xi (-1), V1)
    else
      ci (Yf d 189 [xl b, xl 0, xl 4] V1) (fun x4 V3 =>
        if x4 = 0 then
          some (xi (-2), V3)
        else
          ci (Yf d 233 [xr 14 0, xi a, xi b] V3) (fun x6 V5 =>
            some (xi x6, V5)))) := Xc_es [] P_X12_says 4 _ V
set_option maxRecDepth 100000 in
theorem s_X12_follow (d : Nat) (V : XM) (a : Int) (b : Int) (c : Int) : Yf (d + 1) 235 [xr 14 0, xi a, xi b, xi c] V =
    ci (Yf d 203 [xr 14 0, xl a] V) (fun x2 V1 =>
    if x2 = 0 then
      some (xi (-1), V1)
    else
      ci (Yf d 193 [xr 14 0, xi b] V1) (fun x4 V3 =>
        if x4 = 0 then
          some (xi (-1), V3)
        else
          ci (Yf d 189 [xl c, xl 0, xl 4] V3) (fun x6 V5 =>
            if x6 = 0 then
              some (xi (-2), V5)
            else
              if 0 ≤ a ∧ a < 64 then
                if 0 ≤ b ∧ b < 12 then
                  ci (Yf d 194 [xr 14 0, xi (V5 73 0 (a.toNat)), xi (V5 68 0 (b.toNat))] V5) (fun x8 V7 =>
                    if x8 = 0 then
                      some (xi (-3), V7)
                    else
                      if 0 ≤ b ∧ b < 12 then
                        if (V7 69 0 (b.toNat)) = 8 then
                          cl (Yf d 224 [xr 14 0, xi a, xi b] V7) (fun x10 V9 =>
                            if (cmp3 x10 (-9)) = 0 then
                              ci (Yf d 190 [xr 14 0, xi (-11)] V9) (fun x12 V11 =>
                                some (xi x12, V11))
                            else
                              ci (Yf d 233 [xr 14 0, xi (w32 x10), xi c] V9) (fun x14 V13 =>
                                some (xi x14, V13)))
                        else
                          ci (Yf d 190 [xr 14 0, xi (-13)] V7) (fun x16 V15 =>
                            some (xi x16, V15))
                      else
                        none)
                else
                  none
              else
                none))) := Xc_es [] P_X12_follow 7 _ V
set_option maxRecDepth 100000 in
theorem s_X12_hasOwn (d : Nat) (V : XM) (a : Int) : Yf (d + 1) 236 [xr 14 0, xi a] V =
    ci (Yf d 204 [xr 14 0, xi a] V) (fun x2 V1 =>
    if x2 = 2 then
      some (xi 1, V1)
    else
      ci (Yf d 205 [xr 14 0, xi a] V1) (fun x4 V3 =>
        if x4 = 0 then
          some (xi 0, V3)
        else
          some (xi 1, V3))) := Xc_es [] P_X12_hasOwn 3 _ V
set_option maxRecDepth 100000 in
theorem s_X12_mark (d : Nat) (V : XM) (a : Int) (b : Int) : Yf (d + 1) 237 [xr 14 0, xi a, xi b] V =
    ci (Yf d 203 [xr 14 0, xl a] V) (fun x2 V1 =>
    if x2 = 0 then
      some (xi (-1), V1)
    else
      ci (Yf d 189 [xl b, xl 0, xl 1] V1) (fun x4 V3 =>
        if x4 = 0 then
          some (xi (-2), V3)
        else
          if b = 0 then
            if 0 ≤ a ∧ a < 64 then
              some (xi (V3 75 0 (a.toNat)), V3)
            else
              none
          else
            ci (Yf d 236 [xr 14 0, xi a] V3) (fun x6 V5 =>
              if x6 = 0 then
                ci (Yf d 190 [xr 14 0, xi (-13)] V5) (fun x8 V7 =>
                  some (xi x8, V7))
              else
                if 0 ≤ a ∧ a < 64 then
                  some (xi (V5 76 0 (a.toNat)), V5)
                else
                  none))) := Xc_es [] P_X12_mark 6 _ V
set_option maxRecDepth 100000 in
theorem s_X12_remark (d : Nat) (V : XM) (a : Int) (b : Int) (c : Int) : Yf (d + 1) 238 [xr 14 0, xi a, xi b, xi c] V =
    ci (Yf d 203 [xr 14 0, xl a] V) (fun x2 V1 =>
    if x2 = 0 then
      some (xi (-1), V1)
    else
      ci (Yf d 189 [xl b, xl 0, xl 1] V1) (fun x4 V3 =>
        if x4 = 0 then
          some (xi (-2), V3)
        else
          ci (Yf d 189 [xl c, xl 0, xl 1000] V3) (fun x6 V5 =>
            if x6 = 0 then
              some (xi (-2), V5)
            else
              if b = 1 then
                ci (Yf d 236 [xr 14 0, xi a] V5) (fun x8 V7 =>
                  if x8 = 0 then
                    ci (Yf d 190 [xr 14 0, xi (-13)] V7) (fun x10 V9 =>
                      some (xi x10, V9))
                  else
                    if b = 0 then
                      if 0 ≤ a ∧ a < 64 then
                        if b = 0 then
                          if 0 ≤ a ∧ a < 64 then
                            if b = 1 then
                              if 0 ≤ a ∧ a < 64 then
                                some (xi (V7 75 0 (a.toNat)), (xu (xu V7 75 0 (a.toNat) c) 76 0 (a.toNat) c))
                              else
                                none
                            else
                              if 0 ≤ a ∧ a < 64 then
                                if 0 ≤ a ∧ a < 64 then
                                  some (xi (V7 75 0 (a.toNat)), (xu (xu V7 75 0 (a.toNat) c) 76 0 (a.toNat) (V7 76 0 (a.toNat))))
                                else
                                  none
                              else
                                none
                          else
                            none
                        else
                          if 0 ≤ a ∧ a < 64 then
                            if 0 ≤ a ∧ a < 64 then
                              if b = 1 then
                                if 0 ≤ a ∧ a < 64 then
                                  some (xi (V7 75 0 (a.toNat)), (xu (xu V7 75 0 (a.toNat) (V7 75 0 (a.toNat))) 76 0 (a.toNat) c))
                                else
                                  none
                              else
                                if 0 ≤ a ∧ a < 64 then
                                  if 0 ≤ a ∧ a < 64 then
                                    some (xi (V7 75 0 (a.toNat)), (xu (xu V7 75 0 (a.toNat) (V7 75 0 (a.toNat))) 76 0 (a.toNat) (V7 76 0 (a.toNat))))
                                  else
                                    none
                                else
                                  none
                            else
                              none
                          else
                            none
                      else
                        none
                    else
                      if 0 ≤ a ∧ a < 64 then
                        if b = 0 then
                          if 0 ≤ a ∧ a < 64 then
                            if b = 1 then
                              if 0 ≤ a ∧ a < 64 then
                                some (xi (V7 76 0 (a.toNat)), (xu (xu V7 75 0 (a.toNat) c) 76 0 (a.toNat) c))
                              else
                                none
                            else
                              if 0 ≤ a ∧ a < 64 then
                                if 0 ≤ a ∧ a < 64 then
                                  some (xi (V7 76 0 (a.toNat)), (xu (xu V7 75 0 (a.toNat) c) 76 0 (a.toNat) (V7 76 0 (a.toNat))))
                                else
                                  none
                              else
                                none
                          else
                            none
                        else
                          if 0 ≤ a ∧ a < 64 then
                            if 0 ≤ a ∧ a < 64 then
                              if b = 1 then
                                if 0 ≤ a ∧ a < 64 then
                                  some (xi (V7 76 0 (a.toNat)), (xu (xu V7 75 0 (a.toNat) (V7 75 0 (a.toNat))) 76 0 (a.toNat) c))
                                else
                                  none
                              else
                                if 0 ≤ a ∧ a < 64 then
                                  if 0 ≤ a ∧ a < 64 then
                                    some (xi (V7 76 0 (a.toNat)), (xu (xu V7 75 0 (a.toNat) (V7 75 0 (a.toNat))) 76 0 (a.toNat) (V7 76 0 (a.toNat))))
                                  else
                                    none
                                else
                                  none
                            else
                              none
                          else
                            none
                      else
                        none)
              else
                if b = 0 then
                  if 0 ≤ a ∧ a < 64 then
                    if b = 0 then
                      if 0 ≤ a ∧ a < 64 then
                        if b = 1 then
                          if 0 ≤ a ∧ a < 64 then
                            some (xi (V5 75 0 (a.toNat)), (xu (xu V5 75 0 (a.toNat) c) 76 0 (a.toNat) c))
                          else
                            none
                        else
                          if 0 ≤ a ∧ a < 64 then
                            if 0 ≤ a ∧ a < 64 then
                              some (xi (V5 75 0 (a.toNat)), (xu (xu V5 75 0 (a.toNat) c) 76 0 (a.toNat) (V5 76 0 (a.toNat))))
                            else
                              none
                          else
                            none
                      else
                        none
                    else
                      if 0 ≤ a ∧ a < 64 then
                        if 0 ≤ a ∧ a < 64 then
                          if b = 1 then
                            if 0 ≤ a ∧ a < 64 then
                              some (xi (V5 75 0 (a.toNat)), (xu (xu V5 75 0 (a.toNat) (V5 75 0 (a.toNat))) 76 0 (a.toNat) c))
                            else
                              none
                          else
                            if 0 ≤ a ∧ a < 64 then
                              if 0 ≤ a ∧ a < 64 then
                                some (xi (V5 75 0 (a.toNat)), (xu (xu V5 75 0 (a.toNat) (V5 75 0 (a.toNat))) 76 0 (a.toNat) (V5 76 0 (a.toNat))))
                              else
                                none
                            else
                              none
                        else
                          none
                      else
                        none
                  else
                    none
                else
                  if 0 ≤ a ∧ a < 64 then
                    if b = 0 then
                      if 0 ≤ a ∧ a < 64 then
                        if b = 1 then
                          if 0 ≤ a ∧ a < 64 then
                            some (xi (V5 76 0 (a.toNat)), (xu (xu V5 75 0 (a.toNat) c) 76 0 (a.toNat) c))
                          else
                            none
                        else
                          if 0 ≤ a ∧ a < 64 then
                            if 0 ≤ a ∧ a < 64 then
                              some (xi (V5 76 0 (a.toNat)), (xu (xu V5 75 0 (a.toNat) c) 76 0 (a.toNat) (V5 76 0 (a.toNat))))
                            else
                              none
                          else
                            none
                      else
                        none
                    else
                      if 0 ≤ a ∧ a < 64 then
                        if 0 ≤ a ∧ a < 64 then
                          if b = 1 then
                            if 0 ≤ a ∧ a < 64 then
                              some (xi (V5 76 0 (a.toNat)), (xu (xu V5 75 0 (a.toNat) (V5 75 0 (a.toNat))) 76 0 (a.toNat) c))
                            else
                              none
                          else
                            if 0 ≤ a ∧ a < 64 then
                              if 0 ≤ a ∧ a < 64 then
                                some (xi (V5 76 0 (a.toNat)), (xu (xu V5 75 0 (a.toNat) (V5 75 0 (a.toNat))) 76 0 (a.toNat) (V5 76 0 (a.toNat))))
                              else
                                none
                            else
                              none
                        else
                          none
                      else
                        none
                  else
                    none))) := Xc_es [] P_X12_remark 10 _ V
set_option maxRecDepth 100000 in
theorem s_X12_open (d : Nat) (V : XM) (a : Int) (b : Int) : Yf (d + 1) 239 [xr 14 0, xi a, xi b] V =
    ci (Yf d 203 [xr 14 0, xl a] V) (fun x2 V1 =>
    if x2 = 0 then
      some (xi (-1), V1)
    else
      ci (Yf d 236 [xr 14 0, xi a] V1) (fun x4 V3 =>
        if x4 = 0 then
          ci (Yf d 190 [xr 14 0, xi (-13)] V3) (fun x6 V5 =>
            some (xi x6, V5))
        else
          if 0 ≤ a ∧ a < 64 then
            if (V3 77 0 (a.toNat)) = 0 then
              if 0 ≤ a ∧ a < 64 then
                some (xi 0, (xu V3 77 0 (a.toNat) (b % 2)))
              else
                none
            else
              if 0 ≤ a ∧ a < 64 then
                some (xi 1, (xu V3 77 0 (a.toNat) (b % 2)))
              else
                none
          else
            none)) := Xc_es [] P_X12_open 5 _ V
set_option maxRecDepth 100000 in
theorem s_X12_among (d : Nat) (V : XM) (a : Int) (b : Int) : Yf (d + 1) 240 [xr 14 0, xi a, xl b] V =
    ci (Yf d 203 [xr 14 0, xl a] V) (fun x2 V1 =>
    Xf d 240 15 [xr 14 0, xi a, xl b, xr 0 0, xi x2, xi x2, xi 0, xr 0 0, xr 0 0, xr 0 0] [] V1) := Xc_es [15, 239] P_X12_among 1 _ V
set_option maxRecDepth 100000 in
theorem s_X12_among_15 (d : Nat) (V : XM) (l1 : Int) (l2 : Int) (l4 : Int) (l5 : Int) (l6 : Int) : Xf d 240 15 [xr 14 0, xi l1, xl l2, xr 0 0, xi l4, xi l5, xi l6, xr 0 0, xr 0 0, xr 0 0] [] V =
    if l6 < 64 then
    if (cmp3 (lAnd (lUshr l2 l6) 1) 1) = 0 then
      if l4 = 0 then
        if l5 = 0 then
          Xf d 240 15 [xr 14 0, xi l1, xl l2, xr 0 0, xi 0, xi 0, xi (w32 (l6 + 1)), xr 0 0, xr 0 0, xr 0 0] [] V
        else
          Xf d 240 15 [xr 14 0, xi l1, xl l2, xr 0 0, xi 0, xi 0, xi (w32 (l6 + 1)), xr 0 0, xr 0 0, xr 0 0] [] V
      else
        ci (Yf d 203 [xr 14 0, xl l6] V) (fun x2 V1 =>
          if x2 = 0 then
            if l5 = 0 then
              Xf d 240 15 [xr 14 0, xi l1, xl l2, xr 0 0, xi 0, xi 0, xi (w32 (l6 + 1)), xr 0 0, xr 0 0, xr 0 0] [] V1
            else
              Xf d 240 15 [xr 14 0, xi l1, xl l2, xr 0 0, xi 0, xi 0, xi (w32 (l6 + 1)), xr 0 0, xr 0 0, xr 0 0] [] V1
          else
            if l5 = 0 then
              Xf d 240 15 [xr 14 0, xi l1, xl l2, xr 0 0, xi 1, xi 0, xi (w32 (l6 + 1)), xr 0 0, xr 0 0, xr 0 0] [] V1
            else
              if l6 = l1 then
                Xf d 240 15 [xr 14 0, xi l1, xl l2, xr 0 0, xi 1, xi 0, xi (w32 (l6 + 1)), xr 0 0, xr 0 0, xr 0 0] [] V1
              else
                ci (Yf d 206 [xr 14 0, xi l6] V1) (fun x4 V3 =>
                  if x4 = 0 then
                    Xf d 240 15 [xr 14 0, xi l1, xl l2, xr 0 0, xi 1, xi 0, xi (w32 (l6 + 1)), xr 0 0, xr 0 0, xr 0 0] [] V3
                  else
                    Xf d 240 15 [xr 14 0, xi l1, xl l2, xr 0 0, xi 1, xi 1, xi (w32 (l6 + 1)), xr 0 0, xr 0 0, xr 0 0] [] V3))
    else
      Xf d 240 15 [xr 14 0, xi l1, xl l2, xr 0 0, xi l4, xi l5, xi (w32 (l6 + 1)), xr 0 0, xr 0 0, xr 0 0] [] V
  else
    if l4 = 0 then
      some (xi (-1), V)
    else
      if (cmp3 l2 0) = 0 then
        some (xi (-2), V)
      else
        ci (Yf d 207 [xr 14 0, xi l1] V) (fun x6 V5 =>
          if x6 = 0 then
            ci (Yf d 208 [xr 14 0, xi l1] V5) (fun x8 V7 =>
              if x8 = 0 then
                if l5 = 0 then
                  some (xi (-3), V7)
                else
                  if (V7 14 0 22) = 300 then
                    some (xi (-4), V7)
                  else
                    if 0 ≤ l1 ∧ l1 < 64 then
                      if 0 < (V7 80 0 (l1.toNat)) then
                        if 0 ≤ w32 (6 * l1) ∧ w32 (6 * l1) < 384 then
                          if (cmp3 (lAnd (lUshr l2 (V7 78 0 ((w32 (6 * l1)).toNat))) 1) 0) = 0 then
                            if 0 ≤ w32 (6 * l1) ∧ w32 (6 * l1) < 384 then
                              ci (Yf d 211 [xi (V7 79 0 ((w32 (6 * l1)).toNat))] V7) (fun x10 V9 =>
                                some (xi x10, V9))
                            else
                              none
                          else
                            if 0 ≤ l1 ∧ l1 < 64 then
                              if (cmp3 (V7 81 0 (l1.toNat)) 0) = 0 then
                                if (cmp3 l2 0) = 0 then
                                  ci (Yf d 213 [xr 14 0, xi l1] V7) (fun x12 V11 =>
                                    ci (Yf d 211 [xi x12] V11) (fun x14 V13 =>
                                      some (xi x14, V13)))
                                else
                                  Xf d 240 239 [xr 14 0, xi l1, xl l2, xr 0 0, xr 0 0, xr 0 0, xl l2, xr 0 0, xi (-9), xi (w32 ((V7 14 0 22) - 1))] [] V7
                              else
                                if 0 ≤ l1 ∧ l1 < 64 then
                                  if (cmp3 (lAnd (V7 81 0 (l1.toNat)) l2) 0) = 0 then
                                    ci (Yf d 213 [xr 14 0, xi l1] V7) (fun x16 V15 =>
                                      ci (Yf d 211 [xi x16] V15) (fun x18 V17 =>
                                        some (xi x18, V17)))
                                  else
                                    Xf d 240 239 [xr 14 0, xi l1, xl l2, xr 0 0, xr 0 0, xr 0 0, xl (lAnd (V7 81 0 (l1.toNat)) l2), xr 0 0, xi (-9), xi (w32 ((V7 14 0 22) - 1))] [] V7
                                else
                                  none
                            else
                              none
                        else
                          none
                      else
                        if 0 ≤ l1 ∧ l1 < 64 then
                          if (cmp3 (V7 81 0 (l1.toNat)) 0) = 0 then
                            if (cmp3 l2 0) = 0 then
                              ci (Yf d 213 [xr 14 0, xi l1] V7) (fun x20 V19 =>
                                ci (Yf d 211 [xi x20] V19) (fun x22 V21 =>
                                  some (xi x22, V21)))
                            else
                              Xf d 240 239 [xr 14 0, xi l1, xl l2, xr 0 0, xr 0 0, xr 0 0, xl l2, xr 0 0, xi (-9), xi (w32 ((V7 14 0 22) - 1))] [] V7
                          else
                            if 0 ≤ l1 ∧ l1 < 64 then
                              if (cmp3 (lAnd (V7 81 0 (l1.toNat)) l2) 0) = 0 then
                                ci (Yf d 213 [xr 14 0, xi l1] V7) (fun x24 V23 =>
                                  ci (Yf d 211 [xi x24] V23) (fun x26 V25 =>
                                    some (xi x26, V25)))
                              else
                                Xf d 240 239 [xr 14 0, xi l1, xl l2, xr 0 0, xr 0 0, xr 0 0, xl (lAnd (V7 81 0 (l1.toNat)) l2), xr 0 0, xi (-9), xi (w32 ((V7 14 0 22) - 1))] [] V7
                            else
                              none
                        else
                          none
                    else
                      none
              else
                some (xi (-3), V7))
          else
            some (xi (-3), V5)) := Xx_es [15, 239] P_X12_among 10 _ _ _ V
set_option maxRecDepth 100000 in
theorem s_X12_among_239 (d : Nat) (V : XM) (l1 : Int) (l2 : Int) (l6 : Int) (l8 : Int) (l9 : Int) : Xf d 240 239 [xr 14 0, xi l1, xl l2, xr 0 0, xr 0 0, xr 0 0, xl l6, xr 0 0, xi l8, xi l9] [] V =
    if l9 < 0 then
    if (cmp3 l6 0) = 0 then
      ci (Yf d 211 [xi l8] V) (fun x2 V1 =>
        some (xi x2, V1))
    else
      if 0 ≤ l1 ∧ l1 < 64 then
        ci (Yf d 210 [xr 14 0, xi 3, xi l1, xi (w32 l2), xi 0] (xu V 81 0 (l1.toNat) l6)) (fun x4 V3 =>
          some (xi x4, V3))
      else
        none
  else
    if 0 ≤ l9 ∧ l9 < 300 then
      if (V 85 0 (l9.toNat)) = 1 then
        if 0 ≤ l9 ∧ l9 < 300 then
          if (V 86 0 (l9.toNat)) = l1 then
            if 0 ≤ l9 ∧ l9 < 300 then
              if (cmp3 (lAnd (lUshr l2 (V 87 0 (l9.toNat))) 1) 1) = 0 then
                if 0 ≤ l9 ∧ l9 < 300 then
                  Xf d 240 239 [xr 14 0, xi l1, xl l2, xr 0 0, xr 0 0, xr 0 0, xl (lAnd l6 (lXor (lShl 1 (V 87 0 (l9.toNat))) (-1))), xr 0 0, xi l9, xi (w32 (l9 + (-1)))] [] V
                else
                  none
              else
                if 0 ≤ l9 ∧ l9 < 300 then
                  Xf d 240 239 [xr 14 0, xi l1, xl l2, xr 0 0, xr 0 0, xr 0 0, xl (lAnd l6 (lXor (lShl 1 (V 87 0 (l9.toNat))) (-1))), xr 0 0, xi l8, xi (w32 (l9 + (-1)))] [] V
                else
                  none
            else
              none
          else
            Xf d 240 239 [xr 14 0, xi l1, xl l2, xr 0 0, xr 0 0, xr 0 0, xl l6, xr 0 0, xi l8, xi (w32 (l9 + (-1)))] [] V
        else
          none
      else
        Xf d 240 239 [xr 14 0, xi l1, xl l2, xr 0 0, xr 0 0, xr 0 0, xl l6, xr 0 0, xi l8, xi (w32 (l9 + (-1)))] [] V
    else
      none := Xx_es [15, 239] P_X12_among 4 _ _ _ V
end
section
set_option maxRecDepth 100000 in
theorem s_X12_pair (d : Nat) (V : XM) (a : Int) (b : Int) (c : Int) : Yf (d + 1) 241 [xr 14 0, xi a, xi b, xi c] V =
    ci (Yf d 203 [xr 14 0, xl a] V) (fun x2 V1 =>
    if x2 = 0 then
      some (xi (-1), V1)
    else
      ci (Yf d 203 [xr 14 0, xl b] V1) (fun x4 V3 =>
        if x4 = 0 then
          some (xi (-1), V3)
        else
          if a = b then
            some (xi (-3), V3)
          else
            ci (Yf d 207 [xr 14 0, xi a] V3) (fun x6 V5 =>
              if x6 = 0 then
                ci (Yf d 208 [xr 14 0, xi a] V5) (fun x8 V7 =>
                  if x8 = 0 then
                    ci (Yf d 207 [xr 14 0, xi b] V7) (fun x10 V9 =>
                      if x10 = 0 then
                        ci (Yf d 208 [xr 14 0, xi b] V9) (fun x12 V11 =>
                          if x12 = 0 then
                            if (V11 14 0 22) = 300 then
                              some (xi (-4), V11)
                            else
                              if (V11 14 0 27) = 16 then
                                some (xi (-4), V11)
                              else
                                if c = 0 then
                                  Xf d 241 96 [xr 14 0, xi a, xi b, xi c, xi 0, xi 0] [] V11
                                else
                                  Xf d 241 96 [xr 14 0, xi a, xi b, xi c, xi 1, xi 0] [] V11
                          else
                            some (xi (-3), V11))
                      else
                        some (xi (-3), V9))
                  else
                    some (xi (-3), V7))
              else
                some (xi (-3), V5)))) := Xc_es [96] P_X12_pair 6 _ V
set_option maxRecDepth 100000 in
theorem s_X12_pair_96 (d : Nat) (V : XM) (l1 : Int) (l2 : Int) (l3 : Int) (l4 : Int) (l5 : Int) : Xf d 241 96 [xr 14 0, xi l1, xi l2, xi l3, xi l4, xi l5] [] V =
    if l5 < (V 14 0 22) then
    if 0 ≤ l5 ∧ l5 < 300 then
      if (V 85 0 (l5.toNat)) = 4 then
        if 0 ≤ l5 ∧ l5 < 300 then
          if (V 86 0 (l5.toNat)) = l1 then
            if 0 ≤ l5 ∧ l5 < 300 then
              if (V 87 0 (l5.toNat)) = l2 then
                if 0 ≤ l5 ∧ l5 < 300 then
                  if (V 88 0 (l5.toNat)) = l4 then
                    Xf d 241 96 [xr 14 0, xi l1, xi l2, xi l3, xi l4, xi (w32 (l5 + 1))] [] V
                  else
                    ci (Yf d 211 [xi l5] V) (fun x2 V1 =>
                      some (xi x2, V1))
                else
                  none
              else
                if 0 ≤ l5 ∧ l5 < 300 then
                  if (V 86 0 (l5.toNat)) = l2 then
                    if 0 ≤ l5 ∧ l5 < 300 then
                      if (V 87 0 (l5.toNat)) = l1 then
                        if 0 ≤ l5 ∧ l5 < 300 then
                          if (V 88 0 (l5.toNat)) = l4 then
                            Xf d 241 96 [xr 14 0, xi l1, xi l2, xi l3, xi l4, xi (w32 (l5 + 1))] [] V
                          else
                            ci (Yf d 211 [xi l5] V) (fun x4 V3 =>
                              some (xi x4, V3))
                        else
                          none
                      else
                        Xf d 241 96 [xr 14 0, xi l1, xi l2, xi l3, xi l4, xi (w32 (l5 + 1))] [] V
                    else
                      none
                  else
                    Xf d 241 96 [xr 14 0, xi l1, xi l2, xi l3, xi l4, xi (w32 (l5 + 1))] [] V
                else
                  none
            else
              none
          else
            if 0 ≤ l5 ∧ l5 < 300 then
              if (V 86 0 (l5.toNat)) = l2 then
                if 0 ≤ l5 ∧ l5 < 300 then
                  if (V 87 0 (l5.toNat)) = l1 then
                    if 0 ≤ l5 ∧ l5 < 300 then
                      if (V 88 0 (l5.toNat)) = l4 then
                        Xf d 241 96 [xr 14 0, xi l1, xi l2, xi l3, xi l4, xi (w32 (l5 + 1))] [] V
                      else
                        ci (Yf d 211 [xi l5] V) (fun x6 V5 =>
                          some (xi x6, V5))
                    else
                      none
                  else
                    Xf d 241 96 [xr 14 0, xi l1, xi l2, xi l3, xi l4, xi (w32 (l5 + 1))] [] V
                else
                  none
              else
                Xf d 241 96 [xr 14 0, xi l1, xi l2, xi l3, xi l4, xi (w32 (l5 + 1))] [] V
            else
              none
        else
          none
      else
        Xf d 241 96 [xr 14 0, xi l1, xi l2, xi l3, xi l4, xi (w32 (l5 + 1))] [] V
    else
      none
  else
    if 0 ≤ l1 ∧ l1 < 64 then
      if 0 < (V 80 0 (l1.toNat)) then
        if 0 ≤ l2 ∧ l2 < 64 then
          if 0 < (V 80 0 (l2.toNat)) then
            ci (Yf d 215 [xr 14 0, xi l1] V) (fun x8 V7 =>
              ci (Yf d 215 [xr 14 0, xi l2] V7) (fun x10 V9 =>
                if x8 = x10 then
                  if 1 = l3 then
                    ci (Yf d 210 [xr 14 0, xi 4, xi l1, xi l2, xi l4] (xu V9 14 0 27 (w32 ((V9 14 0 27) + 1)))) (fun x12 V11 =>
                      some (xi x12, V11))
                  else
                    if 0 ≤ w32 (6 * l1) ∧ w32 (6 * l1) < 384 then
                      if 0 ≤ w32 (6 * l2) ∧ w32 (6 * l2) < 384 then
                        if (V9 79 0 ((w32 (6 * l2)).toNat)) < (V9 79 0 ((w32 (6 * l1)).toNat)) then
                          if 0 ≤ w32 (6 * l1) ∧ w32 (6 * l1) < 384 then
                            ci (Yf d 211 [xi (V9 79 0 ((w32 (6 * l1)).toNat))] V9) (fun x14 V13 =>
                              some (xi x14, V13))
                          else
                            none
                        else
                          if 0 ≤ w32 (6 * l2) ∧ w32 (6 * l2) < 384 then
                            ci (Yf d 211 [xi (V9 79 0 ((w32 (6 * l2)).toNat))] V9) (fun x16 V15 =>
                              some (xi x16, V15))
                          else
                            none
                      else
                        none
                    else
                      none
                else
                  if 0 = l3 then
                    ci (Yf d 210 [xr 14 0, xi 4, xi l1, xi l2, xi l4] (xu V9 14 0 27 (w32 ((V9 14 0 27) + 1)))) (fun x18 V17 =>
                      some (xi x18, V17))
                  else
                    if 0 ≤ w32 (6 * l1) ∧ w32 (6 * l1) < 384 then
                      if 0 ≤ w32 (6 * l2) ∧ w32 (6 * l2) < 384 then
                        if (V9 79 0 ((w32 (6 * l2)).toNat)) < (V9 79 0 ((w32 (6 * l1)).toNat)) then
                          if 0 ≤ w32 (6 * l1) ∧ w32 (6 * l1) < 384 then
                            ci (Yf d 211 [xi (V9 79 0 ((w32 (6 * l1)).toNat))] V9) (fun x20 V19 =>
                              some (xi x20, V19))
                          else
                            none
                        else
                          if 0 ≤ w32 (6 * l2) ∧ w32 (6 * l2) < 384 then
                            ci (Yf d 211 [xi (V9 79 0 ((w32 (6 * l2)).toNat))] V9) (fun x22 V21 =>
                              some (xi x22, V21))
                          else
                            none
                      else
                        none
                    else
                      none))
          else
            ci (Yf d 210 [xr 14 0, xi 4, xi l1, xi l2, xi l4] (xu V 14 0 27 (w32 ((V 14 0 27) + 1)))) (fun x24 V23 =>
              some (xi x24, V23))
        else
          none
      else
        ci (Yf d 210 [xr 14 0, xi 4, xi l1, xi l2, xi l4] (xu V 14 0 27 (w32 ((V 14 0 27) + 1)))) (fun x26 V25 =>
          some (xi x26, V25))
    else
      none := Xx_es [96] P_X12_pair 6 _ _ _ V
set_option maxRecDepth 100000 in
theorem s_X12_most (d : Nat) (V : XM) (a : Int) (b : Int) : Yf (d + 1) 242 [xr 14 0, xi a, xi b] V =
    ci (Yf d 203 [xr 14 0, xl a] V) (fun x2 V1 =>
    if x2 = 0 then
      some (xi (-1), V1)
    else
      ci (Yf d 189 [xl b, xl 0, xl 64] V1) (fun x4 V3 =>
        if x4 = 0 then
          some (xi (-2), V3)
        else
          ci (Yf d 206 [xr 14 0, xi a] V3) (fun x6 V5 =>
            if x6 = 0 then
              some (xi (-3), V5)
            else
              if 0 ≤ a ∧ a < 64 then
                if (V5 82 0 (a.toNat)) = (-9) then
                  if (V5 14 0 22) = 300 then
                    some (xi (-4), V5)
                  else
                    Xf d 242 66 [xr 14 0, xi a, xi b, xi 0, xi 0] [] V5
                else
                  some (xi (-3), V5)
              else
                none))) := Xc_es [66] P_X12_most 5 _ V
set_option maxRecDepth 100000 in
theorem s_X12_most_66 (d : Nat) (V : XM) (l1 : Int) (l2 : Int) (l3 : Int) (l4 : Int) : Xf d 242 66 [xr 14 0, xi l1, xi l2, xi l3, xi l4] [] V =
    if l4 < (V 14 0 22) then
    if 0 ≤ l4 ∧ l4 < 300 then
      if (V 85 0 (l4.toNat)) = 0 then
        if 0 ≤ l4 ∧ l4 < 300 then
          if (V 87 0 (l4.toNat)) = l1 then
            if 0 ≤ l4 ∧ l4 < 300 then
              ci (Yf d 208 [xr 14 0, xi (V 86 0 (l4.toNat))] V) (fun x2 V1 =>
                if x2 = 0 then
                  if (w32 (l3 + 1)) = (w32 (l2 + 1)) then
                    ci (Yf d 211 [xi l4] V1) (fun x4 V3 =>
                      some (xi x4, V3))
                  else
                    Xf d 242 66 [xr 14 0, xi l1, xi l2, xi (w32 (l3 + 1)), xi (w32 (l4 + 1))] [] V1
                else
                  Xf d 242 66 [xr 14 0, xi l1, xi l2, xi l3, xi (w32 (l4 + 1))] [] V1)
            else
              none
          else
            Xf d 242 66 [xr 14 0, xi l1, xi l2, xi l3, xi (w32 (l4 + 1))] [] V
        else
          none
      else
        Xf d 242 66 [xr 14 0, xi l1, xi l2, xi l3, xi (w32 (l4 + 1))] [] V
    else
      none
  else
    ci (Yf d 210 [xr 14 0, xi 5, xi l1, xi l2, xi 0] V) (fun x6 V5 =>
      if 0 ≤ l1 ∧ l1 < 64 then
        if 0 ≤ l1 ∧ l1 < 64 then
          some (xi ((xu V5 82 0 (l1.toNat) x6) 82 0 (l1.toNat)), (xu V5 82 0 (l1.toNat) x6))
        else
          none
      else
        none) := Xx_es [66] P_X12_most 2 _ _ _ V
set_option maxRecDepth 100000 in
theorem s_X12_isUnsettled (d : Nat) (V : XM) (a : Int) : Yf (d + 1) 243 [xr 14 0, xi a] V =
    if 0 ≤ a ∧ a < 64 then
    if (cmp3 (V 81 0 (a.toNat)) 0) = 0 then
      some (xi 0, V)
    else
      if 0 ≤ a ∧ a < 64 then
        if (V 80 0 (a.toNat)) = 0 then
          some (xi 1, V)
        else
          some (xi 0, V)
      else
        none
  else
    none := Xc_es [] P_X12_isUnsettled 3 _ V
set_option maxRecDepth 100000 in
theorem s_X12_unsettled (d : Nat) (V : XM) : Yf (d + 1) 244 [xr 14 0] V =
    Xf d 244 4 [xr 14 0, xi 0, xi 0] [] V := Xc_es [4] P_X12_unsettled 1 _ V
set_option maxRecDepth 100000 in
theorem s_X12_unsettled_4 (d : Nat) (V : XM) (l1 : Int) (l2 : Int) : Xf d 244 4 [xr 14 0, xi l1, xi l2] [] V =
    if l2 < (V 14 0 9) then
    ci (Yf d 243 [xr 14 0, xi l2] V) (fun x2 V1 =>
      if x2 = 0 then
        Xf d 244 4 [xr 14 0, xi (w32 (l1 + 0)), xi (w32 (l2 + 1))] [] V1
      else
        Xf d 244 4 [xr 14 0, xi (w32 (l1 + 1)), xi (w32 (l2 + 1))] [] V1)
  else
    some (xi l1, V) := Xx_es [4] P_X12_unsettled 3 _ _ _ V
set_option maxRecDepth 100000 in
theorem s_X12_keeps (d : Nat) (V : XM) : Yf (d + 1) 245 [xr 14 0] V =
    Xf d 245 2 [xr 14 0, xi 0, xr 0 0, xr 0 0, xr 0 0] [] V := Xc_es [2, 19, 67, 135] P_X12_keeps 1 _ V
set_option maxRecDepth 100000 in
theorem s_X12_keeps_2 (d : Nat) (V : XM) (l1 : Int) : Xf d 245 2 [xr 14 0, xi l1, xr 0 0, xr 0 0, xr 0 0] [] V =
    if l1 < (V 14 0 9) then
    if 0 ≤ l1 ∧ l1 < 64 then
      Xf d 245 19 [xr 14 0, xi l1, xi (V 89 0 (l1.toNat)), xi 0, xr 0 0] [] V
    else
      none
  else
    Xf d 245 135 [xr 14 0, xi 0, xr 0 0, xr 0 0, xr 0 0] [] V := Xx_es [2, 19, 67, 135] P_X12_keeps 2 _ _ _ V
set_option maxRecDepth 100000 in
theorem s_X12_keeps_135 (d : Nat) (V : XM) (l1 : Int) : Xf d 245 135 [xr 14 0, xi l1, xr 0 0, xr 0 0, xr 0 0] [] V =
    if l1 < (V 14 0 22) then
    if 0 ≤ l1 ∧ l1 < 300 then
      if (V 85 0 (l1.toNat)) = 4 then
        if 0 ≤ l1 ∧ l1 < 300 then
          if 0 ≤ V 86 0 (l1.toNat) ∧ V 86 0 (l1.toNat) < 64 then
            if 0 ≤ l1 ∧ l1 < 300 then
              if 0 ≤ V 87 0 (l1.toNat) ∧ V 87 0 (l1.toNat) < 64 then
                if (V 89 0 ((V 86 0 (l1.toNat)).toNat)) = (-9) then
                  Xf d 245 135 [xr 14 0, xi (w32 (l1 + 1)), xr 0 0, xr 0 0, xr 0 0] [] V
                else
                  if (V 89 0 ((V 87 0 (l1.toNat)).toNat)) = (-9) then
                    Xf d 245 135 [xr 14 0, xi (w32 (l1 + 1)), xr 0 0, xr 0 0, xr 0 0] [] V
                  else
                    if (V 89 0 ((V 86 0 (l1.toNat)).toNat)) = (V 89 0 ((V 87 0 (l1.toNat)).toNat)) then
                      if 0 ≤ l1 ∧ l1 < 300 then
                        if (V 88 0 (l1.toNat)) = 1 then
                          Xf d 245 135 [xr 14 0, xi (w32 (l1 + 1)), xr 0 0, xr 0 0, xr 0 0] [] V
                        else
                          some (xi 0, V)
                      else
                        none
                    else
                      if 0 ≤ l1 ∧ l1 < 300 then
                        if (V 88 0 (l1.toNat)) = 1 then
                          some (xi 0, V)
                        else
                          Xf d 245 135 [xr 14 0, xi (w32 (l1 + 1)), xr 0 0, xr 0 0, xr 0 0] [] V
                      else
                        none
              else
                none
            else
              none
          else
            none
        else
          none
      else
        Xf d 245 135 [xr 14 0, xi (w32 (l1 + 1)), xr 0 0, xr 0 0, xr 0 0] [] V
    else
      none
  else
    some (xi 1, V) := Xx_es [2, 19, 67, 135] P_X12_keeps 6 _ _ _ V
set_option maxRecDepth 100000 in
theorem s_X12_keeps_19 (d : Nat) (V : XM) (l1 : Int) (l2 : Int) (l3 : Int) : Xf d 245 19 [xr 14 0, xi l1, xi l2, xi l3, xr 0 0] [] V =
    if l3 < 65 then
    if l2 = (-9) then
      if 0 ≤ l1 ∧ l1 < 64 then
        if (V 82 0 (l1.toNat)) = (-9) then
          Xf d 245 2 [xr 14 0, xi (w32 (l1 + 1)), xr 0 0, xr 0 0, xr 0 0] [] V
        else
          Xf d 245 67 [xr 14 0, xi l1, xr 0 0, xi 0, xi 0] [] V
      else
        none
    else
      if l2 = l1 then
        some (xi 0, V)
      else
        if 0 ≤ l2 ∧ l2 < 64 then
          Xf d 245 19 [xr 14 0, xi l1, xi (V 89 0 (l2.toNat)), xi (w32 (l3 + 1)), xr 0 0] [] V
        else
          none
  else
    if 0 ≤ l1 ∧ l1 < 64 then
      if (V 82 0 (l1.toNat)) = (-9) then
        Xf d 245 2 [xr 14 0, xi (w32 (l1 + 1)), xr 0 0, xr 0 0, xr 0 0] [] V
      else
        Xf d 245 67 [xr 14 0, xi l1, xr 0 0, xi 0, xi 0] [] V
    else
      none := Xx_es [2, 19, 67, 135] P_X12_keeps 3 _ _ _ V
set_option maxRecDepth 100000 in
theorem s_X12_keeps_67 (d : Nat) (V : XM) (l1 : Int) (l3 : Int) (l4 : Int) : Xf d 245 67 [xr 14 0, xi l1, xr 0 0, xi l3, xi l4] [] V =
    if l4 < (V 14 0 9) then
    ci (Yf d 208 [xr 14 0, xi l4] V) (fun x2 V1 =>
      if x2 = 0 then
        if 0 ≤ l4 ∧ l4 < 64 then
          if (V1 89 0 (l4.toNat)) = l1 then
            Xf d 245 67 [xr 14 0, xi l1, xr 0 0, xi (w32 (l3 + 1)), xi (w32 (l4 + 1))] [] V1
          else
            Xf d 245 67 [xr 14 0, xi l1, xr 0 0, xi (w32 (l3 + 0)), xi (w32 (l4 + 1))] [] V1
        else
          none
      else
        Xf d 245 67 [xr 14 0, xi l1, xr 0 0, xi (w32 (l3 + 0)), xi (w32 (l4 + 1))] [] V1)
  else
    if 0 ≤ l1 ∧ l1 < 64 then
      if 0 ≤ V 82 0 (l1.toNat) ∧ V 82 0 (l1.toNat) < 300 then
        if (V 87 0 ((V 82 0 (l1.toNat)).toNat)) < l3 then
          some (xi 0, V)
        else
          Xf d 245 2 [xr 14 0, xi (w32 (l1 + 1)), xr 0 0, xr 0 0, xr 0 0] [] V
      else
        none
    else
      none := Xx_es [2, 19, 67, 135] P_X12_keeps 3 _ _ _ V
set_option maxRecDepth 100000 in
theorem s_X12_lowest (d : Nat) (V : XM) (a : Int) : Yf (d + 1) 246 [xl a] V =
    Xf d 246 2 [xl a, xr 0 0, xi 0] [] V := Xc_es [2] P_X12_lowest 1 _ V
set_option maxRecDepth 100000 in
theorem s_X12_lowest_2 (d : Nat) (V : XM) (l0 : Int) (l2 : Int) : Xf d 246 2 [xl l0, xr 0 0, xi l2] [] V =
    if (cmp3 (lAnd (lUshr l0 l2) 1) 0) = 0 then
    Xf d 246 2 [xl l0, xr 0 0, xi (w32 (l2 + 1))] [] V
  else
    some (xi l2, V) := Xx_es [2] P_X12_lowest 2 _ _ _ V
set_option maxRecDepth 100000 in
theorem s_X12_many (d : Nat) (V : XM) (a : Int) : Yf (d + 1) 247 [xl a] V =
    Xf d 247 4 [xl a, xr 0 0, xi 0, xi 0] [] V := Xc_es [4] P_X12_many 1 _ V
set_option maxRecDepth 100000 in
theorem s_X12_many_4 (d : Nat) (V : XM) (l0 : Int) (l2 : Int) (l3 : Int) : Xf d 247 4 [xl l0, xr 0 0, xi l2, xi l3] [] V =
    if l3 < 64 then
    if (cmp3 (lAnd (lUshr l0 l3) 1) 1) = 0 then
      Xf d 247 4 [xl l0, xr 0 0, xi (w32 (l2 + 1)), xi (w32 (l3 + 1))] [] V
    else
      Xf d 247 4 [xl l0, xr 0 0, xi (w32 (l2 + 0)), xi (w32 (l3 + 1))] [] V
  else
    some (xi l2, V) := Xx_es [4] P_X12_many 3 _ _ _ V
set_option maxRecDepth 100000 in
theorem s_X12_goesOn (d : Nat) (V : XM) : Yf (d + 1) 248 [xr 14 0] V =
    Xf d 248 7 [xr 14 0, xi (w32 ((V 14 0 9) - 1)), xr 0 0, xr 0 0] [] V := Xc_es [7] P_X12_goesOn 1 _ V
set_option maxRecDepth 100000 in
theorem s_X12_goesOn_7 (d : Nat) (V : XM) (l1 : Int) : Xf d 248 7 [xr 14 0, xi l1, xr 0 0, xr 0 0] [] V =
    if l1 < 0 then
    some (xi 0, V)
  else
    ci (Yf d 243 [xr 14 0, xi l1] V) (fun x2 V1 =>
      if x2 = 0 then
        Xf d 248 7 [xr 14 0, xi (w32 (l1 + (-1))), xr 0 0, xr 0 0] [] V1
      else
        if 0 ≤ l1 ∧ l1 < 64 then
          if 0 ≤ l1 ∧ l1 < 64 then
            if (cmp3 (lUshr (lUshr (V1 81 0 (l1.toNat)) (V1 89 0 (l1.toNat))) 1) 0) = 0 then
              if 0 ≤ l1 ∧ l1 < 64 then
                ci (Yf d 246 [xl (V1 81 0 (l1.toNat))] V1) (fun x4 V3 =>
                  if 0 ≤ l1 ∧ l1 < 64 then
                    Xf d 248 7 [xr 14 0, xi (w32 (l1 + (-1))), xr 0 0, xr 0 0] [] (xu V3 89 0 (l1.toNat) x4)
                  else
                    none)
              else
                none
            else
              if 0 ≤ l1 ∧ l1 < 64 then
                ci (Yf d 246 [xl (lUshr (lUshr (V1 81 0 (l1.toNat)) (V1 89 0 (l1.toNat))) 1)] V1) (fun x6 V5 =>
                  if 0 ≤ l1 ∧ l1 < 64 then
                    some (xi 1, (xu V5 89 0 (l1.toNat) (w32 ((w32 ((V1 89 0 (l1.toNat)) + 1)) + x6))))
                  else
                    none)
              else
                none
          else
            none
        else
          none) := Xx_es [7] P_X12_goesOn 3 _ _ _ V
set_option maxRecDepth 100000 in
theorem s_X12_settle (d : Nat) (V : XM) : Yf (d + 1) 249 [xr 14 0] V =
    ci (Yf d 244 [xr 14 0] V) (fun x2 V1 =>
    Xf d 249 10 [xr 14 0, xi x2, xl 1, xr 0 0, xi 0, xr 0 0, xr 0 0] [] V1) := Xc_es [10, 95, 162, 194] P_X12_settle 1 _ V
set_option maxRecDepth 100000 in
theorem s_X12_settle_10 (d : Nat) (V : XM) (l1 : Int) (l2 : Int) (l4 : Int) : Xf d 249 10 [xr 14 0, xi l1, xl l2, xr 0 0, xi l4, xr 0 0, xr 0 0] [] V =
    if l4 < (V 14 0 9) then
    ci (Yf d 243 [xr 14 0, xi l4] V) (fun x2 V1 =>
      if x2 = 0 then
        Xf d 249 10 [xr 14 0, xi l1, xl l2, xr 0 0, xi (w32 (l4 + 1)), xr 0 0, xr 0 0] [] V1
      else
        if 0 < (cmp3 l2 3000) then
          Xf d 249 10 [xr 14 0, xi l1, xl l2, xr 0 0, xi (w32 (l4 + 1)), xr 0 0, xr 0 0] [] V1
        else
          if 0 ≤ l4 ∧ l4 < 64 then
            ci (Yf d 247 [xl (V1 81 0 (l4.toNat))] V1) (fun x4 V3 =>
              Xf d 249 10 [xr 14 0, xi l1, xl (w64 (l2 * x4)), xr 0 0, xi (w32 (l4 + 1)), xr 0 0, xr 0 0] [] V3)
          else
            none)
  else
    if 7 < l1 then
      some (xi (-3), V)
    else
      if 0 < (cmp3 l2 3000) then
        some (xi (-3), V)
      else
        if 300 < (w32 ((V 14 0 22) + l1)) then
          some (xi (-4), V)
        else
          Xf d 249 95 [xr 14 0, xi l1, xr 0 0, xr 0 0, xi 0, xr 0 0, xr 0 0] [] V := Xx_es [10, 95, 162, 194] P_X12_settle 4 _ _ _ V
set_option maxRecDepth 100000 in
theorem s_X12_settle_95 (d : Nat) (V : XM) (l1 : Int) (l4 : Int) : Xf d 249 95 [xr 14 0, xi l1, xr 0 0, xr 0 0, xi l4, xr 0 0, xr 0 0] [] V =
    if l4 < (V 14 0 9) then
    ci (Yf d 243 [xr 14 0, xi l4] V) (fun x2 V1 =>
      if x2 = 0 then
        ci (Yf d 208 [xr 14 0, xi l4] V1) (fun x4 V3 =>
          if x4 = 0 then
            ci (Yf d 215 [xr 14 0, xi l4] V3) (fun x6 V5 =>
              if 0 ≤ l4 ∧ l4 < 64 then
                Xf d 249 95 [xr 14 0, xi l1, xr 0 0, xr 0 0, xi (w32 (l4 + 1)), xr 0 0, xr 0 0] [] (xu V5 89 0 (l4.toNat) x6)
              else
                none)
          else
            if 0 ≤ l4 ∧ l4 < 64 then
              Xf d 249 95 [xr 14 0, xi l1, xr 0 0, xr 0 0, xi (w32 (l4 + 1)), xr 0 0, xr 0 0] [] (xu V3 89 0 (l4.toNat) (-9))
            else
              none)
      else
        if 0 ≤ l4 ∧ l4 < 64 then
          ci (Yf d 246 [xl (V1 81 0 (l4.toNat))] V1) (fun x8 V7 =>
            if 0 ≤ l4 ∧ l4 < 64 then
              Xf d 249 95 [xr 14 0, xi l1, xr 0 0, xr 0 0, xi (w32 (l4 + 1)), xr 0 0, xr 0 0] [] (xu V7 89 0 (l4.toNat) x8)
            else
              none)
        else
          none)
  else
    Xf d 249 162 [xr 14 0, xi l1, xr 0 0, xr 0 0, xi 1, xr 0 0, xr 0 0] [] V := Xx_es [10, 95, 162, 194] P_X12_settle 4 _ _ _ V
set_option maxRecDepth 100000 in
theorem s_X12_settle_162 (d : Nat) (V : XM) (l1 : Int) (l4 : Int) : Xf d 249 162 [xr 14 0, xi l1, xr 0 0, xr 0 0, xi l4, xr 0 0, xr 0 0] [] V =
    if l4 = 0 then
    if l4 = 0 then
      some (xi (-5), V)
    else
      Xf d 249 194 [xr 14 0, xi l1, xr 0 0, xr 0 0, xr 0 0, xi 0, xr 0 0] [] V
  else
    ci (Yf d 245 [xr 14 0] V) (fun x2 V1 =>
      if x2 = 0 then
        ci (Yf d 248 [xr 14 0] V1) (fun x4 V3 =>
          Xf d 249 162 [xr 14 0, xi l1, xr 0 0, xr 0 0, xi x4, xr 0 0, xr 0 0] [] V3)
      else
        if l4 = 0 then
          some (xi (-5), V1)
        else
          Xf d 249 194 [xr 14 0, xi l1, xr 0 0, xr 0 0, xr 0 0, xi 0, xr 0 0] [] V1) := Xx_es [10, 95, 162, 194] P_X12_settle 3 _ _ _ V
set_option maxRecDepth 100000 in
theorem s_X12_settle_194 (d : Nat) (V : XM) (l1 : Int) (l5 : Int) : Xf d 249 194 [xr 14 0, xi l1, xr 0 0, xr 0 0, xr 0 0, xi l5, xr 0 0] [] V =
    if l5 < (V 14 0 9) then
    ci (Yf d 243 [xr 14 0, xi l5] V) (fun x2 V1 =>
      if x2 = 0 then
        Xf d 249 194 [xr 14 0, xi l1, xr 0 0, xr 0 0, xr 0 0, xi (w32 (l5 + 1)), xr 0 0] [] V1
      else
        if 0 ≤ l5 ∧ l5 < 64 then
          ci (Yf d 220 [xr 14 0, xi l5, xi (V1 89 0 (l5.toNat))] V1) (fun x4 V3 =>
            Xf d 249 194 [xr 14 0, xi l1, xr 0 0, xr 0 0, xr 0 0, xi (w32 (l5 + 1)), xr 0 0] [] V3)
        else
          none)
  else
    some (xi l1, V) := Xx_es [10, 95, 162, 194] P_X12_settle 2 _ _ _ V
set_option maxRecDepth 100000 in
theorem s_X12_set (d : Nat) (V : XM) (a : Int) : Yf (d + 1) 250 [xr 14 0, xi a] V =
    ci (Yf d 203 [xr 14 0, xl a] V) (fun x2 V1 =>
    if x2 = 0 then
      some (xl 0, V1)
    else
      if 0 ≤ a ∧ a < 64 then
        some (xl (V1 81 0 (a.toNat)), V1)
      else
        none) := Xc_es [] P_X12_set 3 _ V
set_option maxRecDepth 100000 in
theorem s_X12_isRelation (d : Nat) (V : XM) (a : Int) : Yf (d + 1) 251 [xr 14 0, xi a] V =
    ci (Yf d 189 [xl a, xl 0, xl (w32 ((V 14 0 29) - 1))] V) (fun x2 V1 =>
    if x2 = 0 ∨ x2 = 1 then
      some (xi x2, V1)
    else
      none) := Xc_es [] P_X12_isRelation 1 _ V
set_option maxRecDepth 100000 in
theorem s_X12_groupUp (d : Nat) (V : XM) (a : Int) (b : Int) : Yf (d + 1) 252 [xr 14 0, xi a, xi b] V =
    Xf d 252 2 [xr 14 0, xi a, xi b, xi 0, xr 0 0, xr 0 0, xr 0 0] [] V := Xc_es [2, 25, 105] P_X12_groupUp 1 _ V
set_option maxRecDepth 100000 in
theorem s_X12_groupUp_2 (d : Nat) (V : XM) (l1 : Int) (l2 : Int) (l3 : Int) : Xf d 252 2 [xr 14 0, xi l1, xi l2, xi l3, xr 0 0, xr 0 0, xr 0 0] [] V =
    if l3 < (V 14 0 9) then
    if 0 ≤ l3 ∧ l3 < 64 then
      Xf d 252 2 [xr 14 0, xi l1, xi l2, xi (w32 (l3 + 1)), xr 0 0, xr 0 0, xr 0 0] [] (xu V 91 0 (l3.toNat) l3)
    else
      none
  else
    Xf d 252 25 [xr 14 0, xi l1, xi l2, xi 0, xr 0 0, xr 0 0, xr 0 0] [] V := Xx_es [2, 25, 105] P_X12_groupUp 2 _ _ _ V
set_option maxRecDepth 100000 in
theorem s_X12_groupUp_25 (d : Nat) (V : XM) (l1 : Int) (l2 : Int) (l3 : Int) : Xf d 252 25 [xr 14 0, xi l1, xi l2, xi l3, xr 0 0, xr 0 0, xr 0 0] [] V =
    if l3 < l2 then
    if 0 ≤ l3 ∧ l3 < 300 then
      if (V 85 0 (l3.toNat)) = 6 then
        if 0 ≤ l3 ∧ l3 < 300 then
          if (V 86 0 (l3.toNat)) = l1 then
            if 0 ≤ l3 ∧ l3 < 300 then
              if 0 ≤ V 87 0 (l3.toNat) ∧ V 87 0 (l3.toNat) < 64 then
                if 0 ≤ l3 ∧ l3 < 300 then
                  if 0 ≤ V 88 0 (l3.toNat) ∧ V 88 0 (l3.toNat) < 64 then
                    if (V 91 0 ((V 87 0 (l3.toNat)).toNat)) = (V 91 0 ((V 88 0 (l3.toNat)).toNat)) then
                      Xf d 252 25 [xr 14 0, xi l1, xi l2, xi (w32 (l3 + 1)), xr 0 0, xr 0 0, xr 0 0] [] V
                    else
                      if 0 ≤ l3 ∧ l3 < 300 then
                        if 0 ≤ V 88 0 (l3.toNat) ∧ V 88 0 (l3.toNat) < 64 then
                          if 0 ≤ l3 ∧ l3 < 300 then
                            if 0 ≤ V 87 0 (l3.toNat) ∧ V 87 0 (l3.toNat) < 64 then
                              Xf d 252 105 [xr 14 0, xi l1, xi l2, xi l3, xi (V 91 0 ((V 88 0 (l3.toNat)).toNat)), xi (V 91 0 ((V 87 0 (l3.toNat)).toNat)), xi 0] [] V
                            else
                              none
                          else
                            none
                        else
                          none
                      else
                        none
                  else
                    none
                else
                  none
              else
                none
            else
              none
          else
            Xf d 252 25 [xr 14 0, xi l1, xi l2, xi (w32 (l3 + 1)), xr 0 0, xr 0 0, xr 0 0] [] V
        else
          none
      else
        Xf d 252 25 [xr 14 0, xi l1, xi l2, xi (w32 (l3 + 1)), xr 0 0, xr 0 0, xr 0 0] [] V
    else
      none
  else
    some (xi 0, V) := Xx_es [2, 25, 105] P_X12_groupUp 2 _ _ _ V
set_option maxRecDepth 100000 in
theorem s_X12_groupUp_105 (d : Nat) (V : XM) (l1 : Int) (l2 : Int) (l3 : Int) (l4 : Int) (l5 : Int) (l6 : Int) : Xf d 252 105 [xr 14 0, xi l1, xi l2, xi l3, xi l4, xi l5, xi l6] [] V =
    if l6 < (V 14 0 9) then
    if 0 ≤ l6 ∧ l6 < 64 then
      if (V 91 0 (l6.toNat)) = l4 then
        if 0 ≤ l6 ∧ l6 < 64 then
          Xf d 252 105 [xr 14 0, xi l1, xi l2, xi l3, xi l4, xi l5, xi (w32 (l6 + 1))] [] (xu V 91 0 (l6.toNat) l5)
        else
          none
      else
        if 0 ≤ l6 ∧ l6 < 64 then
          if 0 ≤ l6 ∧ l6 < 64 then
            Xf d 252 105 [xr 14 0, xi l1, xi l2, xi l3, xi l4, xi l5, xi (w32 (l6 + 1))] [] (xu V 91 0 (l6.toNat) (V 91 0 (l6.toNat)))
          else
            none
        else
          none
    else
      none
  else
    Xf d 252 25 [xr 14 0, xi l1, xi l2, xi (w32 (l3 + 1)), xr 0 0, xr 0 0, xr 0 0] [] V := Xx_es [2, 25, 105] P_X12_groupUp 3 _ _ _ V
set_option maxRecDepth 100000 in
theorem s_X12_told (d : Nat) (V : XM) (a : Int) (b : Int) (c : Int) (e : Int) : Yf (d + 1) 253 [xr 14 0, xi a, xi b, xi c, xi e] V =
    Xf d 253 3 [xr 14 0, xi a, xi b, xi c, xi e, xi 0] [] V := Xc_es [3] P_X12_told 1 _ V
set_option maxRecDepth 100000 in
theorem s_X12_told_3 (d : Nat) (V : XM) (l1 : Int) (l2 : Int) (l3 : Int) (l4 : Int) (l5 : Int) : Xf d 253 3 [xr 14 0, xi l1, xi l2, xi l3, xi l4, xi l5] [] V =
    if l5 < (V 14 0 22) then
    if 0 ≤ l5 ∧ l5 < 300 then
      if (V 85 0 (l5.toNat)) = l1 then
        if 0 ≤ l5 ∧ l5 < 300 then
          if (V 86 0 (l5.toNat)) = l2 then
            if 0 ≤ l5 ∧ l5 < 300 then
              if (V 87 0 (l5.toNat)) = l3 then
                if 0 ≤ l5 ∧ l5 < 300 then
                  if (V 88 0 (l5.toNat)) = l4 then
                    some (xi l5, V)
                  else
                    Xf d 253 3 [xr 14 0, xi l1, xi l2, xi l3, xi l4, xi (w32 (l5 + 1))] [] V
                else
                  none
              else
                Xf d 253 3 [xr 14 0, xi l1, xi l2, xi l3, xi l4, xi (w32 (l5 + 1))] [] V
            else
              none
          else
            Xf d 253 3 [xr 14 0, xi l1, xi l2, xi l3, xi l4, xi (w32 (l5 + 1))] [] V
        else
          none
      else
        Xf d 253 3 [xr 14 0, xi l1, xi l2, xi l3, xi l4, xi (w32 (l5 + 1))] [] V
    else
      none
  else
    some (xi (-9), V) := Xx_es [3] P_X12_told 2 _ _ _ V
set_option maxRecDepth 100000 in
theorem s_X12_earlier (d : Nat) (V : XM) (a : Int) (b : Int) : Yf (d + 1) 254 [xi a, xi b] V =
    if a = (-9) then
    some (xi b, V)
  else
    if b = (-9) then
      some (xi a, V)
    else
      if a < b then
        some (xi a, V)
      else
        some (xi b, V) := Xc_es [] P_X12_earlier 4 _ V
set_option maxRecDepth 100000 in
theorem s_X12_hasBy (d : Nat) (V : XM) (a : Int) (b : Int) (c : Int) : Yf (d + 1) 255 [xr 14 0, xi a, xi b, xi c] V =
    if 0 ≤ a ∧ a < 8 then
    if (V 90 0 (a.toNat)) = 5 then
      cv (Yf d 252 [xr 14 0, xi a, xi (V 14 0 22)] V) (fun V1 =>
        if 0 ≤ b ∧ b < 64 then
          if 0 ≤ c ∧ c < 64 then
            if (V1 91 0 (b.toNat)) = (V1 91 0 (c.toNat)) then
              Xf d 255 40 [xr 14 0, xi a, xi b, xi c, xi 0] [] V1
            else
              some (xi (-9), V1)
          else
            none
        else
          none)
    else
      ci (Yf d 253 [xr 14 0, xi 6, xi a, xi b, xi c] V) (fun x3 V2 =>
        if 0 ≤ a ∧ a < 8 then
          if (V2 90 0 (a.toNat)) = 4 then
            ci (Yf d 253 [xr 14 0, xi 6, xi a, xi c, xi b] V2) (fun x5 V4 =>
              ci (Yf d 254 [xi x3, xi x5] V4) (fun x7 V6 =>
                some (xi x7, V6)))
          else
            some (xi x3, V2)
        else
          none)
  else
    none := Xc_es [40] P_X12_hasBy 4 _ V
set_option maxRecDepth 100000 in
theorem s_X12_hasBy_40 (d : Nat) (V : XM) (l1 : Int) (l2 : Int) (l3 : Int) (l4 : Int) : Xf d 255 40 [xr 14 0, xi l1, xi l2, xi l3, xi l4] [] V =
    cv (Yf d 252 [xr 14 0, xi l1, xi (w32 (l4 + 1))] V) (fun V1 =>
    if 0 ≤ l2 ∧ l2 < 64 then
      if 0 ≤ l3 ∧ l3 < 64 then
        if (V1 91 0 (l2.toNat)) = (V1 91 0 (l3.toNat)) then
          some (xi (w32 ((w32 (l4 + 1)) - 1)), V1)
        else
          Xf d 255 40 [xr 14 0, xi l1, xi l2, xi l3, xi (w32 (l4 + 1))] [] V1
      else
        none
    else
      none) := Xx_es [40] P_X12_hasBy 1 _ _ _ V
set_option maxRecDepth 100000 in
theorem s_X12_has (d : Nat) (V : XM) (a : Int) (b : Int) (c : Int) : Yf (d + 1) 256 [xr 14 0, xi a, xi b, xi c] V =
    if b = c then
    if 0 ≤ a ∧ a < 8 then
      if (V 90 0 (a.toNat)) = 5 then
        some (xi 1, V)
      else
        some (xi 0, V)
    else
      none
  else
    ci (Yf d 255 [xr 14 0, xi a, xi b, xi c] V) (fun x2 V1 =>
      if x2 = (-9) then
        some (xi 0, V1)
      else
        some (xi 1, V1)) := Xc_es [] P_X12_has 4 _ V
set_option maxRecDepth 100000 in
theorem s_X12_deniedBy (d : Nat) (V : XM) (a : Int) (b : Int) (c : Int) : Yf (d + 1) 257 [xr 14 0, xi a, xi b, xi c] V =
    if 0 ≤ a ∧ a < 8 then
    if (V 90 0 (a.toNat)) = 5 then
      cv (Yf d 252 [xr 14 0, xi a, xi (V 14 0 22)] V) (fun V1 =>
        Xf d 257 22 [xr 14 0, xi a, xi b, xi c, xi 0] [] V1)
    else
      ci (Yf d 253 [xr 14 0, xi 7, xi a, xi b, xi c] V) (fun x3 V2 =>
        if 0 ≤ a ∧ a < 8 then
          if (V2 90 0 (a.toNat)) = 4 then
            ci (Yf d 253 [xr 14 0, xi 7, xi a, xi c, xi b] V2) (fun x5 V4 =>
              ci (Yf d 254 [xi x3, xi x5] V4) (fun x7 V6 =>
                some (xi x7, V6)))
          else
            some (xi x3, V2)
        else
          none)
  else
    none := Xc_es [22] P_X12_deniedBy 4 _ V
set_option maxRecDepth 100000 in
theorem s_X12_deniedBy_22 (d : Nat) (V : XM) (l1 : Int) (l2 : Int) (l3 : Int) (l4 : Int) : Xf d 257 22 [xr 14 0, xi l1, xi l2, xi l3, xi l4] [] V =
    if l4 < (V 14 0 22) then
    if 0 ≤ l4 ∧ l4 < 300 then
      if (V 85 0 (l4.toNat)) = 7 then
        if 0 ≤ l4 ∧ l4 < 300 then
          if (V 86 0 (l4.toNat)) = l1 then
            if 0 ≤ l4 ∧ l4 < 300 then
              if 0 ≤ V 87 0 (l4.toNat) ∧ V 87 0 (l4.toNat) < 64 then
                if 0 ≤ l2 ∧ l2 < 64 then
                  if (V 91 0 ((V 87 0 (l4.toNat)).toNat)) = (V 91 0 (l2.toNat)) then
                    if 0 ≤ l4 ∧ l4 < 300 then
                      if 0 ≤ V 88 0 (l4.toNat) ∧ V 88 0 (l4.toNat) < 64 then
                        if 0 ≤ l3 ∧ l3 < 64 then
                          if (V 91 0 ((V 88 0 (l4.toNat)).toNat)) = (V 91 0 (l3.toNat)) then
                            some (xi l4, V)
                          else
                            if 0 ≤ l4 ∧ l4 < 300 then
                              if 0 ≤ V 87 0 (l4.toNat) ∧ V 87 0 (l4.toNat) < 64 then
                                if 0 ≤ l3 ∧ l3 < 64 then
                                  if (V 91 0 ((V 87 0 (l4.toNat)).toNat)) = (V 91 0 (l3.toNat)) then
                                    if 0 ≤ l4 ∧ l4 < 300 then
                                      if 0 ≤ V 88 0 (l4.toNat) ∧ V 88 0 (l4.toNat) < 64 then
                                        if 0 ≤ l2 ∧ l2 < 64 then
                                          if (V 91 0 ((V 88 0 (l4.toNat)).toNat)) = (V 91 0 (l2.toNat)) then
                                            some (xi l4, V)
                                          else
                                            Xf d 257 22 [xr 14 0, xi l1, xi l2, xi l3, xi (w32 (l4 + 1))] [] V
                                        else
                                          none
                                      else
                                        none
                                    else
                                      none
                                  else
                                    Xf d 257 22 [xr 14 0, xi l1, xi l2, xi l3, xi (w32 (l4 + 1))] [] V
                                else
                                  none
                              else
                                none
                            else
                              none
                        else
                          none
                      else
                        none
                    else
                      none
                  else
                    if 0 ≤ l4 ∧ l4 < 300 then
                      if 0 ≤ V 87 0 (l4.toNat) ∧ V 87 0 (l4.toNat) < 64 then
                        if 0 ≤ l3 ∧ l3 < 64 then
                          if (V 91 0 ((V 87 0 (l4.toNat)).toNat)) = (V 91 0 (l3.toNat)) then
                            if 0 ≤ l4 ∧ l4 < 300 then
                              if 0 ≤ V 88 0 (l4.toNat) ∧ V 88 0 (l4.toNat) < 64 then
                                if 0 ≤ l2 ∧ l2 < 64 then
                                  if (V 91 0 ((V 88 0 (l4.toNat)).toNat)) = (V 91 0 (l2.toNat)) then
                                    some (xi l4, V)
                                  else
                                    Xf d 257 22 [xr 14 0, xi l1, xi l2, xi l3, xi (w32 (l4 + 1))] [] V
                                else
                                  none
                              else
                                none
                            else
                              none
                          else
                            Xf d 257 22 [xr 14 0, xi l1, xi l2, xi l3, xi (w32 (l4 + 1))] [] V
                        else
                          none
                      else
                        none
                    else
                      none
                else
                  none
              else
                none
            else
              none
          else
            Xf d 257 22 [xr 14 0, xi l1, xi l2, xi l3, xi (w32 (l4 + 1))] [] V
        else
          none
      else
        Xf d 257 22 [xr 14 0, xi l1, xi l2, xi l3, xi (w32 (l4 + 1))] [] V
    else
      none
  else
    some (xi (-9), V) := Xx_es [22] P_X12_deniedBy 3 _ _ _ V
set_option maxRecDepth 100000 in
theorem s_X12_oneOnly (d : Nat) (V : XM) (a : Int) (b : Int) (c : Int) : Yf (d + 1) 258 [xr 14 0, xi a, xi b, xi c] V =
    if 0 ≤ a ∧ a < 8 then
    Xf d 258 11 [xr 14 0, xi a, xi b, xi c, xi (V 90 0 (a.toNat)), xi 0] [] V
  else
    none := Xc_es [11, 77] P_X12_oneOnly 1 _ V
set_option maxRecDepth 100000 in
theorem s_X12_oneOnly_11 (d : Nat) (V : XM) (l1 : Int) (l2 : Int) (l3 : Int) (l4 : Int) (l5 : Int) : Xf d 258 11 [xr 14 0, xi l1, xi l2, xi l3, xi l4, xi l5] [] V =
    if l5 < (V 14 0 22) then
    if l4 = 0 then
      if 0 ≤ l5 ∧ l5 < 300 then
        if (V 85 0 (l5.toNat)) = 6 then
          if 0 ≤ l5 ∧ l5 < 300 then
            if (V 86 0 (l5.toNat)) = l1 then
              if 0 ≤ l5 ∧ l5 < 300 then
                if (V 87 0 (l5.toNat)) = l2 then
                  some (xi l5, V)
                else
                  Xf d 258 11 [xr 14 0, xi l1, xi l2, xi l3, xi l4, xi (w32 (l5 + 1))] [] V
              else
                none
            else
              Xf d 258 11 [xr 14 0, xi l1, xi l2, xi l3, xi l4, xi (w32 (l5 + 1))] [] V
          else
            none
        else
          Xf d 258 11 [xr 14 0, xi l1, xi l2, xi l3, xi l4, xi (w32 (l5 + 1))] [] V
      else
        none
    else
      if l4 = 2 then
        if 0 ≤ l5 ∧ l5 < 300 then
          if (V 85 0 (l5.toNat)) = 6 then
            if 0 ≤ l5 ∧ l5 < 300 then
              if (V 86 0 (l5.toNat)) = l1 then
                if 0 ≤ l5 ∧ l5 < 300 then
                  if (V 87 0 (l5.toNat)) = l2 then
                    some (xi l5, V)
                  else
                    Xf d 258 11 [xr 14 0, xi l1, xi l2, xi l3, xi l4, xi (w32 (l5 + 1))] [] V
                else
                  none
              else
                Xf d 258 11 [xr 14 0, xi l1, xi l2, xi l3, xi l4, xi (w32 (l5 + 1))] [] V
            else
              none
          else
            Xf d 258 11 [xr 14 0, xi l1, xi l2, xi l3, xi l4, xi (w32 (l5 + 1))] [] V
        else
          none
      else
        Xf d 258 77 [xr 14 0, xi l1, xr 0 0, xi l3, xi l4, xi 0] [] V
  else
    Xf d 258 77 [xr 14 0, xi l1, xr 0 0, xi l3, xi l4, xi 0] [] V := Xx_es [11, 77] P_X12_oneOnly 3 _ _ _ V
set_option maxRecDepth 100000 in
theorem s_X12_oneOnly_77 (d : Nat) (V : XM) (l1 : Int) (l3 : Int) (l4 : Int) (l5 : Int) : Xf d 258 77 [xr 14 0, xi l1, xr 0 0, xi l3, xi l4, xi l5] [] V =
    if l5 < (V 14 0 22) then
    if l4 < 2 then
      if 0 ≤ l5 ∧ l5 < 300 then
        if (V 85 0 (l5.toNat)) = 6 then
          if 0 ≤ l5 ∧ l5 < 300 then
            if (V 86 0 (l5.toNat)) = l1 then
              if 0 ≤ l5 ∧ l5 < 300 then
                if (V 88 0 (l5.toNat)) = l3 then
                  some (xi l5, V)
                else
                  Xf d 258 77 [xr 14 0, xi l1, xr 0 0, xi l3, xi l4, xi (w32 (l5 + 1))] [] V
              else
                none
            else
              Xf d 258 77 [xr 14 0, xi l1, xr 0 0, xi l3, xi l4, xi (w32 (l5 + 1))] [] V
          else
            none
        else
          Xf d 258 77 [xr 14 0, xi l1, xr 0 0, xi l3, xi l4, xi (w32 (l5 + 1))] [] V
      else
        none
    else
      some (xi (-9), V)
  else
    some (xi (-9), V) := Xx_es [11, 77] P_X12_oneOnly 2 _ _ _ V
set_option maxRecDepth 100000 in
theorem s_X12_relation (d : Nat) (V : XM) (a : Int) : Yf (d + 1) 259 [xr 14 0, xi a] V =
    ci (Yf d 189 [xl a, xl 0, xl 5] V) (fun x2 V1 =>
    if x2 = 0 then
      some (xi (-2), V1)
    else
      if (V1 14 0 29) = 8 then
        some (xi (-4), V1)
      else
        if 0 ≤ V1 14 0 29 ∧ V1 14 0 29 < 8 then
          some (xi (w32 ((w32 ((V1 14 0 29) + 1)) - 1)), (xu (xu V1 90 0 ((V1 14 0 29).toNat) a) 14 0 29 (w32 ((V1 14 0 29) + 1))))
        else
          none) := Xc_es [] P_X12_relation 3 _ V
set_option maxRecDepth 100000 in
theorem s_X12_isCouple (d : Nat) (V : XM) (a : Int) (b : Int) (c : Int) : Yf (d + 1) 260 [xr 14 0, xi a, xi b, xi c] V =
    ci (Yf d 251 [xr 14 0, xi a] V) (fun x2 V1 =>
    if x2 = 0 then
      some (xi 0, V1)
    else
      ci (Yf d 203 [xr 14 0, xl b] V1) (fun x4 V3 =>
        if x4 = 0 then
          some (xi 0, V3)
        else
          ci (Yf d 203 [xr 14 0, xl c] V3) (fun x6 V5 =>
            if x6 = 0 then
              some (xi 0, V5)
            else
              some (xi 1, V5)))) := Xc_es [] P_X12_isCouple 3 _ V
set_option maxRecDepth 100000 in
theorem s_X12_relate (d : Nat) (V : XM) (a : Int) (b : Int) (c : Int) : Yf (d + 1) 261 [xr 14 0, xi a, xi b, xi c] V =
    ci (Yf d 260 [xr 14 0, xi a, xi b, xi c] V) (fun x2 V1 =>
    if x2 = 0 then
      some (xi (-1), V1)
    else
      if b = c then
        some (xi (-3), V1)
      else
        ci (Yf d 256 [xr 14 0, xi a, xi b, xi c] V1) (fun x4 V3 =>
          if x4 = 0 then
            if (V3 14 0 22) = 300 then
              some (xi (-4), V3)
            else
              ci (Yf d 257 [xr 14 0, xi a, xi b, xi c] V3) (fun x6 V5 =>
                if x6 = (-9) then
                  ci (Yf d 258 [xr 14 0, xi a, xi b, xi c] V5) (fun x8 V7 =>
                    if x8 = (-9) then
                      ci (Yf d 210 [xr 14 0, xi 6, xi a, xi b, xi c] V7) (fun x10 V9 =>
                        some (xi x10, V9))
                    else
                      ci (Yf d 211 [xi x8] V7) (fun x12 V11 =>
                        some (xi x12, V11)))
                else
                  if x6 = (-9) then
                    ci (Yf d 210 [xr 14 0, xi 6, xi a, xi b, xi c] V5) (fun x14 V13 =>
                      some (xi x14, V13))
                  else
                    ci (Yf d 211 [xi x6] V5) (fun x16 V15 =>
                      some (xi x16, V15)))
          else
            some (xi (-3), V3))) := Xc_es [] P_X12_relate 8 _ V
set_option maxRecDepth 100000 in
theorem s_X12_deny (d : Nat) (V : XM) (a : Int) (b : Int) (c : Int) : Yf (d + 1) 262 [xr 14 0, xi a, xi b, xi c] V =
    ci (Yf d 260 [xr 14 0, xi a, xi b, xi c] V) (fun x2 V1 =>
    if x2 = 0 then
      some (xi (-1), V1)
    else
      if b = c then
        some (xi (-3), V1)
      else
        ci (Yf d 253 [xr 14 0, xi 7, xi a, xi b, xi c] V1) (fun x4 V3 =>
          if x4 = (-9) then
            if (V3 14 0 22) = 300 then
              some (xi (-4), V3)
            else
              ci (Yf d 255 [xr 14 0, xi a, xi b, xi c] V3) (fun x6 V5 =>
                if x6 = (-9) then
                  ci (Yf d 210 [xr 14 0, xi 7, xi a, xi b, xi c] V5) (fun x8 V7 =>
                    some (xi x8, V7))
                else
                  ci (Yf d 211 [xi x6] V5) (fun x10 V9 =>
                    some (xi x10, V9)))
          else
            some (xi (-3), V3))) := Xc_es [] P_X12_deny 6 _ V
set_option maxRecDepth 100000 in
theorem s_X12_related (d : Nat) (V : XM) (a : Int) (b : Int) (c : Int) : Yf (d + 1) 263 [xr 14 0, xi a, xi b, xi c] V =
    ci (Yf d 260 [xr 14 0, xi a, xi b, xi c] V) (fun x2 V1 =>
    if x2 = 0 then
      some (xi (-1), V1)
    else
      ci (Yf d 256 [xr 14 0, xi a, xi b, xi c] V1) (fun x4 V3 =>
        if x4 = 0 then
          some (xi 0, V3)
        else
          some (xi 1, V3))) := Xc_es [] P_X12_related 4 _ V
set_option maxRecDepth 100000 in
theorem s_X12_couples (d : Nat) (V : XM) (a : Int) : Yf (d + 1) 264 [xr 14 0, xi a] V =
    if 0 ≤ a ∧ a < 8 then
    if (V 90 0 (a.toNat)) = 5 then
      cv (Yf d 252 [xr 14 0, xi a, xi (V 14 0 22)] V) (fun V1 =>
        Xf d 264 21 [xr 14 0, xi a, xi 0, xr 0 0] [] V1)
    else
      Xf d 264 21 [xr 14 0, xi a, xi 0, xr 0 0] [] V
  else
    none := Xc_es [21, 31, 99] P_X12_couples 2 _ V
set_option maxRecDepth 100000 in
theorem s_X12_couples_21 (d : Nat) (V : XM) (l1 : Int) (l2 : Int) : Xf d 264 21 [xr 14 0, xi l1, xi l2, xr 0 0] [] V =
    if l2 < (V 14 0 9) then
    Xf d 264 31 [xr 14 0, xi l1, xi l2, xi 0] [] V
  else
    Xf d 264 99 [xr 14 0, xi l1, xi 0, xr 0 0] [] V := Xx_es [21, 31, 99] P_X12_couples 2 _ _ _ V
set_option maxRecDepth 100000 in
theorem s_X12_couples_99 (d : Nat) (V : XM) (l1 : Int) (l2 : Int) : Xf d 264 99 [xr 14 0, xi l1, xi l2, xr 0 0] [] V =
    if l2 < (V 14 0 22) then
    if 0 ≤ l1 ∧ l1 < 8 then
      if (V 90 0 (l1.toNat)) = 5 then
        some (xi 0, V)
      else
        if 0 ≤ l2 ∧ l2 < 300 then
          if (V 85 0 (l2.toNat)) = 6 then
            if 0 ≤ l2 ∧ l2 < 300 then
              if (V 86 0 (l2.toNat)) = l1 then
                if 0 ≤ l2 ∧ l2 < 300 then
                  if 0 ≤ l2 ∧ l2 < 300 then
                    if 0 ≤ w32 ((w32 (64 * (V 87 0 (l2.toNat)))) + (V 88 0 (l2.toNat))) ∧ w32 ((w32 (64 * (V 87 0 (l2.toNat)))) + (V 88 0 (l2.toNat))) < 4096 then
                      if 0 ≤ l2 ∧ l2 < 300 then
                        if 0 ≤ l2 ∧ l2 < 300 then
                          if 0 ≤ w32 ((w32 (64 * (V 88 0 (l2.toNat)))) + (V 87 0 (l2.toNat))) ∧ w32 ((w32 (64 * (V 88 0 (l2.toNat)))) + (V 87 0 (l2.toNat))) < 4096 then
                            if 0 ≤ l1 ∧ l1 < 8 then
                              if (V 90 0 (l1.toNat)) = 4 then
                                if 0 ≤ w32 ((w32 (64 * (V 88 0 (l2.toNat)))) + (V 87 0 (l2.toNat))) ∧ w32 ((w32 (64 * (V 88 0 (l2.toNat)))) + (V 87 0 (l2.toNat))) < 4096 then
                                  Xf d 264 99 [xr 14 0, xi l1, xi (w32 (l2 + 1)), xr 0 0] [] (xu (xu V 94 0 ((w32 ((w32 (64 * (V 87 0 (l2.toNat)))) + (V 88 0 (l2.toNat)))).toNat) 1) 94 0 ((w32 ((w32 (64 * (V 88 0 (l2.toNat)))) + (V 87 0 (l2.toNat)))).toNat) ((iOr ((xu V 94 0 ((w32 ((w32 (64 * (V 87 0 (l2.toNat)))) + (V 88 0 (l2.toNat)))).toNat) 1) 94 0 ((w32 ((w32 (64 * (V 88 0 (l2.toNat)))) + (V 87 0 (l2.toNat)))).toNat)) 1) % 2))
                                else
                                  none
                              else
                                if 0 ≤ w32 ((w32 (64 * (V 88 0 (l2.toNat)))) + (V 87 0 (l2.toNat))) ∧ w32 ((w32 (64 * (V 88 0 (l2.toNat)))) + (V 87 0 (l2.toNat))) < 4096 then
                                  Xf d 264 99 [xr 14 0, xi l1, xi (w32 (l2 + 1)), xr 0 0] [] (xu (xu V 94 0 ((w32 ((w32 (64 * (V 87 0 (l2.toNat)))) + (V 88 0 (l2.toNat)))).toNat) 1) 94 0 ((w32 ((w32 (64 * (V 88 0 (l2.toNat)))) + (V 87 0 (l2.toNat)))).toNat) ((iOr ((xu V 94 0 ((w32 ((w32 (64 * (V 87 0 (l2.toNat)))) + (V 88 0 (l2.toNat)))).toNat) 1) 94 0 ((w32 ((w32 (64 * (V 88 0 (l2.toNat)))) + (V 87 0 (l2.toNat)))).toNat)) 0) % 2))
                                else
                                  none
                            else
                              none
                          else
                            none
                        else
                          none
                      else
                        none
                    else
                      none
                  else
                    none
                else
                  none
              else
                Xf d 264 99 [xr 14 0, xi l1, xi (w32 (l2 + 1)), xr 0 0] [] V
            else
              none
          else
            Xf d 264 99 [xr 14 0, xi l1, xi (w32 (l2 + 1)), xr 0 0] [] V
        else
          none
    else
      none
  else
    some (xi 0, V) := Xx_es [21, 31, 99] P_X12_couples 4 _ _ _ V
set_option maxRecDepth 100000 in
theorem s_X12_couples_31 (d : Nat) (V : XM) (l1 : Int) (l2 : Int) (l3 : Int) : Xf d 264 31 [xr 14 0, xi l1, xi l2, xi l3] [] V =
    if l3 < (V 14 0 9) then
    if 0 ≤ l1 ∧ l1 < 8 then
      if (V 90 0 (l1.toNat)) = 5 then
        if l2 = l3 then
          if 0 ≤ w32 ((w32 (64 * l2)) + l3) ∧ w32 ((w32 (64 * l2)) + l3) < 4096 then
            Xf d 264 31 [xr 14 0, xi l1, xi l2, xi (w32 (l3 + 1))] [] (xu V 94 0 ((w32 ((w32 (64 * l2)) + l3)).toNat) 0)
          else
            none
        else
          if 0 ≤ l2 ∧ l2 < 64 then
            if 0 ≤ l3 ∧ l3 < 64 then
              if (V 91 0 (l2.toNat)) = (V 91 0 (l3.toNat)) then
                if 0 ≤ w32 ((w32 (64 * l2)) + l3) ∧ w32 ((w32 (64 * l2)) + l3) < 4096 then
                  Xf d 264 31 [xr 14 0, xi l1, xi l2, xi (w32 (l3 + 1))] [] (xu V 94 0 ((w32 ((w32 (64 * l2)) + l3)).toNat) 1)
                else
                  none
              else
                if 0 ≤ w32 ((w32 (64 * l2)) + l3) ∧ w32 ((w32 (64 * l2)) + l3) < 4096 then
                  Xf d 264 31 [xr 14 0, xi l1, xi l2, xi (w32 (l3 + 1))] [] (xu V 94 0 ((w32 ((w32 (64 * l2)) + l3)).toNat) 0)
                else
                  none
            else
              none
          else
            none
      else
        if 0 ≤ w32 ((w32 (64 * l2)) + l3) ∧ w32 ((w32 (64 * l2)) + l3) < 4096 then
          Xf d 264 31 [xr 14 0, xi l1, xi l2, xi (w32 (l3 + 1))] [] (xu V 94 0 ((w32 ((w32 (64 * l2)) + l3)).toNat) 0)
        else
          none
    else
      none
  else
    Xf d 264 21 [xr 14 0, xi l1, xi (w32 (l2 + 1)), xr 0 0] [] V := Xx_es [21, 31, 99] P_X12_couples 3 _ _ _ V
end
section
set_option maxRecDepth 100000 in
theorem s_X12_goBack (d : Nat) (V : XM) (a : Int) : Yf (d + 1) 265 [xr 14 0, xi a] V =
    Xf d 265 2 [xr 14 0, xi a, xi 0, xr 0 0, xr 0 0] [] V := Xc_es [2, 42, 50] P_X12_goBack 1 _ V
set_option maxRecDepth 100000 in
theorem s_X12_goBack_2 (d : Nat) (V : XM) (l1 : Int) (l2 : Int) : Xf d 265 2 [xr 14 0, xi l1, xi l2, xr 0 0, xr 0 0] [] V =
    if l2 < (V 14 0 9) then
    if 0 ≤ l2 ∧ l2 < 64 then
      Xf d 265 2 [xr 14 0, xi l1, xi (w32 (l2 + 1)), xr 0 0, xr 0 0] [] (xu V 92 0 (l2.toNat) (-9))
    else
      none
  else
    if 0 ≤ l1 ∧ l1 < 64 then
      Xf d 265 42 [xr 14 0, xr 0 0, xi 1, xi 0, xr 0 0] [] (xu (xu V 92 0 (l1.toNat) 0) 93 0 0 l1)
    else
      none := Xx_es [2, 42, 50] P_X12_goBack 2 _ _ _ V
set_option maxRecDepth 100000 in
theorem s_X12_goBack_42 (d : Nat) (V : XM) (l2 : Int) (l3 : Int) : Xf d 265 42 [xr 14 0, xr 0 0, xi l2, xi l3, xr 0 0] [] V =
    if l3 < l2 then
    Xf d 265 50 [xr 14 0, xr 0 0, xi l2, xi l3, xi 0] [] V
  else
    some (xi 0, V) := Xx_es [2, 42, 50] P_X12_goBack 2 _ _ _ V
set_option maxRecDepth 100000 in
theorem s_X12_goBack_50 (d : Nat) (V : XM) (l2 : Int) (l3 : Int) (l4 : Int) : Xf d 265 50 [xr 14 0, xr 0 0, xi l2, xi l3, xi l4] [] V =
    if l4 < (V 14 0 9) then
    if 0 ≤ l4 ∧ l4 < 64 then
      if (V 92 0 (l4.toNat)) = (-9) then
        if 0 ≤ l3 ∧ l3 < 64 then
          if 0 ≤ w32 ((w32 (64 * l4)) + (V 93 0 (l3.toNat))) ∧ w32 ((w32 (64 * l4)) + (V 93 0 (l3.toNat))) < 4096 then
            if (V 94 0 ((w32 ((w32 (64 * l4)) + (V 93 0 (l3.toNat)))).toNat)) = 0 then
              Xf d 265 50 [xr 14 0, xr 0 0, xi l2, xi l3, xi (w32 (l4 + 1))] [] V
            else
              if 0 ≤ l3 ∧ l3 < 64 then
                if 0 ≤ V 93 0 (l3.toNat) ∧ V 93 0 (l3.toNat) < 64 then
                  if 0 ≤ l4 ∧ l4 < 64 then
                    if 0 ≤ l2 ∧ l2 < 64 then
                      Xf d 265 50 [xr 14 0, xr 0 0, xi (w32 (l2 + 1)), xi l3, xi (w32 (l4 + 1))] [] (xu (xu V 92 0 (l4.toNat) (w32 ((V 92 0 ((V 93 0 (l3.toNat)).toNat)) + 1))) 93 0 (l2.toNat) l4)
                    else
                      none
                  else
                    none
                else
                  none
              else
                none
          else
            none
        else
          none
      else
        Xf d 265 50 [xr 14 0, xr 0 0, xi l2, xi l3, xi (w32 (l4 + 1))] [] V
    else
      none
  else
    Xf d 265 42 [xr 14 0, xr 0 0, xi l2, xi (w32 (l3 + 1)), xr 0 0] [] V := Xx_es [2, 42, 50] P_X12_goBack 2 _ _ _ V
set_option maxRecDepth 100000 in
theorem s_X12_along (d : Nat) (V : XM) (a : Int) (b : Int) (c : Int) : Yf (d + 1) 266 [xr 14 0, xi a, xi b, xi c] V =
    ci (Yf d 260 [xr 14 0, xi a, xi b, xi c] V) (fun x2 V1 =>
    if x2 = 0 then
      some (xi (-1), V1)
    else
      cv (Yf d 264 [xr 14 0, xi a] V1) (fun V3 =>
        cv (Yf d 265 [xr 14 0, xi c] V3) (fun V4 =>
          if 0 ≤ b ∧ b < 64 then
            some (xi (V4 92 0 (b.toNat)), V4)
          else
            none))) := Xc_es [] P_X12_along 2 _ V
set_option maxRecDepth 100000 in
theorem s_X12_next (d : Nat) (V : XM) (a : Int) (b : Int) (c : Int) : Yf (d + 1) 267 [xr 14 0, xi a, xi b, xi c] V =
    ci (Yf d 260 [xr 14 0, xi a, xi b, xi c] V) (fun x2 V1 =>
    if x2 = 0 then
      some (xi (-1), V1)
    else
      cv (Yf d 264 [xr 14 0, xi a] V1) (fun V3 =>
        cv (Yf d 265 [xr 14 0, xi c] V3) (fun V4 =>
          if b = c then
            some (xi (-9), V4)
          else
            if 0 ≤ b ∧ b < 64 then
              if (V4 92 0 (b.toNat)) = (-9) then
                some (xi (-9), V4)
              else
                Xf d 267 44 [xr 14 0, xr 0 0, xi b, xr 0 0, xi 0] [] V4
            else
              none))) := Xc_es [44] P_X12_next 3 _ V
set_option maxRecDepth 100000 in
theorem s_X12_next_44 (d : Nat) (V : XM) (l2 : Int) (l4 : Int) : Xf d 267 44 [xr 14 0, xr 0 0, xi l2, xr 0 0, xi l4] [] V =
    if 0 ≤ w32 ((w32 (64 * l2)) + l4) ∧ w32 ((w32 (64 * l2)) + l4) < 4096 then
    if (V 94 0 ((w32 ((w32 (64 * l2)) + l4)).toNat)) = 0 then
      Xf d 267 44 [xr 14 0, xr 0 0, xi l2, xr 0 0, xi (w32 (l4 + 1))] [] V
    else
      if 0 ≤ l4 ∧ l4 < 64 then
        if 0 ≤ l2 ∧ l2 < 64 then
          if (V 92 0 (l4.toNat)) = (w32 ((V 92 0 (l2.toNat)) - 1)) then
            some (xi l4, V)
          else
            Xf d 267 44 [xr 14 0, xr 0 0, xi l2, xr 0 0, xi (w32 (l4 + 1))] [] V
        else
          none
      else
        none
  else
    none := Xx_es [44] P_X12_next 2 _ _ _ V
set_option maxRecDepth 100000 in
theorem s_X12_isRoom (d : Nat) (V : XM) (a : Int) : Yf (d + 1) 268 [xr 14 0, xi a] V =
    ci (Yf d 203 [xr 14 0, xl a] V) (fun x2 V1 =>
    if x2 = 0 then
      some (xi 0, V1)
    else
      ci (Yf d 204 [xr 14 0, xi a] V1) (fun x4 V3 =>
        if x4 = 1 then
          some (xi 1, V3)
        else
          some (xi 0, V3))) := Xc_es [] P_X12_isRoom 3 _ V
set_option maxRecDepth 100000 in
theorem s_X12_lead (d : Nat) (V : XM) (a : Int) (b : Int) (c : Int) (e : Int) (f : Int) : Yf (d + 1) 269 [xr 14 0, xi a, xi b, xi c, xi e, xi f] V =
    if 0 ≤ a ∧ a < 512 then
    if 0 ≤ a ∧ a < 512 then
      if 0 ≤ a ∧ a < 512 then
        if 0 ≤ a ∧ a < 512 then
          some (xi 0, (xu (xu (xu (xu V 95 0 (a.toNat) b) 96 0 (a.toNat) c) 97 0 (a.toNat) e) 98 0 (a.toNat) f))
        else
          none
      else
        none
    else
      none
  else
    none := Xc_es [] P_X12_lead 1 _ V
set_option maxRecDepth 100000 in
theorem s_X12_exit (d : Nat) (V : XM) (a : Int) (b : Int) (c : Int) : Yf (d + 1) 270 [xr 14 0, xi a, xi b, xi c] V =
    ci (Yf d 268 [xr 14 0, xi a] V) (fun x2 V1 =>
    if x2 = 0 then
      some (xi (-1), V1)
    else
      if c = (-9) then
        ci (Yf d 189 [xl b, xl 0, xl 7] V1) (fun x4 V3 =>
          if x4 = 0 then
            some (xi (-2), V3)
          else
            if 0 ≤ w32 ((w32 (8 * a)) + b) ∧ w32 ((w32 (8 * a)) + b) < 512 then
              if (V3 95 0 ((w32 ((w32 (8 * a)) + b)).toNat)) = 2 then
                if 0 ≤ w32 ((w32 (8 * a)) + b) ∧ w32 ((w32 (8 * a)) + b) < 512 then
                  if (V3 96 0 ((w32 ((w32 (8 * a)) + b)).toNat)) = c then
                    some (xi (-3), V3)
                  else
                    Xf d 270 83 [xr 14 0, xi a, xi b, xi c, xi (w32 ((w32 (8 * a)) + b)), xr 0 0, xr 0 0] [] V3
                else
                  none
              else
                if 0 ≤ w32 ((w32 (8 * a)) + b) ∧ w32 ((w32 (8 * a)) + b) < 512 then
                  if (V3 95 0 ((w32 ((w32 (8 * a)) + b)).toNat)) = 4 then
                    if 0 ≤ w32 ((w32 (8 * a)) + b) ∧ w32 ((w32 (8 * a)) + b) < 512 then
                      if (V3 96 0 ((w32 ((w32 (8 * a)) + b)).toNat)) = c then
                        some (xi (-3), V3)
                      else
                        Xf d 270 83 [xr 14 0, xi a, xi b, xi c, xi (w32 ((w32 (8 * a)) + b)), xr 0 0, xr 0 0] [] V3
                    else
                      none
                  else
                    Xf d 270 83 [xr 14 0, xi a, xi b, xi c, xi (w32 ((w32 (8 * a)) + b)), xr 0 0, xr 0 0] [] V3
                else
                  none
            else
              none)
      else
        ci (Yf d 268 [xr 14 0, xi c] V1) (fun x6 V5 =>
          if x6 = 0 then
            some (xi (-1), V5)
          else
            ci (Yf d 189 [xl b, xl 0, xl 7] V5) (fun x8 V7 =>
              if x8 = 0 then
                some (xi (-2), V7)
              else
                if 0 ≤ w32 ((w32 (8 * a)) + b) ∧ w32 ((w32 (8 * a)) + b) < 512 then
                  if (V7 95 0 ((w32 ((w32 (8 * a)) + b)).toNat)) = 2 then
                    if 0 ≤ w32 ((w32 (8 * a)) + b) ∧ w32 ((w32 (8 * a)) + b) < 512 then
                      if (V7 96 0 ((w32 ((w32 (8 * a)) + b)).toNat)) = c then
                        some (xi (-3), V7)
                      else
                        Xf d 270 83 [xr 14 0, xi a, xi b, xi c, xi (w32 ((w32 (8 * a)) + b)), xr 0 0, xr 0 0] [] V7
                    else
                      none
                  else
                    if 0 ≤ w32 ((w32 (8 * a)) + b) ∧ w32 ((w32 (8 * a)) + b) < 512 then
                      if (V7 95 0 ((w32 ((w32 (8 * a)) + b)).toNat)) = 4 then
                        if 0 ≤ w32 ((w32 (8 * a)) + b) ∧ w32 ((w32 (8 * a)) + b) < 512 then
                          if (V7 96 0 ((w32 ((w32 (8 * a)) + b)).toNat)) = c then
                            some (xi (-3), V7)
                          else
                            Xf d 270 83 [xr 14 0, xi a, xi b, xi c, xi (w32 ((w32 (8 * a)) + b)), xr 0 0, xr 0 0] [] V7
                        else
                          none
                      else
                        Xf d 270 83 [xr 14 0, xi a, xi b, xi c, xi (w32 ((w32 (8 * a)) + b)), xr 0 0, xr 0 0] [] V7
                    else
                      none
                else
                  none))) := Xc_es [83, 143] P_X12_exit 4 _ V
set_option maxRecDepth 100000 in
theorem s_X12_exit_83 (d : Nat) (V : XM) (l1 : Int) (l2 : Int) (l3 : Int) (l4 : Int) : Xf d 270 83 [xr 14 0, xi l1, xi l2, xi l3, xi l4, xr 0 0, xr 0 0] [] V =
    if (V 14 0 22) = 300 then
    some (xi (-4), V)
  else
    if 0 ≤ l4 ∧ l4 < 512 then
      if 1 < (V 95 0 (l4.toNat)) then
        if 0 ≤ l4 ∧ l4 < 512 then
          ci (Yf d 211 [xi (V 97 0 (l4.toNat))] V) (fun x2 V1 =>
            some (xi x2, V1))
        else
          none
      else
        ci (Yf d 210 [xr 14 0, xi 8, xi l1, xi l2, xi l3] V) (fun x4 V3 =>
          if l3 = (-9) then
            Xf d 270 143 [xr 14 0, xi l1, xi l2, xi l3, xr 0 0, xi x4, xr 0 0] [xi 4, xi l4, xr 14 0] V3
          else
            Xf d 270 143 [xr 14 0, xi l1, xi l2, xi l3, xr 0 0, xi x4, xr 0 0] [xi 2, xi l4, xr 14 0] V3)
    else
      none := Xx_es [83, 143] P_X12_exit 4 _ _ _ V
set_option maxRecDepth 100000 in
theorem s_X12_exit_143 (d : Nat) (V : XM) (l1 : Int) (l2 : Int) (l3 : Int) (l5 : Int) (y0 : Int) (y1 : Int) : Xf d 270 143 [xr 14 0, xi l1, xi l2, xi l3, xr 0 0, xi l5, xr 0 0] [xi y0, xi y1, xr 14 0] V =
    cv (Yf d 269 [xr 14 0, xi y1, xi y0, xi l3, xi l5, xi (-9)] V) (fun V1 =>
    if l3 = (-9) then
      some (xi l5, V1)
    else
      if 0 ≤ w32 ((w32 (8 * l3)) + (iXor l2 1)) ∧ w32 ((w32 (8 * l3)) + (iXor l2 1)) < 512 then
        if (V1 95 0 ((w32 ((w32 (8 * l3)) + (iXor l2 1))).toNat)) = 0 then
          cv (Yf d 269 [xr 14 0, xi (w32 ((w32 (8 * l3)) + (iXor l2 1))), xi 1, xi l1, xi (-9), xi (-9)] V1) (fun V2 =>
            some (xi l5, V2))
        else
          some (xi l5, V1)
      else
        none) := Xx_es [83, 143] P_X12_exit 2 _ _ _ V
set_option maxRecDepth 100000 in
theorem s_X12_door (d : Nat) (V : XM) (a : Int) (b : Int) (c : Int) (e : Int) : Yf (d + 1) 271 [xr 14 0, xi a, xi b, xi c, xi e] V =
    ci (Yf d 203 [xr 14 0, xl a] V) (fun x2 V1 =>
    if x2 = 0 then
      some (xi (-1), V1)
    else
      ci (Yf d 268 [xr 14 0, xi b] V1) (fun x4 V3 =>
        if x4 = 0 then
          some (xi (-1), V3)
        else
          ci (Yf d 268 [xr 14 0, xi e] V3) (fun x6 V5 =>
            if x6 = 0 then
              some (xi (-1), V5)
            else
              ci (Yf d 189 [xl c, xl 0, xl 7] V5) (fun x8 V7 =>
                if x8 = 0 then
                  some (xi (-2), V7)
                else
                  ci (Yf d 204 [xr 14 0, xi a] V7) (fun x10 V9 =>
                    if x10 = 2 then
                      if b = e then
                        some (xi (-3), V9)
                      else
                        if (V9 14 0 22) = 300 then
                          some (xi (-4), V9)
                        else
                          Xf d 271 77 [xr 14 0, xi a, xi b, xi c, xi e, xi 0, xr 0 0, xr 0 0] [] V9
                    else
                      some (xi (-3), V9)))))) := Xc_es [77] P_X12_door 5 _ V
set_option maxRecDepth 100000 in
theorem s_X12_door_77 (d : Nat) (V : XM) (l1 : Int) (l2 : Int) (l3 : Int) (l4 : Int) (l5 : Int) : Xf d 271 77 [xr 14 0, xi l1, xi l2, xi l3, xi l4, xi l5, xr 0 0, xr 0 0] [] V =
    if l5 < (V 14 0 22) then
    if 0 ≤ l5 ∧ l5 < 300 then
      if (V 85 0 (l5.toNat)) = 9 then
        if 0 ≤ l5 ∧ l5 < 300 then
          if (V 86 0 (l5.toNat)) = l1 then
            ci (Yf d 211 [xi l5] V) (fun x2 V1 =>
              some (xi x2, V1))
          else
            Xf d 271 77 [xr 14 0, xi l1, xi l2, xi l3, xi l4, xi (w32 (l5 + 1)), xr 0 0, xr 0 0] [] V
        else
          none
      else
        Xf d 271 77 [xr 14 0, xi l1, xi l2, xi l3, xi l4, xi (w32 (l5 + 1)), xr 0 0, xr 0 0] [] V
    else
      none
  else
    if 0 ≤ w32 ((w32 (8 * l2)) + l3) ∧ w32 ((w32 (8 * l2)) + l3) < 512 then
      if 1 < (V 95 0 ((w32 ((w32 (8 * l2)) + l3)).toNat)) then
        if 0 ≤ w32 ((w32 (8 * l2)) + l3) ∧ w32 ((w32 (8 * l2)) + l3) < 512 then
          ci (Yf d 211 [xi (V 97 0 ((w32 ((w32 (8 * l2)) + l3)).toNat))] V) (fun x4 V3 =>
            some (xi x4, V3))
        else
          none
      else
        if 0 ≤ w32 ((w32 (8 * l4)) + (iXor l3 1)) ∧ w32 ((w32 (8 * l4)) + (iXor l3 1)) < 512 then
          if 1 < (V 95 0 ((w32 ((w32 (8 * l4)) + (iXor l3 1))).toNat)) then
            if 0 ≤ w32 ((w32 (8 * l4)) + (iXor l3 1)) ∧ w32 ((w32 (8 * l4)) + (iXor l3 1)) < 512 then
              ci (Yf d 211 [xi (V 97 0 ((w32 ((w32 (8 * l4)) + (iXor l3 1))).toNat))] V) (fun x6 V5 =>
                some (xi x6, V5))
            else
              none
          else
            ci (Yf d 210 [xr 14 0, xi 9, xi l1, xi l2, xi l3] V) (fun x8 V7 =>
              cv (Yf d 269 [xr 14 0, xi (w32 ((w32 (8 * l2)) + l3)), xi 3, xi l4, xi x8, xi l1] V7) (fun V9 =>
                cv (Yf d 269 [xr 14 0, xi (w32 ((w32 (8 * l4)) + (iXor l3 1))), xi 3, xi l2, xi x8, xi l1] V9) (fun V10 =>
                  some (xi x8, V10))))
        else
          none
    else
      none := Xx_es [77] P_X12_door 4 _ _ _ V
set_option maxRecDepth 100000 in
theorem s_X12_leads (d : Nat) (V : XM) (a : Int) (b : Int) : Yf (d + 1) 272 [xr 14 0, xi a, xi b] V =
    ci (Yf d 268 [xr 14 0, xi a] V) (fun x2 V1 =>
    if x2 = 0 then
      some (xi (-1), V1)
    else
      ci (Yf d 189 [xl b, xl 0, xl 7] V1) (fun x4 V3 =>
        if x4 = 0 then
          some (xi (-2), V3)
        else
          if 0 ≤ w32 ((w32 (8 * a)) + b) ∧ w32 ((w32 (8 * a)) + b) < 512 then
            if (V3 95 0 ((w32 ((w32 (8 * a)) + b)).toNat)) = 0 then
              some (xi (-9), V3)
            else
              if 0 ≤ w32 ((w32 (8 * a)) + b) ∧ w32 ((w32 (8 * a)) + b) < 512 then
                some (xi (V3 96 0 ((w32 ((w32 (8 * a)) + b)).toNat)), V3)
              else
                none
          else
            none)) := Xc_es [] P_X12_leads 5 _ V
set_option maxRecDepth 100000 in
theorem s_X12_sort (d : Nat) (V : XM) (a : Int) (b : Int) : Yf (d + 1) 273 [xr 14 0, xi a, xi b] V =
    ci (Yf d 268 [xr 14 0, xi a] V) (fun x2 V1 =>
    if x2 = 0 then
      some (xi (-1), V1)
    else
      ci (Yf d 189 [xl b, xl 0, xl 7] V1) (fun x4 V3 =>
        if x4 = 0 then
          some (xi (-2), V3)
        else
          if 0 ≤ w32 ((w32 (8 * a)) + b) ∧ w32 ((w32 (8 * a)) + b) < 512 then
            some (xi (V3 95 0 ((w32 ((w32 (8 * a)) + b)).toNat)), V3)
          else
            none)) := Xc_es [] P_X12_sort 4 _ V
set_option maxRecDepth 100000 in
theorem s_X12_goes (d : Nat) (V : XM) (a : Int) (b : Int) : Yf (d + 1) 274 [xr 14 0, xi a, xi b] V =
    if 0 ≤ a ∧ a < 512 then
    if 0 < (V 95 0 (a.toNat)) then
      if 0 ≤ a ∧ a < 512 then
        if (V 96 0 (a.toNat)) = (-9) then
          some (xi 0, V)
        else
          if b = 0 then
            if 0 ≤ a ∧ a < 512 then
              if (V 95 0 (a.toNat)) = 3 then
                if 0 ≤ a ∧ a < 512 then
                  if 0 ≤ V 98 0 (a.toNat) ∧ V 98 0 (a.toNat) < 64 then
                    if (V 77 0 ((V 98 0 (a.toNat)).toNat)) = 0 then
                      some (xi 0, V)
                    else
                      some (xi 1, V)
                  else
                    none
                else
                  none
              else
                some (xi 1, V)
            else
              none
          else
            some (xi 1, V)
      else
        none
    else
      some (xi 0, V)
  else
    none := Xc_es [] P_X12_goes 3 _ V
set_option maxRecDepth 100000 in
theorem s_X12_routeBack (d : Nat) (V : XM) (a : Int) (b : Int) : Yf (d + 1) 275 [xr 14 0, xi a, xi b] V =
    Xf d 275 2 [xr 14 0, xi a, xi b, xi 0, xr 0 0, xr 0 0, xr 0 0, xr 0 0] [] V := Xc_es [2, 43, 52, 67] P_X12_routeBack 1 _ V
set_option maxRecDepth 100000 in
theorem s_X12_routeBack_2 (d : Nat) (V : XM) (l1 : Int) (l2 : Int) (l3 : Int) : Xf d 275 2 [xr 14 0, xi l1, xi l2, xi l3, xr 0 0, xr 0 0, xr 0 0, xr 0 0] [] V =
    if l3 < (V 14 0 9) then
    if 0 ≤ l3 ∧ l3 < 64 then
      Xf d 275 2 [xr 14 0, xi l1, xi l2, xi (w32 (l3 + 1)), xr 0 0, xr 0 0, xr 0 0, xr 0 0] [] (xu V 92 0 (l3.toNat) (-9))
    else
      none
  else
    if 0 ≤ l1 ∧ l1 < 64 then
      Xf d 275 43 [xr 14 0, xr 0 0, xi l2, xi 1, xi 0, xr 0 0, xr 0 0, xr 0 0] [] (xu (xu V 92 0 (l1.toNat) 0) 93 0 0 l1)
    else
      none := Xx_es [2, 43, 52, 67] P_X12_routeBack 2 _ _ _ V
set_option maxRecDepth 100000 in
theorem s_X12_routeBack_43 (d : Nat) (V : XM) (l2 : Int) (l3 : Int) (l4 : Int) : Xf d 275 43 [xr 14 0, xr 0 0, xi l2, xi l3, xi l4, xr 0 0, xr 0 0, xr 0 0] [] V =
    if l4 < l3 then
    Xf d 275 52 [xr 14 0, xr 0 0, xi l2, xi l3, xi l4, xi 0, xr 0 0, xr 0 0] [] V
  else
    some (xi 0, V) := Xx_es [2, 43, 52, 67] P_X12_routeBack 2 _ _ _ V
set_option maxRecDepth 100000 in
theorem s_X12_routeBack_52 (d : Nat) (V : XM) (l2 : Int) (l3 : Int) (l4 : Int) (l5 : Int) : Xf d 275 52 [xr 14 0, xr 0 0, xi l2, xi l3, xi l4, xi l5, xr 0 0, xr 0 0] [] V =
    if l5 < (V 14 0 9) then
    Xf d 275 67 [xr 14 0, xr 0 0, xi l2, xi l3, xi l4, xi l5, xi 0, xi 0] [] V
  else
    Xf d 275 43 [xr 14 0, xr 0 0, xi l2, xi l3, xi (w32 (l4 + 1)), xr 0 0, xr 0 0, xr 0 0] [] V := Xx_es [2, 43, 52, 67] P_X12_routeBack 2 _ _ _ V
set_option maxRecDepth 100000 in
theorem s_X12_routeBack_67 (d : Nat) (V : XM) (l2 : Int) (l3 : Int) (l4 : Int) (l5 : Int) (l6 : Int) (l7 : Int) : Xf d 275 67 [xr 14 0, xr 0 0, xi l2, xi l3, xi l4, xi l5, xi l6, xi l7] [] V =
    if l7 < 8 then
    ci (Yf d 268 [xr 14 0, xi l5] V) (fun x2 V1 =>
      if x2 = 0 then
        if l6 = 0 then
          Xf d 275 52 [xr 14 0, xr 0 0, xi l2, xi l3, xi l4, xi (w32 (l5 + 1)), xr 0 0, xr 0 0] [] V1
        else
          if 0 ≤ l5 ∧ l5 < 64 then
            if (V1 92 0 (l5.toNat)) = (-9) then
              if 0 ≤ l4 ∧ l4 < 64 then
                if 0 ≤ V1 93 0 (l4.toNat) ∧ V1 93 0 (l4.toNat) < 64 then
                  if 0 ≤ l5 ∧ l5 < 64 then
                    if 0 ≤ l3 ∧ l3 < 64 then
                      Xf d 275 52 [xr 14 0, xr 0 0, xi l2, xi (w32 (l3 + 1)), xi l4, xi (w32 (l5 + 1)), xr 0 0, xr 0 0] [] (xu (xu V1 92 0 (l5.toNat) (w32 ((V1 92 0 ((V1 93 0 (l4.toNat)).toNat)) + 1))) 93 0 (l3.toNat) l5)
                    else
                      none
                  else
                    none
                else
                  none
              else
                none
            else
              Xf d 275 52 [xr 14 0, xr 0 0, xi l2, xi l3, xi l4, xi (w32 (l5 + 1)), xr 0 0, xr 0 0] [] V1
          else
            none
      else
        if l6 = 0 then
          ci (Yf d 274 [xr 14 0, xi (w32 ((w32 (8 * l5)) + l7)), xi l2] V1) (fun x4 V3 =>
            if x4 = 0 then
              Xf d 275 67 [xr 14 0, xr 0 0, xi l2, xi l3, xi l4, xi l5, xi 0, xi (w32 (l7 + 1))] [] V3
            else
              if 0 ≤ w32 ((w32 (8 * l5)) + l7) ∧ w32 ((w32 (8 * l5)) + l7) < 512 then
                if 0 ≤ l4 ∧ l4 < 64 then
                  if (V3 96 0 ((w32 ((w32 (8 * l5)) + l7)).toNat)) = (V3 93 0 (l4.toNat)) then
                    Xf d 275 67 [xr 14 0, xr 0 0, xi l2, xi l3, xi l4, xi l5, xi 1, xi (w32 (l7 + 1))] [] V3
                  else
                    Xf d 275 67 [xr 14 0, xr 0 0, xi l2, xi l3, xi l4, xi l5, xi 0, xi (w32 (l7 + 1))] [] V3
                else
                  none
              else
                none)
        else
          Xf d 275 67 [xr 14 0, xr 0 0, xi l2, xi l3, xi l4, xi l5, xi 1, xi (w32 (l7 + 1))] [] V1)
  else
    if l6 = 0 then
      Xf d 275 52 [xr 14 0, xr 0 0, xi l2, xi l3, xi l4, xi (w32 (l5 + 1)), xr 0 0, xr 0 0] [] V
    else
      if 0 ≤ l5 ∧ l5 < 64 then
        if (V 92 0 (l5.toNat)) = (-9) then
          if 0 ≤ l4 ∧ l4 < 64 then
            if 0 ≤ V 93 0 (l4.toNat) ∧ V 93 0 (l4.toNat) < 64 then
              if 0 ≤ l5 ∧ l5 < 64 then
                if 0 ≤ l3 ∧ l3 < 64 then
                  Xf d 275 52 [xr 14 0, xr 0 0, xi l2, xi (w32 (l3 + 1)), xi l4, xi (w32 (l5 + 1)), xr 0 0, xr 0 0] [] (xu (xu V 92 0 (l5.toNat) (w32 ((V 92 0 ((V 93 0 (l4.toNat)).toNat)) + 1))) 93 0 (l3.toNat) l5)
                else
                  none
              else
                none
            else
              none
          else
            none
        else
          Xf d 275 52 [xr 14 0, xr 0 0, xi l2, xi l3, xi l4, xi (w32 (l5 + 1)), xr 0 0, xr 0 0] [] V
      else
        none := Xx_es [2, 43, 52, 67] P_X12_routeBack 3 _ _ _ V
set_option maxRecDepth 100000 in
theorem s_X12_route (d : Nat) (V : XM) (a : Int) (b : Int) (c : Int) : Yf (d + 1) 276 [xr 14 0, xi a, xi b, xi c] V =
    ci (Yf d 268 [xr 14 0, xi a] V) (fun x2 V1 =>
    if x2 = 0 then
      some (xi (-1), V1)
    else
      ci (Yf d 268 [xr 14 0, xi b] V1) (fun x4 V3 =>
        if x4 = 0 then
          some (xi (-1), V3)
        else
          cv (Yf d 275 [xr 14 0, xi b, xi c] V3) (fun V5 =>
            if 0 ≤ a ∧ a < 64 then
              some (xi (V5 92 0 (a.toNat)), V5)
            else
              none))) := Xc_es [] P_X12_route 2 _ V
set_option maxRecDepth 100000 in
theorem s_X12_first_ (d : Nat) (V : XM) (a : Int) (b : Int) (c : Int) : Yf (d + 1) 277 [xr 14 0, xi a, xi b, xi c] V =
    ci (Yf d 268 [xr 14 0, xi a] V) (fun x2 V1 =>
    if x2 = 0 then
      some (xi (-1), V1)
    else
      ci (Yf d 268 [xr 14 0, xi b] V1) (fun x4 V3 =>
        if x4 = 0 then
          some (xi (-1), V3)
        else
          cv (Yf d 275 [xr 14 0, xi b, xi c] V3) (fun V5 =>
            if a = b then
              some (xi (-9), V5)
            else
              if 0 ≤ a ∧ a < 64 then
                if (V5 92 0 (a.toNat)) = (-9) then
                  some (xi (-9), V5)
                else
                  Xf d 277 46 [xr 14 0, xi a, xr 0 0, xi c, xi 0] [] V5
              else
                none))) := Xc_es [46] P_X12_first_ 3 _ V
set_option maxRecDepth 100000 in
theorem s_X12_first__46 (d : Nat) (V : XM) (l1 : Int) (l3 : Int) (l4 : Int) : Xf d 277 46 [xr 14 0, xi l1, xr 0 0, xi l3, xi l4] [] V =
    ci (Yf d 274 [xr 14 0, xi (w32 ((w32 (8 * l1)) + l4)), xi l3] V) (fun x2 V1 =>
    if x2 = 0 then
      Xf d 277 46 [xr 14 0, xi l1, xr 0 0, xi l3, xi (w32 (l4 + 1))] [] V1
    else
      if 0 ≤ w32 ((w32 (8 * l1)) + l4) ∧ w32 ((w32 (8 * l1)) + l4) < 512 then
        if 0 ≤ V1 96 0 ((w32 ((w32 (8 * l1)) + l4)).toNat) ∧ V1 96 0 ((w32 ((w32 (8 * l1)) + l4)).toNat) < 64 then
          if 0 ≤ l1 ∧ l1 < 64 then
            if (V1 92 0 ((V1 96 0 ((w32 ((w32 (8 * l1)) + l4)).toNat)).toNat)) = (w32 ((V1 92 0 (l1.toNat)) - 1)) then
              some (xi l4, V1)
            else
              Xf d 277 46 [xr 14 0, xi l1, xr 0 0, xi l3, xi (w32 (l4 + 1))] [] V1
          else
            none
        else
          none
      else
        none) := Xx_es [46] P_X12_first_ 2 _ _ _ V
set_option maxRecDepth 100000 in
theorem s_X12_isShelf (d : Nat) (V : XM) (a : Int) : Yf (d + 1) 278 [xr 14 0, xi a] V =
    ci (Yf d 189 [xl a, xl 0, xl (w32 ((V 14 0 39) - 1))] V) (fun x2 V1 =>
    if x2 = 0 ∨ x2 = 1 then
      some (xi x2, V1)
    else
      none) := Xc_es [] P_X12_isShelf 1 _ V
set_option maxRecDepth 100000 in
theorem s_X12_takes (d : Nat) (V : XM) (a : Int) (b : Int) : Yf (d + 1) 279 [xr 14 0, xi a, xi b] V =
    if b = (-9) then
    some (xi 1, V)
  else
    ci (Yf d 204 [xr 14 0, xi b] V) (fun x2 V1 =>
      if 0 ≤ a ∧ a < 10 then
        ci (Yf d 194 [xr 14 0, xi x2, xi (V1 99 0 (a.toNat))] V1) (fun x4 V3 =>
          if x4 = 0 then
            some (xi 0, V3)
          else
            some (xi 1, V3))
      else
        none) := Xc_es [] P_X12_takes 3 _ V
set_option maxRecDepth 100000 in
theorem s_X12_shelf (d : Nat) (V : XM) (a : Int) (b : Int) : Yf (d + 1) 280 [xr 14 0, xi a, xi b] V =
    ci (Yf d 192 [xr 14 0, xi a] V) (fun x2 V1 =>
    if x2 = 0 then
      some (xi (-1), V1)
    else
      if 16 < b then
        some (xi (-2), V1)
      else
        if (V1 14 0 39) = 10 then
          some (xi (-4), V1)
        else
          if b < 0 then
            ci (Yf d 190 [xr 14 0, xi (-15)] V1) (fun x4 V3 =>
              some (xi x4, V3))
          else
            ci (Yf d 195 [xr 14 0, xi a] V1) (fun x6 V5 =>
              if 0 ≤ V1 14 0 39 ∧ V1 14 0 39 < 10 then
                if 0 ≤ V5 14 0 39 ∧ V5 14 0 39 < 10 then
                  Xf d 280 68 [xr 14 0, xr 0 0, xr 0 0, xi 0] [] (xu (xu V5 99 0 ((V1 14 0 39).toNat) x6) 100 0 ((V5 14 0 39).toNat) b)
                else
                  none
              else
                none)) := Xc_es [68] P_X12_shelf 5 _ V
set_option maxRecDepth 100000 in
theorem s_X12_shelf_68 (d : Nat) (V : XM) (l3 : Int) : Xf d 280 68 [xr 14 0, xr 0 0, xr 0 0, xi l3] [] V =
    if l3 < 16 then
    if 0 ≤ w32 ((w32 (16 * (V 14 0 39))) + l3) ∧ w32 ((w32 (16 * (V 14 0 39))) + l3) < 160 then
      Xf d 280 68 [xr 14 0, xr 0 0, xr 0 0, xi (w32 (l3 + 1))] [] (xu V 101 0 ((w32 ((w32 (16 * (V 14 0 39))) + l3)).toNat) (-9))
    else
      none
  else
    some (xi (w32 ((w32 ((V 14 0 39) + 1)) - 1)), (xu V 14 0 39 (w32 ((V 14 0 39) + 1)))) := Xx_es [68] P_X12_shelf 2 _ _ _ V
set_option maxRecDepth 100000 in
theorem s_X12_stand (d : Nat) (V : XM) (a : Int) (b : Int) (c : Int) : Yf (d + 1) 281 [xr 14 0, xi a, xi b, xi c] V =
    ci (Yf d 278 [xr 14 0, xi a] V) (fun x2 V1 =>
    if x2 = 0 then
      some (xi (-1), V1)
    else
      if c = (-9) then
        if 0 ≤ a ∧ a < 10 then
          ci (Yf d 189 [xl b, xl 0, xl (w32 ((V1 100 0 (a.toNat)) - 1))] V1) (fun x4 V3 =>
            if x4 = 0 then
              ci (Yf d 190 [xr 14 0, xi (-12)] V3) (fun x6 V5 =>
                some (xi x6, V5))
            else
              ci (Yf d 279 [xr 14 0, xi a, xi c] V3) (fun x8 V7 =>
                if x8 = 0 then
                  ci (Yf d 190 [xr 14 0, xi (-14)] V7) (fun x10 V9 =>
                    some (xi x10, V9))
                else
                  if 0 ≤ w32 ((w32 (16 * a)) + b) ∧ w32 ((w32 (16 * a)) + b) < 160 then
                    some (xi 1, (xu V7 101 0 ((w32 ((w32 (16 * a)) + b)).toNat) c))
                  else
                    none))
        else
          none
      else
        ci (Yf d 203 [xr 14 0, xl c] V1) (fun x12 V11 =>
          if x12 = 0 then
            some (xi (-1), V11)
          else
            if 0 ≤ a ∧ a < 10 then
              ci (Yf d 189 [xl b, xl 0, xl (w32 ((V11 100 0 (a.toNat)) - 1))] V11) (fun x14 V13 =>
                if x14 = 0 then
                  ci (Yf d 190 [xr 14 0, xi (-12)] V13) (fun x16 V15 =>
                    some (xi x16, V15))
                else
                  ci (Yf d 279 [xr 14 0, xi a, xi c] V13) (fun x18 V17 =>
                    if x18 = 0 then
                      ci (Yf d 190 [xr 14 0, xi (-14)] V17) (fun x20 V19 =>
                        some (xi x20, V19))
                    else
                      if 0 ≤ w32 ((w32 (16 * a)) + b) ∧ w32 ((w32 (16 * a)) + b) < 160 then
                        some (xi 1, (xu V17 101 0 ((w32 ((w32 (16 * a)) + b)).toNat) c))
                      else
                        none))
            else
              none)) := Xc_es [] P_X12_stand 4 _ V
set_option maxRecDepth 100000 in
theorem s_X12_stands (d : Nat) (V : XM) (a : Int) (b : Int) : Yf (d + 1) 282 [xr 14 0, xi a, xi b] V =
    ci (Yf d 278 [xr 14 0, xi a] V) (fun x2 V1 =>
    if x2 = 0 then
      some (xi (-1), V1)
    else
      if 0 ≤ a ∧ a < 10 then
        ci (Yf d 189 [xl b, xl 0, xl (w32 ((V1 100 0 (a.toNat)) - 1))] V1) (fun x4 V3 =>
          if x4 = 0 then
            ci (Yf d 190 [xr 14 0, xi (-12)] V3) (fun x6 V5 =>
              some (xi x6, V5))
          else
            if 0 ≤ w32 ((w32 (16 * a)) + b) ∧ w32 ((w32 (16 * a)) + b) < 160 then
              some (xi (V3 101 0 ((w32 ((w32 (16 * a)) + b)).toNat)), V3)
            else
              none)
      else
        none) := Xc_es [] P_X12_stands 4 _ V
set_option maxRecDepth 100000 in
theorem s_X12_haul (d : Nat) (V : XM) (a : Int) (b : Int) (c : Int) (e : Int) (f : Int) : Yf (d + 1) 283 [xr 14 0, xi a, xi b, xi c, xi e, xi f] V =
    ci (Yf d 278 [xr 14 0, xi a] V) (fun x2 V1 =>
    if x2 = 0 then
      some (xi (-1), V1)
    else
      ci (Yf d 278 [xr 14 0, xi c] V1) (fun x4 V3 =>
        if x4 = 0 then
          some (xi (-1), V3)
        else
          if b < 0 then
            ci (Yf d 190 [xr 14 0, xi (-12)] V3) (fun x6 V5 =>
              some (xi x6, V5))
          else
            if e < 0 then
              ci (Yf d 190 [xr 14 0, xi (-12)] V3) (fun x8 V7 =>
                some (xi x8, V7))
            else
              if f < 0 then
                ci (Yf d 190 [xr 14 0, xi (-12)] V3) (fun x10 V9 =>
                  some (xi x10, V9))
              else
                if 0 ≤ a ∧ a < 10 then
                  if 0 < (cmp3 (w64 (b + f)) (V3 100 0 (a.toNat))) then
                    ci (Yf d 190 [xr 14 0, xi (-12)] V3) (fun x12 V11 =>
                      some (xi x12, V11))
                  else
                    if 0 ≤ c ∧ c < 10 then
                      if 0 < (cmp3 (w64 (e + f)) (V3 100 0 (c.toNat))) then
                        ci (Yf d 190 [xr 14 0, xi (-12)] V3) (fun x14 V13 =>
                          some (xi x14, V13))
                      else
                        Xf d 283 77 [xr 14 0, xi a, xi b, xi c, xi e, xi f, xi 0] [] V3
                    else
                      none
                else
                  none)) := Xc_es [77, 116] P_X12_haul 3 _ V
set_option maxRecDepth 100000 in
theorem s_X12_haul_77 (d : Nat) (V : XM) (l1 : Int) (l2 : Int) (l3 : Int) (l4 : Int) (l5 : Int) (l6 : Int) : Xf d 283 77 [xr 14 0, xi l1, xi l2, xi l3, xi l4, xi l5, xi l6] [] V =
    if l6 < l5 then
    if 0 ≤ w32 ((w32 ((w32 (16 * l1)) + l2)) + l6) ∧ w32 ((w32 ((w32 (16 * l1)) + l2)) + l6) < 160 then
      if 0 ≤ l6 ∧ l6 < 16 then
        Xf d 283 77 [xr 14 0, xi l1, xi l2, xi l3, xi l4, xi l5, xi (w32 (l6 + 1))] [] (xu V 102 0 (l6.toNat) (V 101 0 ((w32 ((w32 ((w32 (16 * l1)) + l2)) + l6)).toNat)))
      else
        none
    else
      none
  else
    Xf d 283 116 [xr 14 0, xr 0 0, xr 0 0, xi l3, xi l4, xi l5, xr 0 0] [] (xu V 14 0 44 0) := Xx_es [77, 116] P_X12_haul 2 _ _ _ V
set_option maxRecDepth 100000 in
theorem s_X12_haul_116 (d : Nat) (V : XM) (l3 : Int) (l4 : Int) (l5 : Int) : Xf d 283 116 [xr 14 0, xr 0 0, xr 0 0, xi l3, xi l4, xi l5, xr 0 0] [] V =
    if (V 14 0 44) < l5 then
    if 0 ≤ V 14 0 44 ∧ V 14 0 44 < 16 then
      ci (Yf d 279 [xr 14 0, xi l3, xi (V 102 0 ((V 14 0 44).toNat))] V) (fun x2 V1 =>
        if x2 = 0 then
          if (V1 14 0 44) = l5 then
            some (xi l5, V1)
          else
            ci (Yf d 190 [xr 14 0, xi (-14)] V1) (fun x4 V3 =>
              some (xi x4, V3))
        else
          if 0 ≤ V1 14 0 44 ∧ V1 14 0 44 < 16 then
            if 0 ≤ w32 ((w32 ((w32 (16 * l3)) + l4)) + (V1 14 0 44)) ∧ w32 ((w32 ((w32 (16 * l3)) + l4)) + (V1 14 0 44)) < 160 then
              Xf d 283 116 [xr 14 0, xr 0 0, xr 0 0, xi l3, xi l4, xi l5, xr 0 0] [] (xu (xu V1 101 0 ((w32 ((w32 ((w32 (16 * l3)) + l4)) + (V1 14 0 44))).toNat) (V1 102 0 ((V1 14 0 44).toNat))) 14 0 44 (w32 ((V1 14 0 44) + 1)))
            else
              none
          else
            none)
    else
      none
  else
    if (V 14 0 44) = l5 then
      some (xi l5, V)
    else
      ci (Yf d 190 [xr 14 0, xi (-14)] V) (fun x6 V5 =>
        some (xi x6, V5)) := Xx_es [77, 116] P_X12_haul 4 _ _ _ V
set_option maxRecDepth 100000 in
theorem s_X12_came (d : Nat) (V : XM) : Yf (d + 1) 284 [xr 14 0] V =
    some (xi (V 14 0 44), V) := Xc_es [] P_X12_came 1 _ V
set_option maxRecDepth 100000 in
theorem s_X12_isTable (d : Nat) (V : XM) (a : Int) : Yf (d + 1) 285 [xr 14 0, xi a] V =
    ci (Yf d 189 [xl a, xl 0, xl (w32 ((V 14 0 45) - 1))] V) (fun x2 V1 =>
    if x2 = 0 ∨ x2 = 1 then
      some (xi x2, V1)
    else
      none) := Xc_es [] P_X12_isTable 1 _ V
set_option maxRecDepth 100000 in
theorem s_X12_table (d : Nat) (V : XM) (a : Int) (b : Int) (c : Int) : Yf (d + 1) 286 [xr 14 0, xi a, xi b, xi c] V =
    ci (Yf d 189 [xl a, xl 1, xl 16] V) (fun x2 V1 =>
    if x2 = 0 then
      Xf d 286 41 [xr 14 0, xi a, xi b, xi c, xi 0, xi c, xi 0] [] V1
    else
      ci (Yf d 189 [xl b, xl 1, xl 5] V1) (fun x4 V3 =>
        if x4 = 0 then
          Xf d 286 41 [xr 14 0, xi a, xi b, xi c, xi 0, xi c, xi 0] [] V3
        else
          if c < 0 then
            Xf d 286 41 [xr 14 0, xi a, xi b, xi c, xi 0, xi c, xi 0] [] V3
          else
            Xf d 286 41 [xr 14 0, xi a, xi b, xi c, xi 1, xi c, xi 0] [] V3)) := Xc_es [41, 133, 174] P_X12_table 3 _ V
set_option maxRecDepth 100000 in
theorem s_X12_table_41 (d : Nat) (V : XM) (l1 : Int) (l2 : Int) (l3 : Int) (l4 : Int) (l5 : Int) (l6 : Int) : Xf d 286 41 [xr 14 0, xi l1, xi l2, xi l3, xi l4, xi l5, xi l6] [] V =
    if l6 < l2 then
    if l4 = 0 then
      if l4 = 0 then
        some (xi (-2), V)
      else
        if 0 < l5 then
          some (xi (-2), V)
        else
          if (V 14 0 45) = 6 then
            some (xi (-4), V)
          else
            if 0 ≤ V 14 0 45 ∧ V 14 0 45 < 6 then
              if 0 ≤ V 14 0 45 ∧ V 14 0 45 < 6 then
                Xf d 286 133 [xr 14 0, xr 0 0, xi l2, xr 0 0, xr 0 0, xi l3, xi 0] [] (xu (xu V 103 0 ((V 14 0 45).toNat) l1) 104 0 ((V 14 0 45).toNat) l2)
              else
                none
            else
              none
    else
      if (Int.tmod l5 10) < 8 then
        Xf d 286 41 [xr 14 0, xi l1, xi l2, xi l3, xi 1, xi (w32 (Int.tdiv l5 10)), xi (w32 (l6 + 1))] [] V
      else
        Xf d 286 41 [xr 14 0, xi l1, xi l2, xi l3, xi 0, xi (w32 (Int.tdiv l5 10)), xi (w32 (l6 + 1))] [] V
  else
    if l4 = 0 then
      some (xi (-2), V)
    else
      if 0 < l5 then
        some (xi (-2), V)
      else
        if (V 14 0 45) = 6 then
          some (xi (-4), V)
        else
          if 0 ≤ V 14 0 45 ∧ V 14 0 45 < 6 then
            if 0 ≤ V 14 0 45 ∧ V 14 0 45 < 6 then
              Xf d 286 133 [xr 14 0, xr 0 0, xi l2, xr 0 0, xr 0 0, xi l3, xi 0] [] (xu (xu V 103 0 ((V 14 0 45).toNat) l1) 104 0 ((V 14 0 45).toNat) l2)
            else
              none
          else
            none := Xx_es [41, 133, 174] P_X12_table 4 _ _ _ V
set_option maxRecDepth 100000 in
theorem s_X12_table_133 (d : Nat) (V : XM) (l2 : Int) (l5 : Int) (l6 : Int) : Xf d 286 133 [xr 14 0, xr 0 0, xi l2, xr 0 0, xr 0 0, xi l5, xi l6] [] V =
    if l6 < l2 then
    if 0 ≤ w32 ((w32 (5 * (V 14 0 45))) + l6) ∧ w32 ((w32 (5 * (V 14 0 45))) + l6) < 30 then
      Xf d 286 133 [xr 14 0, xr 0 0, xi l2, xr 0 0, xr 0 0, xi (w32 (Int.tdiv l5 10)), xi (w32 (l6 + 1))] [] (xu V 105 0 ((w32 ((w32 (5 * (V 14 0 45))) + l6)).toNat) (Int.tmod l5 10))
    else
      none
  else
    Xf d 286 174 [xr 14 0, xr 0 0, xr 0 0, xr 0 0, xr 0 0, xr 0 0, xi 0] [] V := Xx_es [41, 133, 174] P_X12_table 2 _ _ _ V
set_option maxRecDepth 100000 in
theorem s_X12_table_174 (d : Nat) (V : XM) (l6 : Int) : Xf d 286 174 [xr 14 0, xr 0 0, xr 0 0, xr 0 0, xr 0 0, xr 0 0, xi l6] [] V =
    if l6 < 80 then
    if 0 ≤ w32 ((w32 (80 * (V 14 0 45))) + l6) ∧ w32 ((w32 (80 * (V 14 0 45))) + l6) < 480 then
      Xf d 286 174 [xr 14 0, xr 0 0, xr 0 0, xr 0 0, xr 0 0, xr 0 0, xi (w32 (l6 + 1))] [] (xu V 106 0 ((w32 ((w32 (80 * (V 14 0 45))) + l6)).toNat) 1)
    else
      none
  else
    some (xi (w32 ((w32 ((V 14 0 45) + 1)) - 1)), (xu V 14 0 45 (w32 ((V 14 0 45) + 1)))) := Xx_es [41, 133, 174] P_X12_table 2 _ _ _ V
set_option maxRecDepth 100000 in
theorem s_X12_isColumn (d : Nat) (V : XM) (a : Int) (b : Int) : Yf (d + 1) 287 [xr 14 0, xi a, xi b] V =
    if 0 ≤ a ∧ a < 6 then
    ci (Yf d 189 [xl b, xl 0, xl (w32 ((V 104 0 (a.toNat)) - 1))] V) (fun x2 V1 =>
      if x2 = 0 ∨ x2 = 1 then
        some (xi x2, V1)
      else
        none)
  else
    none := Xc_es [] P_X12_isColumn 1 _ V
set_option maxRecDepth 100000 in
theorem s_X12_isCell (d : Nat) (V : XM) (a : Int) (b : Int) (c : Int) : Yf (d + 1) 288 [xr 14 0, xi a, xi b, xi c] V =
    if 0 ≤ a ∧ a < 6 then
    ci (Yf d 189 [xl b, xl 0, xl (w32 ((V 103 0 (a.toNat)) - 1))] V) (fun x2 V1 =>
      if x2 = 0 then
        some (xi 0, V1)
      else
        ci (Yf d 287 [xr 14 0, xi a, xi c] V1) (fun x4 V3 =>
          if x4 = 0 then
            some (xi 0, V3)
          else
            some (xi 1, V3)))
  else
    none := Xc_es [] P_X12_isCell 3 _ V
set_option maxRecDepth 100000 in
theorem s_X12_cellAt (d : Nat) (V : XM) (a : Int) (b : Int) (c : Int) : Yf (d + 1) 289 [xi a, xi b, xi c] V =
    some (xi (w32 ((w32 ((w32 (80 * a)) + (w32 (5 * b)))) + c)), V) := Xc_es [] P_X12_cellAt 1 _ V
set_option maxRecDepth 100000 in
theorem s_X12_fill (d : Nat) (V : XM) (a : Int) (b : Int) (c : Int) (e : Int) : Yf (d + 1) 290 [xr 14 0, xi a, xi b, xi c, xl e] V =
    ci (Yf d 285 [xr 14 0, xi a] V) (fun x2 V1 =>
    if x2 = 0 then
      some (xi (-1), V1)
    else
      ci (Yf d 288 [xr 14 0, xi a, xi b, xi c] V1) (fun x4 V3 =>
        if x4 = 0 then
          ci (Yf d 190 [xr 14 0, xi (-12)] V3) (fun x6 V5 =>
            some (xi x6, V5))
        else
          ci (Yf d 289 [xi a, xi b, xi c] V3) (fun x8 V7 =>
            if 0 ≤ w32 ((w32 (5 * a)) + c) ∧ w32 ((w32 (5 * a)) + c) < 30 then
              if 0 ≤ x8 ∧ x8 < 480 then
                cl (Yf d 199 [xi (V7 105 0 ((w32 ((w32 (5 * a)) + c)).toNat)), xl e] (xu V7 106 0 (x8.toNat) 0)) (fun x10 V9 =>
                  if 0 ≤ x8 ∧ x8 < 480 then
                    if (V7 105 0 ((w32 ((w32 (5 * a)) + c)).toNat)) = 6 then
                      if fNum (fF2D (fL2F e)) = true then
                        if 0 ≤ x8 ∧ x8 < 480 then
                          some (xi 1, (xu (xu V9 107 0 (x8.toNat) x10) 108 0 (x8.toNat) (fF2D (fL2F e))))
                        else
                          none
                      else
                        none
                    else
                      if (V7 105 0 ((w32 ((w32 (5 * a)) + c)).toNat)) = 7 then
                        if 0 ≤ x8 ∧ x8 < 480 then
                          some (xi 1, (xu (xu V9 107 0 (x8.toNat) x10) 108 0 (x8.toNat) (fL2D e)))
                        else
                          none
                      else
                        if 0 ≤ x8 ∧ x8 < 480 then
                          some (xi 1, (xu (xu V9 107 0 (x8.toNat) x10) 108 0 (x8.toNat) 0))
                        else
                          none
                  else
                    none)
              else
                none
            else
              none))) := Xc_es [] P_X12_fill 6 _ V
set_option maxRecDepth 100000 in
theorem s_X12_blank (d : Nat) (V : XM) (a : Int) (b : Int) (c : Int) : Yf (d + 1) 291 [xr 14 0, xi a, xi b, xi c] V =
    ci (Yf d 285 [xr 14 0, xi a] V) (fun x2 V1 =>
    if x2 = 0 then
      some (xi (-1), V1)
    else
      ci (Yf d 288 [xr 14 0, xi a, xi b, xi c] V1) (fun x4 V3 =>
        if x4 = 0 then
          ci (Yf d 190 [xr 14 0, xi (-12)] V3) (fun x6 V5 =>
            some (xi x6, V5))
        else
          ci (Yf d 289 [xi a, xi b, xi c] V3) (fun x8 V7 =>
            if 0 ≤ x8 ∧ x8 < 480 then
              if (V7 106 0 (x8.toNat)) = 0 then
                if 0 ≤ x8 ∧ x8 < 480 then
                  some (xi 1, (xu V7 106 0 (x8.toNat) 1))
                else
                  none
              else
                if 0 ≤ x8 ∧ x8 < 480 then
                  some (xi 0, (xu V7 106 0 (x8.toNat) 1))
                else
                  none
            else
              none))) := Xc_es [] P_X12_blank 5 _ V
set_option maxRecDepth 100000 in
theorem s_X12_read (d : Nat) (V : XM) (a : Int) (b : Int) (c : Int) : Yf (d + 1) 292 [xr 14 0, xi a, xi b, xi c] V =
    ci (Yf d 285 [xr 14 0, xi a] V) (fun x2 V1 =>
    if x2 = 0 then
      some (xl (-1), V1)
    else
      ci (Yf d 288 [xr 14 0, xi a, xi b, xi c] V1) (fun x4 V3 =>
        if x4 = 0 then
          ci (Yf d 190 [xr 14 0, xi (-12)] V3) (fun x6 V5 =>
            some (xl x6, V5))
        else
          ci (Yf d 289 [xi a, xi b, xi c] V3) (fun x8 V7 =>
            if 0 ≤ x8 ∧ x8 < 480 then
              if (V7 106 0 (x8.toNat)) = 0 then
                if 0 ≤ x8 ∧ x8 < 480 then
                  some (xl (V7 107 0 (x8.toNat)), V7)
                else
                  none
              else
                ci (Yf d 190 [xr 14 0, xi (-11)] V7) (fun x10 V9 =>
                  some (xl x10, V9))
            else
              none))) := Xc_es [] P_X12_read 5 _ V
set_option maxRecDepth 100000 in
theorem s_X12_choose (d : Nat) (V : XM) (a : Int) (b : Int) (c : Int) (e : Int) : Yf (d + 1) 293 [xr 14 0, xi a, xi b, xl c, xi e] V =
    ci (Yf d 285 [xr 14 0, xi a] V) (fun x2 V1 =>
    if x2 = 0 then
      some (xi (-1), V1)
    else
      ci (Yf d 189 [xl e, xl 0, xl 15] V1) (fun x4 V3 =>
        if x4 = 0 then
          some (xi (-2), V3)
        else
          ci (Yf d 287 [xr 14 0, xi a, xi b] V3) (fun x6 V5 =>
            if x6 = 0 then
              ci (Yf d 190 [xr 14 0, xi (-12)] V5) (fun x8 V7 =>
                some (xi x8, V7))
            else
              Xf d 293 46 [xr 14 0, xi a, xi b, xl c, xr 0 0, xr 0 0, xi e, xr 0 0] [] V5))) := Xc_es [46] P_X12_choose 4 _ V
set_option maxRecDepth 100000 in
theorem s_X12_choose_46 (d : Nat) (V : XM) (l1 : Int) (l2 : Int) (l3 : Int) (l6 : Int) : Xf d 293 46 [xr 14 0, xi l1, xi l2, xl l3, xr 0 0, xr 0 0, xi l6, xr 0 0] [] V =
    if 0 ≤ l1 ∧ l1 < 6 then
    if l6 < (V 103 0 (l1.toNat)) then
      ci (Yf d 289 [xi l1, xi l6, xi l2] V) (fun x2 V1 =>
        if 0 ≤ x2 ∧ x2 < 480 then
          if (V1 106 0 (x2.toNat)) = 0 then
            if 0 ≤ x2 ∧ x2 < 480 then
              if (cmp3 (V1 107 0 (x2.toNat)) l3) = 0 then
                some (xi l6, V1)
              else
                Xf d 293 46 [xr 14 0, xi l1, xi l2, xl l3, xr 0 0, xr 0 0, xi (w32 (l6 + 1)), xr 0 0] [] V1
            else
              none
          else
            Xf d 293 46 [xr 14 0, xi l1, xi l2, xl l3, xr 0 0, xr 0 0, xi (w32 (l6 + 1)), xr 0 0] [] V1
        else
          none)
    else
      some (xi (-9), V)
  else
    none := Xx_es [46] P_X12_choose 2 _ _ _ V
end
section
set_option maxRecDepth 100000 in
theorem s_X12_isAhead (d : Nat) (V : XM) (a : Int) (b : Int) (c : Int) (e : Int) (f : Int) : Yf (d + 1) 294 [xr 14 0, xi a, xi b, xi c, xi e, xi f] V =
    ci (Yf d 289 [xi a, xi c, xi b] V) (fun x2 V1 =>
    ci (Yf d 289 [xi a, xi e, xi b] V1) (fun x4 V3 =>
      if 0 ≤ x2 ∧ x2 < 480 then
        if (V3 106 0 (x2.toNat)) = 0 then
          if 0 ≤ x4 ∧ x4 < 480 then
            if (V3 106 0 (x4.toNat)) = 0 then
              if 0 ≤ w32 ((w32 (5 * a)) + b) ∧ w32 ((w32 (5 * a)) + b) < 30 then
                if (V3 105 0 ((w32 ((w32 (5 * a)) + b)).toNat)) = 6 then
                  if 0 ≤ x2 ∧ x2 < 480 then
                    if 0 ≤ x4 ∧ x4 < 480 then
                      if (fDcmp .g (V3 108 0 (x2.toNat)) (V3 108 0 (x4.toNat))) < 0 then
                        Xf d 294 138 [xr 14 0, xr 0 0, xr 0 0, xr 0 0, xr 0 0, xi f, xi x2, xi x4, xi (V3 105 0 ((w32 ((w32 (5 * a)) + b)).toNat)), xr 0 0, xr 0 0] [xi 1] V3
                      else
                        Xf d 294 138 [xr 14 0, xr 0 0, xr 0 0, xr 0 0, xr 0 0, xi f, xi x2, xi x4, xi (V3 105 0 ((w32 ((w32 (5 * a)) + b)).toNat)), xr 0 0, xr 0 0] [xi 0] V3
                    else
                      none
                  else
                    none
                else
                  if (V3 105 0 ((w32 ((w32 (5 * a)) + b)).toNat)) = 7 then
                    if 0 ≤ x2 ∧ x2 < 480 then
                      if 0 ≤ x4 ∧ x4 < 480 then
                        if (fDcmp .g (V3 108 0 (x2.toNat)) (V3 108 0 (x4.toNat))) < 0 then
                          Xf d 294 138 [xr 14 0, xr 0 0, xr 0 0, xr 0 0, xr 0 0, xi f, xi x2, xi x4, xi (V3 105 0 ((w32 ((w32 (5 * a)) + b)).toNat)), xr 0 0, xr 0 0] [xi 1] V3
                        else
                          Xf d 294 138 [xr 14 0, xr 0 0, xr 0 0, xr 0 0, xr 0 0, xi f, xi x2, xi x4, xi (V3 105 0 ((w32 ((w32 (5 * a)) + b)).toNat)), xr 0 0, xr 0 0] [xi 0] V3
                      else
                        none
                    else
                      none
                  else
                    if 0 ≤ x2 ∧ x2 < 480 then
                      if 0 ≤ x4 ∧ x4 < 480 then
                        if (cmp3 (V3 107 0 (x2.toNat)) (V3 107 0 (x4.toNat))) < 0 then
                          Xf d 294 138 [xr 14 0, xr 0 0, xr 0 0, xr 0 0, xr 0 0, xi f, xi x2, xi x4, xi (V3 105 0 ((w32 ((w32 (5 * a)) + b)).toNat)), xr 0 0, xr 0 0] [xi 1] V3
                        else
                          Xf d 294 138 [xr 14 0, xr 0 0, xr 0 0, xr 0 0, xr 0 0, xi f, xi x2, xi x4, xi (V3 105 0 ((w32 ((w32 (5 * a)) + b)).toNat)), xr 0 0, xr 0 0] [xi 0] V3
                      else
                        none
                    else
                      none
              else
                none
            else
              if 0 ≤ x2 ∧ x2 < 480 then
                if (V3 106 0 (x2.toNat)) = 0 then
                  if 0 ≤ x4 ∧ x4 < 480 then
                    if (V3 106 0 (x4.toNat)) = 0 then
                      Xf d 294 62 [xr 0 0, xr 0 0, xr 0 0, xr 0 0, xr 0 0, xr 0 0, xr 0 0, xr 0 0, xr 0 0, xr 0 0, xr 0 0] [xi 0] V3
                    else
                      Xf d 294 62 [xr 0 0, xr 0 0, xr 0 0, xr 0 0, xr 0 0, xr 0 0, xr 0 0, xr 0 0, xr 0 0, xr 0 0, xr 0 0] [xi 1] V3
                  else
                    none
                else
                  Xf d 294 62 [xr 0 0, xr 0 0, xr 0 0, xr 0 0, xr 0 0, xr 0 0, xr 0 0, xr 0 0, xr 0 0, xr 0 0, xr 0 0] [xi 0] V3
              else
                none
          else
            none
        else
          if 0 ≤ x2 ∧ x2 < 480 then
            if (V3 106 0 (x2.toNat)) = 0 then
              if 0 ≤ x4 ∧ x4 < 480 then
                if (V3 106 0 (x4.toNat)) = 0 then
                  Xf d 294 62 [xr 0 0, xr 0 0, xr 0 0, xr 0 0, xr 0 0, xr 0 0, xr 0 0, xr 0 0, xr 0 0, xr 0 0, xr 0 0] [xi 0] V3
                else
                  Xf d 294 62 [xr 0 0, xr 0 0, xr 0 0, xr 0 0, xr 0 0, xr 0 0, xr 0 0, xr 0 0, xr 0 0, xr 0 0, xr 0 0] [xi 1] V3
              else
                none
            else
              Xf d 294 62 [xr 0 0, xr 0 0, xr 0 0, xr 0 0, xr 0 0, xr 0 0, xr 0 0, xr 0 0, xr 0 0, xr 0 0, xr 0 0] [xi 0] V3
          else
            none
      else
        none)) := Xc_es [62, 138, 203, 217] P_X12_isAhead 4 _ V
set_option maxRecDepth 100000 in
theorem s_X12_isAhead_62 (d : Nat) (V : XM) (y0 : Int) : Xf d 294 62 [xr 0 0, xr 0 0, xr 0 0, xr 0 0, xr 0 0, xr 0 0, xr 0 0, xr 0 0, xr 0 0, xr 0 0, xr 0 0] [xi y0] V =
    if y0 = 0 ∨ y0 = 1 then
    some (xi y0, V)
  else
    none := Xx_es [62, 138, 203, 217] P_X12_isAhead 1 _ _ _ V
set_option maxRecDepth 100000 in
theorem s_X12_isAhead_138 (d : Nat) (V : XM) (l5 : Int) (l6 : Int) (l7 : Int) (l8 : Int) (y0 : Int) : Xf d 294 138 [xr 14 0, xr 0 0, xr 0 0, xr 0 0, xr 0 0, xi l5, xi l6, xi l7, xi l8, xr 0 0, xr 0 0] [xi y0] V =
    if l8 = 6 then
    if 0 ≤ l6 ∧ l6 < 480 then
      if 0 ≤ l7 ∧ l7 < 480 then
        if 0 < (fDcmp .l (V 108 0 (l6.toNat)) (V 108 0 (l7.toNat))) then
          Xf d 294 203 [xr 0 0, xr 0 0, xr 0 0, xr 0 0, xr 0 0, xi l5, xr 0 0, xr 0 0, xr 0 0, xi y0, xr 0 0] [xi 1] V
        else
          Xf d 294 203 [xr 0 0, xr 0 0, xr 0 0, xr 0 0, xr 0 0, xi l5, xr 0 0, xr 0 0, xr 0 0, xi y0, xr 0 0] [xi 0] V
      else
        none
    else
      none
  else
    if l8 = 7 then
      if 0 ≤ l6 ∧ l6 < 480 then
        if 0 ≤ l7 ∧ l7 < 480 then
          if 0 < (fDcmp .l (V 108 0 (l6.toNat)) (V 108 0 (l7.toNat))) then
            Xf d 294 203 [xr 0 0, xr 0 0, xr 0 0, xr 0 0, xr 0 0, xi l5, xr 0 0, xr 0 0, xr 0 0, xi y0, xr 0 0] [xi 1] V
          else
            Xf d 294 203 [xr 0 0, xr 0 0, xr 0 0, xr 0 0, xr 0 0, xi l5, xr 0 0, xr 0 0, xr 0 0, xi y0, xr 0 0] [xi 0] V
        else
          none
      else
        none
    else
      if 0 ≤ l6 ∧ l6 < 480 then
        if 0 ≤ l7 ∧ l7 < 480 then
          if 0 < (cmp3 (V 107 0 (l6.toNat)) (V 107 0 (l7.toNat))) then
            Xf d 294 203 [xr 0 0, xr 0 0, xr 0 0, xr 0 0, xr 0 0, xi l5, xr 0 0, xr 0 0, xr 0 0, xi y0, xr 0 0] [xi 1] V
          else
            Xf d 294 203 [xr 0 0, xr 0 0, xr 0 0, xr 0 0, xr 0 0, xi l5, xr 0 0, xr 0 0, xr 0 0, xi y0, xr 0 0] [xi 0] V
        else
          none
      else
        none := Xx_es [62, 138, 203, 217] P_X12_isAhead 3 _ _ _ V
set_option maxRecDepth 100000 in
theorem s_X12_isAhead_203 (d : Nat) (V : XM) (l5 : Int) (l9 : Int) (y0 : Int) : Xf d 294 203 [xr 0 0, xr 0 0, xr 0 0, xr 0 0, xr 0 0, xi l5, xr 0 0, xr 0 0, xr 0 0, xi l9, xr 0 0] [xi y0] V =
    if l5 = 0 then
    Xf d 294 217 [xr 0 0, xr 0 0, xr 0 0, xr 0 0, xr 0 0, xr 0 0, xr 0 0, xr 0 0, xr 0 0, xr 0 0, xr 0 0] [xi l9] V
  else
    Xf d 294 217 [xr 0 0, xr 0 0, xr 0 0, xr 0 0, xr 0 0, xr 0 0, xr 0 0, xr 0 0, xr 0 0, xr 0 0, xr 0 0] [xi y0] V := Xx_es [62, 138, 203, 217] P_X12_isAhead 2 _ _ _ V
set_option maxRecDepth 100000 in
theorem s_X12_isAhead_217 (d : Nat) (V : XM) (y0 : Int) : Xf d 294 217 [xr 0 0, xr 0 0, xr 0 0, xr 0 0, xr 0 0, xr 0 0, xr 0 0, xr 0 0, xr 0 0, xr 0 0, xr 0 0] [xi y0] V =
    if y0 = 0 ∨ y0 = 1 then
    some (xi y0, V)
  else
    none := Xx_es [62, 138, 203, 217] P_X12_isAhead 1 _ _ _ V
set_option maxRecDepth 100000 in
theorem s_X12_rank (d : Nat) (V : XM) (a : Int) (b : Int) (c : Int) : Yf (d + 1) 295 [xr 14 0, xi a, xi b, xi c] V =
    ci (Yf d 285 [xr 14 0, xi a] V) (fun x2 V1 =>
    if x2 = 0 then
      some (xi (-1), V1)
    else
      ci (Yf d 287 [xr 14 0, xi a, xi b] V1) (fun x4 V3 =>
        if x4 = 0 then
          ci (Yf d 190 [xr 14 0, xi (-12)] V3) (fun x6 V5 =>
            some (xi x6, V5))
        else
          Xf d 295 29 [xr 14 0, xi a, xi b, xi c, xi 0, xr 0 0, xr 0 0] [] V3)) := Xc_es [29, 44, 110, 186, 222] P_X12_rank 3 _ V
set_option maxRecDepth 100000 in
theorem s_X12_rank_29 (d : Nat) (V : XM) (l1 : Int) (l2 : Int) (l3 : Int) (l4 : Int) : Xf d 295 29 [xr 14 0, xi l1, xi l2, xi l3, xi l4, xr 0 0, xr 0 0] [] V =
    if 0 ≤ l1 ∧ l1 < 6 then
    if l4 < (V 103 0 (l1.toNat)) then
      Xf d 295 44 [xr 14 0, xi l1, xi l2, xi l3, xi l4, xi l4, xr 0 0] [] V
    else
      Xf d 295 110 [xr 14 0, xi l1, xr 0 0, xr 0 0, xi 0, xr 0 0, xr 0 0] [] V
  else
    none := Xx_es [29, 44, 110, 186, 222] P_X12_rank 2 _ _ _ V
set_option maxRecDepth 100000 in
theorem s_X12_rank_110 (d : Nat) (V : XM) (l1 : Int) (l4 : Int) : Xf d 295 110 [xr 14 0, xi l1, xr 0 0, xr 0 0, xi l4, xr 0 0, xr 0 0] [] V =
    if l4 < 80 then
    if 0 ≤ w32 ((w32 (80 * l1)) + l4) ∧ w32 ((w32 (80 * l1)) + l4) < 480 then
      if 0 ≤ l4 ∧ l4 < 80 then
        if 0 ≤ w32 ((w32 (80 * l1)) + l4) ∧ w32 ((w32 (80 * l1)) + l4) < 480 then
          if 0 ≤ l4 ∧ l4 < 80 then
            if 0 ≤ w32 ((w32 (80 * l1)) + l4) ∧ w32 ((w32 (80 * l1)) + l4) < 480 then
              if 0 ≤ l4 ∧ l4 < 80 then
                Xf d 295 110 [xr 14 0, xi l1, xr 0 0, xr 0 0, xi (w32 (l4 + 1)), xr 0 0, xr 0 0] [] (xu (xu (xu V 110 0 (l4.toNat) ((V 106 0 ((w32 ((w32 (80 * l1)) + l4)).toNat)) % 2)) 111 0 (l4.toNat) (V 107 0 ((w32 ((w32 (80 * l1)) + l4)).toNat))) 112 0 (l4.toNat) (V 108 0 ((w32 ((w32 (80 * l1)) + l4)).toNat)))
              else
                none
            else
              none
          else
            none
        else
          none
      else
        none
    else
      none
  else
    Xf d 295 186 [xr 14 0, xi l1, xr 0 0, xr 0 0, xi 0, xi 0, xr 0 0] [] V := Xx_es [29, 44, 110, 186, 222] P_X12_rank 2 _ _ _ V
set_option maxRecDepth 100000 in
theorem s_X12_rank_186 (d : Nat) (V : XM) (l1 : Int) (l4 : Int) (l5 : Int) : Xf d 295 186 [xr 14 0, xi l1, xr 0 0, xr 0 0, xi l4, xi l5, xr 0 0] [] V =
    if 0 ≤ l1 ∧ l1 < 6 then
    if l5 < (V 103 0 (l1.toNat)) then
      if 0 ≤ l5 ∧ l5 < 16 then
        if (V 109 0 (l5.toNat)) = l5 then
          Xf d 295 222 [xr 14 0, xi l1, xr 0 0, xr 0 0, xi (w32 (l4 + 0)), xi l5, xi 0] [] V
        else
          Xf d 295 222 [xr 14 0, xi l1, xr 0 0, xr 0 0, xi (w32 (l4 + 1)), xi l5, xi 0] [] V
      else
        none
    else
      some (xi l4, V)
  else
    none := Xx_es [29, 44, 110, 186, 222] P_X12_rank 3 _ _ _ V
set_option maxRecDepth 100000 in
theorem s_X12_rank_222 (d : Nat) (V : XM) (l1 : Int) (l4 : Int) (l5 : Int) (l6 : Int) : Xf d 295 222 [xr 14 0, xi l1, xr 0 0, xr 0 0, xi l4, xi l5, xi l6] [] V =
    if l6 < 5 then
    if 0 ≤ l5 ∧ l5 < 16 then
      if 0 ≤ w32 ((w32 (5 * (V 109 0 (l5.toNat)))) + l6) ∧ w32 ((w32 (5 * (V 109 0 (l5.toNat)))) + l6) < 80 then
        if 0 ≤ w32 ((w32 ((w32 (80 * l1)) + (w32 (5 * l5)))) + l6) ∧ w32 ((w32 ((w32 (80 * l1)) + (w32 (5 * l5)))) + l6) < 480 then
          if 0 ≤ l5 ∧ l5 < 16 then
            if 0 ≤ w32 ((w32 (5 * (V 109 0 (l5.toNat)))) + l6) ∧ w32 ((w32 (5 * (V 109 0 (l5.toNat)))) + l6) < 80 then
              if 0 ≤ w32 ((w32 ((w32 (80 * l1)) + (w32 (5 * l5)))) + l6) ∧ w32 ((w32 ((w32 (80 * l1)) + (w32 (5 * l5)))) + l6) < 480 then
                if 0 ≤ l5 ∧ l5 < 16 then
                  if 0 ≤ w32 ((w32 (5 * (V 109 0 (l5.toNat)))) + l6) ∧ w32 ((w32 (5 * (V 109 0 (l5.toNat)))) + l6) < 80 then
                    if 0 ≤ w32 ((w32 ((w32 (80 * l1)) + (w32 (5 * l5)))) + l6) ∧ w32 ((w32 ((w32 (80 * l1)) + (w32 (5 * l5)))) + l6) < 480 then
                      Xf d 295 222 [xr 14 0, xi l1, xr 0 0, xr 0 0, xi l4, xi l5, xi (w32 (l6 + 1))] [] (xu (xu (xu V 106 0 ((w32 ((w32 ((w32 (80 * l1)) + (w32 (5 * l5)))) + l6)).toNat) ((V 110 0 ((w32 ((w32 (5 * (V 109 0 (l5.toNat)))) + l6)).toNat)) % 2)) 107 0 ((w32 ((w32 ((w32 (80 * l1)) + (w32 (5 * l5)))) + l6)).toNat) (V 111 0 ((w32 ((w32 (5 * (V 109 0 (l5.toNat)))) + l6)).toNat))) 108 0 ((w32 ((w32 ((w32 (80 * l1)) + (w32 (5 * l5)))) + l6)).toNat) (V 112 0 ((w32 ((w32 (5 * (V 109 0 (l5.toNat)))) + l6)).toNat)))
                    else
                      none
                  else
                    none
                else
                  none
              else
                none
            else
              none
          else
            none
        else
          none
      else
        none
    else
      none
  else
    Xf d 295 186 [xr 14 0, xi l1, xr 0 0, xr 0 0, xi l4, xi (w32 (l5 + 1)), xr 0 0] [] V := Xx_es [29, 44, 110, 186, 222] P_X12_rank 2 _ _ _ V
set_option maxRecDepth 100000 in
theorem s_X12_rank_44 (d : Nat) (V : XM) (l1 : Int) (l2 : Int) (l3 : Int) (l4 : Int) (l5 : Int) : Xf d 295 44 [xr 14 0, xi l1, xi l2, xi l3, xi l4, xi l5, xr 0 0] [] V =
    if 0 < l5 then
    if 0 ≤ w32 (l5 - 1) ∧ w32 (l5 - 1) < 16 then
      ci (Yf d 294 [xr 14 0, xi l1, xi l2, xi l4, xi (V 109 0 ((w32 (l5 - 1)).toNat)), xi l3] V) (fun x2 V1 =>
        if x2 = 0 then
          if 0 ≤ l5 ∧ l5 < 16 then
            Xf d 295 29 [xr 14 0, xi l1, xi l2, xi l3, xi (w32 (l4 + 1)), xr 0 0, xr 0 0] [] (xu V1 109 0 (l5.toNat) l4)
          else
            none
        else
          if 0 ≤ w32 (l5 - 1) ∧ w32 (l5 - 1) < 16 then
            if 0 ≤ l5 ∧ l5 < 16 then
              Xf d 295 44 [xr 14 0, xi l1, xi l2, xi l3, xi l4, xi (w32 (l5 + (-1))), xr 0 0] [] (xu V1 109 0 (l5.toNat) (V1 109 0 ((w32 (l5 - 1)).toNat)))
            else
              none
          else
            none)
    else
      none
  else
    if 0 ≤ l5 ∧ l5 < 16 then
      Xf d 295 29 [xr 14 0, xi l1, xi l2, xi l3, xi (w32 (l4 + 1)), xr 0 0, xr 0 0] [] (xu V 109 0 (l5.toNat) l4)
    else
      none := Xx_es [29, 44, 110, 186, 222] P_X12_rank 2 _ _ _ V
set_option maxRecDepth 100000 in
theorem s_X12_filledIn (d : Nat) (V : XM) (a : Int) (b : Int) : Yf (d + 1) 296 [xr 14 0, xi a, xi b] V =
    Xf d 296 5 [xr 14 0, xi a, xi b, xi 0, xi 0] [] V := Xc_es [5] P_X12_filledIn 1 _ V
set_option maxRecDepth 100000 in
theorem s_X12_filledIn_5 (d : Nat) (V : XM) (l1 : Int) (l2 : Int) (l3 : Int) (l4 : Int) : Xf d 296 5 [xr 14 0, xi l1, xi l2, xi l3, xi l4] [] V =
    if 0 ≤ l1 ∧ l1 < 6 then
    if l4 < (V 103 0 (l1.toNat)) then
      ci (Yf d 289 [xi l1, xi l4, xi l2] V) (fun x2 V1 =>
        if 0 ≤ x2 ∧ x2 < 480 then
          if (V1 106 0 (x2.toNat)) = 0 then
            Xf d 296 5 [xr 14 0, xi l1, xi l2, xi (w32 (l3 + 1)), xi (w32 (l4 + 1))] [] V1
          else
            Xf d 296 5 [xr 14 0, xi l1, xi l2, xi (w32 (l3 + 0)), xi (w32 (l4 + 1))] [] V1
        else
          none)
    else
      some (xi l3, V)
  else
    none := Xx_es [5] P_X12_filledIn 3 _ _ _ V
set_option maxRecDepth 100000 in
theorem s_X12_sumOf (d : Nat) (V : XM) (a : Int) (b : Int) : Yf (d + 1) 297 [xr 14 0, xi a, xi b] V =
    Xf d 297 5 [xr 14 0, xi a, xi b, xl 0, xr 0 0, xi 0, xr 0 0] [] V := Xc_es [5] P_X12_sumOf 1 _ V
set_option maxRecDepth 100000 in
theorem s_X12_sumOf_5 (d : Nat) (V : XM) (l1 : Int) (l2 : Int) (l3 : Int) (l5 : Int) : Xf d 297 5 [xr 14 0, xi l1, xi l2, xl l3, xr 0 0, xi l5, xr 0 0] [] V =
    if 0 ≤ l1 ∧ l1 < 6 then
    if l5 < (V 103 0 (l1.toNat)) then
      ci (Yf d 289 [xi l1, xi l5, xi l2] V) (fun x2 V1 =>
        if 0 ≤ x2 ∧ x2 < 480 then
          if (V1 106 0 (x2.toNat)) = 0 then
            if 0 ≤ x2 ∧ x2 < 480 then
              Xf d 297 5 [xr 14 0, xi l1, xi l2, xl (w64 (l3 + (V1 107 0 (x2.toNat)))), xr 0 0, xi (w32 (l5 + 1)), xr 0 0] [] V1
            else
              none
          else
            Xf d 297 5 [xr 14 0, xi l1, xi l2, xl (w64 (l3 + 0)), xr 0 0, xi (w32 (l5 + 1)), xr 0 0] [] V1
        else
          none)
    else
      some (xl l3, V)
  else
    none := Xx_es [5] P_X12_sumOf 3 _ _ _ V
set_option maxRecDepth 100000 in
theorem s_X12_total (d : Nat) (V : XM) (a : Int) (b : Int) : Yf (d + 1) 298 [xr 14 0, xi a, xi b] V =
    ci (Yf d 285 [xr 14 0, xi a] V) (fun x2 V1 =>
    if x2 = 0 then
      some (xl (-1), V1)
    else
      ci (Yf d 287 [xr 14 0, xi a, xi b] V1) (fun x4 V3 =>
        if x4 = 0 then
          ci (Yf d 190 [xr 14 0, xi (-12)] V3) (fun x6 V5 =>
            some (xl x6, V5))
        else
          cl (Yf d 297 [xr 14 0, xi a, xi b] V3) (fun x8 V7 =>
            some (xl x8, V7)))) := Xc_es [] P_X12_total 4 _ V
set_option maxRecDepth 100000 in
theorem s_X12_mean (d : Nat) (V : XM) (a : Int) (b : Int) : Yf (d + 1) 299 [xr 14 0, xi a, xi b] V =
    ci (Yf d 285 [xr 14 0, xi a] V) (fun x2 V1 =>
    if x2 = 0 then
      some (xl (-1), V1)
    else
      ci (Yf d 287 [xr 14 0, xi a, xi b] V1) (fun x4 V3 =>
        if x4 = 0 then
          ci (Yf d 190 [xr 14 0, xi (-12)] V3) (fun x6 V5 =>
            some (xl x6, V5))
        else
          ci (Yf d 296 [xr 14 0, xi a, xi b] V3) (fun x8 V7 =>
            if x8 = 0 then
              ci (Yf d 190 [xr 14 0, xi (-16)] V7) (fun x10 V9 =>
                some (xl x10, V9))
            else
              cl (Yf d 297 [xr 14 0, xi a, xi b] V7) (fun x12 V11 =>
                if x8 = 0 then
                  none
                else
                  some (xl (w64 (Int.tdiv x12 x8)), V11))))) := Xc_es [] P_X12_mean 5 _ V
set_option maxRecDepth 100000 in
theorem s_X12_add (d : Nat) (V : XM) (a : Int) : Yf (d + 1) 300 [xr 14 0, xi a] V =
    if 0 ≤ V 14 0 56 ∧ V 14 0 56 < 2048 then
    some (xi 0, (xu (xu V 113 0 ((V 14 0 56).toNat) a) 14 0 56 (w32 ((V 14 0 56) + 1))))
  else
    none := Xc_es [] P_X12_add 1 _ V
set_option maxRecDepth 100000 in
theorem s_X12_make (d : Nat) (V : XM) : Yf (d + 1) 301 [xr 14 0] V =
    Xf d 301 4 [xr 14 0, xi 0, xi 0, xr 0 0, xr 0 0] [] V := Xc_es [4, 73, 112, 164, 174, 212, 230] P_X12_make 1 _ V
set_option maxRecDepth 100000 in
theorem s_X12_make_4 (d : Nat) (V : XM) (l1 : Int) (l2 : Int) : Xf d 301 4 [xr 14 0, xi l1, xi l2, xr 0 0, xr 0 0] [] V =
    if l2 < (V 14 0 9) then
    if l1 = 0 then
      ci (Yf d 268 [xr 14 0, xi l2] V) (fun x2 V1 =>
        if x2 = 0 then
          Xf d 301 4 [xr 14 0, xi 0, xi (w32 (l2 + 1)), xr 0 0, xr 0 0] [] V1
        else
          Xf d 301 4 [xr 14 0, xi 1, xi (w32 (l2 + 1)), xr 0 0, xr 0 0] [] V1)
    else
      Xf d 301 4 [xr 14 0, xi 1, xi (w32 (l2 + 1)), xr 0 0, xr 0 0] [] V
  else
    if l1 = 0 then
      some (xi (-3), V)
    else
      ci (Yf d 244 [xr 14 0] V) (fun x4 V3 =>
        if 0 < x4 then
          some (xi (-3), V3)
        else
          cv (Yf d 300 [xr 14 0, xi (V3 14 0 1)] (xu V3 14 0 56 0)) (fun V5 =>
            cv (Yf d 300 [xr 14 0, xi (V5 14 0 9)] V5) (fun V6 =>
              Xf d 301 73 [xr 14 0, xr 0 0, xi 0, xr 0 0, xr 0 0] [] V6))) := Xx_es [4, 73, 112, 164, 174, 212, 230] P_X12_make 3 _ _ _ V
set_option maxRecDepth 100000 in
theorem s_X12_make_73 (d : Nat) (V : XM) (l2 : Int) : Xf d 301 73 [xr 14 0, xr 0 0, xi l2, xr 0 0, xr 0 0] [] V =
    if l2 < (V 14 0 9) then
    if 0 ≤ l2 ∧ l2 < 64 then
      cv (Yf d 300 [xr 14 0, xi (V 73 0 (l2.toNat))] V) (fun V1 =>
        ci (Yf d 215 [xr 14 0, xi l2] V1) (fun x3 V2 =>
          cv (Yf d 300 [xr 14 0, xi x3] V2) (fun V4 =>
            if 0 ≤ l2 ∧ l2 < 64 then
              cv (Yf d 300 [xr 14 0, xi (V4 74 0 (l2.toNat))] V4) (fun V5 =>
                Xf d 301 112 [xr 14 0, xr 0 0, xi l2, xi 0, xr 0 0] [] V5)
            else
              none)))
    else
      none
  else
    Xf d 301 164 [xr 14 0, xr 0 0, xi 0, xr 0 0, xr 0 0] [] V := Xx_es [4, 73, 112, 164, 174, 212, 230] P_X12_make 2 _ _ _ V
set_option maxRecDepth 100000 in
theorem s_X12_make_164 (d : Nat) (V : XM) (l2 : Int) : Xf d 301 164 [xr 14 0, xr 0 0, xi l2, xr 0 0, xr 0 0] [] V =
    if l2 < (V 14 0 9) then
    Xf d 301 174 [xr 14 0, xr 0 0, xi l2, xi 0, xr 0 0] [] V
  else
    Xf d 301 212 [xr 14 0, xr 0 0, xi 0, xr 0 0, xr 0 0] [] V := Xx_es [4, 73, 112, 164, 174, 212, 230] P_X12_make 2 _ _ _ V
set_option maxRecDepth 100000 in
theorem s_X12_make_212 (d : Nat) (V : XM) (l2 : Int) : Xf d 301 212 [xr 14 0, xr 0 0, xi l2, xr 0 0, xr 0 0] [] V =
    if l2 < (V 14 0 29) then
    cv (Yf d 264 [xr 14 0, xi l2] V) (fun V1 =>
      Xf d 301 230 [xr 14 0, xr 0 0, xi l2, xi 0, xi 0] [] V1)
  else
    some (xi (V 14 0 56), V) := Xx_es [4, 73, 112, 164, 174, 212, 230] P_X12_make 2 _ _ _ V
set_option maxRecDepth 100000 in
theorem s_X12_make_230 (d : Nat) (V : XM) (l2 : Int) (l3 : Int) (l4 : Int) : Xf d 301 230 [xr 14 0, xr 0 0, xi l2, xi l3, xi l4] [] V =
    if l4 < (w32 (64 * (V 14 0 9))) then
    if (Int.tmod l4 64) < (V 14 0 9) then
      if 0 ≤ l4 ∧ l4 < 4096 then
        if (V 94 0 (l4.toNat)) = 0 then
          Xf d 301 230 [xr 14 0, xr 0 0, xi l2, xi (w32 (l3 + 0)), xi (w32 (l4 + 1))] [] V
        else
          Xf d 301 230 [xr 14 0, xr 0 0, xi l2, xi (w32 (l3 + 1)), xi (w32 (l4 + 1))] [] V
      else
        none
    else
      Xf d 301 230 [xr 14 0, xr 0 0, xi l2, xi (w32 (l3 + 0)), xi (w32 (l4 + 1))] [] V
  else
    if 0 ≤ l2 ∧ l2 < 8 then
      cv (Yf d 300 [xr 14 0, xi (V 90 0 (l2.toNat))] V) (fun V1 =>
        cv (Yf d 300 [xr 14 0, xi l3] V1) (fun V2 =>
          Xf d 301 212 [xr 14 0, xr 0 0, xi (w32 (l2 + 1)), xr 0 0, xr 0 0] [] V2))
    else
      none := Xx_es [4, 73, 112, 164, 174, 212, 230] P_X12_make 3 _ _ _ V
set_option maxRecDepth 100000 in
theorem s_X12_make_174 (d : Nat) (V : XM) (l2 : Int) (l3 : Int) : Xf d 301 174 [xr 14 0, xr 0 0, xi l2, xi l3, xr 0 0] [] V =
    if l3 < 8 then
    ci (Yf d 268 [xr 14 0, xi l2] V) (fun x2 V1 =>
      if x2 = 0 then
        Xf d 301 164 [xr 14 0, xr 0 0, xi (w32 (l2 + 1)), xr 0 0, xr 0 0] [] V1
      else
        ci (Yf d 272 [xr 14 0, xi l2, xi l3] V1) (fun x4 V3 =>
          cv (Yf d 300 [xr 14 0, xi x4] V3) (fun V5 =>
            Xf d 301 174 [xr 14 0, xr 0 0, xi l2, xi (w32 (l3 + 1)), xr 0 0] [] V5)))
  else
    Xf d 301 164 [xr 14 0, xr 0 0, xi (w32 (l2 + 1)), xr 0 0, xr 0 0] [] V := Xx_es [4, 73, 112, 164, 174, 212, 230] P_X12_make 2 _ _ _ V
set_option maxRecDepth 100000 in
theorem s_X12_make_112 (d : Nat) (V : XM) (l2 : Int) (l3 : Int) : Xf d 301 112 [xr 14 0, xr 0 0, xi l2, xi l3, xr 0 0] [] V =
    if l3 < (V 14 0 3) then
    if 0 ≤ l2 ∧ l2 < 64 then
      if 0 ≤ l3 ∧ l3 < 12 then
        ci (Yf d 194 [xr 14 0, xi (V 73 0 (l2.toNat)), xi (V 68 0 (l3.toNat))] V) (fun x2 V1 =>
          if x2 = 0 then
            Xf d 301 112 [xr 14 0, xr 0 0, xi l2, xi (w32 (l3 + 1)), xr 0 0] [] V1
          else
            cl (Yf d 224 [xr 14 0, xi l2, xi l3] V1) (fun x4 V3 =>
              cv (Yf d 300 [xr 14 0, xi (w32 x4)] V3) (fun V5 =>
                Xf d 301 112 [xr 14 0, xr 0 0, xi l2, xi (w32 (l3 + 1)), xr 0 0] [] V5)))
      else
        none
    else
      none
  else
    Xf d 301 73 [xr 14 0, xr 0 0, xi (w32 (l2 + 1)), xr 0 0, xr 0 0] [] V := Xx_es [4, 73, 112, 164, 174, 212, 230] P_X12_make 2 _ _ _ V
set_option maxRecDepth 100000 in
theorem s_X12_word (d : Nat) (V : XM) (a : Int) : Yf (d + 1) 302 [xr 14 0, xi a] V =
    ci (Yf d 189 [xl a, xl 0, xl (w32 ((V 14 0 56) - 1))] V) (fun x2 V1 =>
    if x2 = 0 then
      some (xi (-9), V1)
    else
      if 0 ≤ a ∧ a < 2048 then
        some (xi (V1 113 0 (a.toNat)), V1)
      else
        none) := Xc_es [] P_X12_word 3 _ V
set_option maxRecDepth 100000 in
theorem s_X12_digest (d : Nat) (V : XM) : Yf (d + 1) 303 [xr 14 0] V =
    Xf d 303 6 [xr 14 0, xl 17, xr 0 0, xi 0] [] V := Xc_es [6] P_X12_digest 1 _ V
set_option maxRecDepth 100000 in
theorem s_X12_digest_6 (d : Nat) (V : XM) (l1 : Int) (l3 : Int) : Xf d 303 6 [xr 14 0, xl l1, xr 0 0, xi l3] [] V =
    if l3 < (V 14 0 56) then
    if 0 ≤ l3 ∧ l3 < 2048 then
      Xf d 303 6 [xr 14 0, xl (w64 ((w64 (31 * l1)) + (V 113 0 (l3.toNat)))), xr 0 0, xi (w32 (l3 + 1))] [] V
    else
      none
  else
    some (xl l1, V) := Xx_es [6] P_X12_digest 2 _ _ _ V
set_option maxRecDepth 100000 in
theorem s_X12_sentence (d : Nat) (V : XM) (a : Int) (b : Int) : Yf (d + 1) 304 [xr 14 0, xi a, xi b] V =
    ci (Yf d 189 [xl a, xl 0, xl (w32 ((V 14 0 22) - 1))] V) (fun x2 V1 =>
    if x2 = 0 then
      some (xi (-1), V1)
    else
      if b = 0 then
        if 0 ≤ a ∧ a < 300 then
          some (xi (V1 85 0 (a.toNat)), V1)
        else
          none
      else
        if b = 1 then
          if 0 ≤ a ∧ a < 300 then
            some (xi (V1 86 0 (a.toNat)), V1)
          else
            none
        else
          if b = 2 then
            if 0 ≤ a ∧ a < 300 then
              some (xi (V1 87 0 (a.toNat)), V1)
            else
              none
          else
            some (xi (-2), V1)) := Xc_es [] P_X12_sentence 6 _ V
set_option maxRecDepth 100000 in
theorem s_X12_count (d : Nat) (V : XM) (a : Int) : Yf (d + 1) 305 [xr 14 0, xi a] V =
    if a = 0 then
    some (xi (V 14 0 1), V)
  else
    if a = 0 + 1 then
      some (xi (V 14 0 3), V)
    else
      if a = 0 + 1 + 1 then
        some (xi (V 14 0 9), V)
      else
        if a = 0 + 1 + 1 + 1 then
          some (xi (V 14 0 22), V)
        else
          if a = 0 + 1 + 1 + 1 + 1 then
            some (xi (V 14 0 29), V)
          else
            if a = 0 + 1 + 1 + 1 + 1 + 1 then
              some (xi (V 14 0 39), V)
            else
              if a = 0 + 1 + 1 + 1 + 1 + 1 + 1 then
                some (xi (V 14 0 45), V)
              else
                if a = 0 + 1 + 1 + 1 + 1 + 1 + 1 + 1 then
                  ci (Yf d 244 [xr 14 0] V) (fun x2 V1 =>
                    some (xi x2, V1))
                else
                  if a = 0 + 1 + 1 + 1 + 1 + 1 + 1 + 1 + 1 then
                    some (xi (V 14 0 56), V)
                  else
                    if a = 0 + 1 + 1 + 1 + 1 + 1 + 1 + 1 + 1 + 1 then
                      some (xi (V 14 0 27), V)
                    else
                      some (xi (-2), V) := Xc_es [] P_X12_count 2 _ V
set_option maxRecDepth 100000 in
theorem s_X12_fault (d : Nat) (V : XM) : Yf (d + 1) 306 [xr 14 0] V =
    some (xi (V 14 0 0), V) := Xc_es [] P_X12_fault 1 _ V
set_option maxRecDepth 100000 in
theorem s_X12_clear (d : Nat) (V : XM) : Yf (d + 1) 307 [xr 14 0] V =
    cv (Yf d 191 [xr 14 0] V) (fun V1 =>
    some (xi (V 14 0 9), V1)) := Xc_es [] P_X12_clear 1 _ V
set_option maxRecDepth 100000 in
theorem s_J13_bitCount_95d88 (d : Nat) (V : XM) (a : Int) : Yf (d + 1) 308 [xl a] V =
    some (xi (iAnd (w32 (w64 ((w64 ((w64 ((lAnd (w64 ((w64 ((lAnd (w64 (a - (lAnd (lUshr a 1) 6148914691236517205))) 3689348814741910323) + (lAnd (lUshr (w64 (a - (lAnd (lUshr a 1) 6148914691236517205))) 2) 3689348814741910323))) + (lUshr (w64 ((lAnd (w64 (a - (lAnd (lUshr a 1) 6148914691236517205))) 3689348814741910323) + (lAnd (lUshr (w64 (a - (lAnd (lUshr a 1) 6148914691236517205))) 2) 3689348814741910323))) 4))) 1085102592571150095) + (lUshr (lAnd (w64 ((w64 ((lAnd (w64 (a - (lAnd (lUshr a 1) 6148914691236517205))) 3689348814741910323) + (lAnd (lUshr (w64 (a - (lAnd (lUshr a 1) 6148914691236517205))) 2) 3689348814741910323))) + (lUshr (w64 ((lAnd (w64 (a - (lAnd (lUshr a 1) 6148914691236517205))) 3689348814741910323) + (lAnd (lUshr (w64 (a - (lAnd (lUshr a 1) 6148914691236517205))) 2) 3689348814741910323))) 4))) 1085102592571150095) 8))) + (lUshr (w64 ((lAnd (w64 ((w64 ((lAnd (w64 (a - (lAnd (lUshr a 1) 6148914691236517205))) 3689348814741910323) + (lAnd (lUshr (w64 (a - (lAnd (lUshr a 1) 6148914691236517205))) 2) 3689348814741910323))) + (lUshr (w64 ((lAnd (w64 (a - (lAnd (lUshr a 1) 6148914691236517205))) 3689348814741910323) + (lAnd (lUshr (w64 (a - (lAnd (lUshr a 1) 6148914691236517205))) 2) 3689348814741910323))) 4))) 1085102592571150095) + (lUshr (lAnd (w64 ((w64 ((lAnd (w64 (a - (lAnd (lUshr a 1) 6148914691236517205))) 3689348814741910323) + (lAnd (lUshr (w64 (a - (lAnd (lUshr a 1) 6148914691236517205))) 2) 3689348814741910323))) + (lUshr (w64 ((lAnd (w64 (a - (lAnd (lUshr a 1) 6148914691236517205))) 3689348814741910323) + (lAnd (lUshr (w64 (a - (lAnd (lUshr a 1) 6148914691236517205))) 2) 3689348814741910323))) 4))) 1085102592571150095) 8))) 16))) + (lUshr (w64 ((w64 ((lAnd (w64 ((w64 ((lAnd (w64 (a - (lAnd (lUshr a 1) 6148914691236517205))) 3689348814741910323) + (lAnd (lUshr (w64 (a - (lAnd (lUshr a 1) 6148914691236517205))) 2) 3689348814741910323))) + (lUshr (w64 ((lAnd (w64 (a - (lAnd (lUshr a 1) 6148914691236517205))) 3689348814741910323) + (lAnd (lUshr (w64 (a - (lAnd (lUshr a 1) 6148914691236517205))) 2) 3689348814741910323))) 4))) 1085102592571150095) + (lUshr (lAnd (w64 ((w64 ((lAnd (w64 (a - (lAnd (lUshr a 1) 6148914691236517205))) 3689348814741910323) + (lAnd (lUshr (w64 (a - (lAnd (lUshr a 1) 6148914691236517205))) 2) 3689348814741910323))) + (lUshr (w64 ((lAnd (w64 (a - (lAnd (lUshr a 1) 6148914691236517205))) 3689348814741910323) + (lAnd (lUshr (w64 (a - (lAnd (lUshr a 1) 6148914691236517205))) 2) 3689348814741910323))) 4))) 1085102592571150095) 8))) + (lUshr (w64 ((lAnd (w64 ((w64 ((lAnd (w64 (a - (lAnd (lUshr a 1) 6148914691236517205))) 3689348814741910323) + (lAnd (lUshr (w64 (a - (lAnd (lUshr a 1) 6148914691236517205))) 2) 3689348814741910323))) + (lUshr (w64 ((lAnd (w64 (a - (lAnd (lUshr a 1) 6148914691236517205))) 3689348814741910323) + (lAnd (lUshr (w64 (a - (lAnd (lUshr a 1) 6148914691236517205))) 2) 3689348814741910323))) 4))) 1085102592571150095) + (lUshr (lAnd (w64 ((w64 ((lAnd (w64 (a - (lAnd (lUshr a 1) 6148914691236517205))) 3689348814741910323) + (lAnd (lUshr (w64 (a - (lAnd (lUshr a 1) 6148914691236517205))) 2) 3689348814741910323))) + (lUshr (w64 ((lAnd (w64 (a - (lAnd (lUshr a 1) 6148914691236517205))) 3689348814741910323) + (lAnd (lUshr (w64 (a - (lAnd (lUshr a 1) 6148914691236517205))) 2) 3689348814741910323))) 4))) 1085102592571150095) 8))) 16))) 32)))) 127), V) := Xc_es [] P_J13_bitCount_95d88 1 _ V
set_option maxRecDepth 100000 in
theorem s_J9_max_7cf53 (d : Nat) (V : XM) (a : Int) (b : Int) : Yf (d + 1) 309 [xi a, xi b] V =
    if a < b then
    some (xi b, V)
  else
    some (xi a, V) := Xc_es [] P_J9_max_7cf53 3 _ V
end
section
/-! numbers of the machine and of the abstract machine -/
def c32 (x : Int) : Prop := -2147483648 ≤ x ∧ x < 2147483648
def c64 (x : Int) : Prop := -9223372036854775808 ≤ x ∧ x < 9223372036854775808
theorem w32_c (x : Int) : c32 (w32 x) := by unfold c32 w32; omega
theorem w64_c (x : Int) : c64 (w64 x) := by unfold c64 w64; omega
theorem w8_c (x : Int) : c32 (w8 x) := by unfold c32 w8; omega
theorem w16_c (x : Int) : c32 (w16 x) := by unfold c32 w16; omega
theorem c16_c (x : Int) : c32 (c16 x) := by unfold c32 c16; omega
theorem c32_of (x : Int32) : c32 x.toInt := ⟨x.le_toInt, x.toInt_lt⟩
theorem c64_of (x : Int64) : c64 x.toInt := ⟨x.le_toInt, x.toInt_lt⟩
theorem c32_64 {x : Int} (h : c32 x) : c64 x := by unfold c32 at h; unfold c64; omega
theorem n32_id {x : Int} (h : c32 x) : (Int32.ofInt x).toInt = x := Int32.toInt_ofInt_of_le h.1 h.2
theorem n64_id {x : Int} (h : c64 x) : (Int64.ofInt x).toInt = x := Int64.toInt_ofInt_of_le h.1 h.2
theorem w32_id {x : Int} (h : c32 x) : w32 x = x := by unfold c32 at h; unfold w32; omega
theorem w64_id {x : Int} (h : c64 x) : w64 x = x := by unfold c64 at h; unfold w64; omega
theorem n32_w (x : Int) : Int32.ofInt (w32 x) = Int32.ofInt x := by
  apply Int32.toInt_inj.mp
  rw [Int32.toInt_ofInt, Int32.toInt_ofInt]
  show (w32 x).bmod 4294967296 = x.bmod 4294967296
  unfold w32 Int.bmod
  dsimp only
  split <;> split <;> omega
theorem n64_w (x : Int) : Int64.ofInt (w64 x) = Int64.ofInt x := by
  apply Int64.toInt_inj.mp
  rw [Int64.toInt_ofInt, Int64.toInt_ofInt]
  show (w64 x).bmod 18446744073709551616 = x.bmod 18446744073709551616
  unfold w64 Int.bmod
  dsimp only
  split <;> split <;> omega
theorem n32_inj {x y : Int} (hx : c32 x) (hy : c32 y) : Int32.ofInt x = Int32.ofInt y ↔ x = y := by
  constructor
  · intro h
    have := congrArg Int32.toInt h
    rwa [n32_id hx, n32_id hy] at this
  · intro h; rw [h]
theorem n64_inj {x y : Int} (hx : c64 x) (hy : c64 y) : Int64.ofInt x = Int64.ofInt y ↔ x = y := by
  constructor
  · intro h
    have := congrArg Int64.toInt h
    rwa [n64_id hx, n64_id hy] at this
  · intro h; rw [h]
theorem n32_lt {x y : Int} (hx : c32 x) (hy : c32 y) : Int32.ofInt x < Int32.ofInt y ↔ x < y := by
  rw [Int32.lt_iff_toInt_lt, n32_id hx, n32_id hy]
theorem n32_le {x y : Int} (hx : c32 x) (hy : c32 y) : Int32.ofInt x ≤ Int32.ofInt y ↔ x ≤ y := by
  rw [Int32.le_iff_toInt_le, n32_id hx, n32_id hy]
theorem n64_lt {x y : Int} (hx : c64 x) (hy : c64 y) : Int64.ofInt x < Int64.ofInt y ↔ x < y := by
  rw [Int64.lt_iff_toInt_lt, n64_id hx, n64_id hy]
theorem n32_nat {x : Int} (hx : c32 x) : (Int32.ofInt x).toNatClampNeg = x.toNat := by
  show (Int32.ofInt x).toInt.toNat = _
  rw [n32_id hx]
theorem n32_in {x : Int} (hx : c32 x) {n : Nat} (h : 0 ≤ x ∧ x < (n : Int)) : vp_in (Int32.ofInt x) n := by
  unfold vp_in
  rw [n32_nat hx]
  intro q
  rcases q with q | q
  · rw [show (0 : Int32) = Int32.ofInt 0 from rfl, n32_lt hx (by unfold c32; omega)] at q
    omega
  · omega
theorem n32_div {x y : Int} (hx : c32 x) (hy : c32 y) : Int32.ofInt x / Int32.ofInt y = Int32.ofInt (w32 (Int.tdiv x y)) := by
  apply Int32.toInt_inj.mp
  rw [Int32.toInt_div, n32_id hx, n32_id hy, n32_w, Int32.toInt_ofInt]
theorem n64_div {x y : Int} (hx : c64 x) (hy : c64 y) : Int64.ofInt x / Int64.ofInt y = Int64.ofInt (w64 (Int.tdiv x y)) := by
  apply Int64.toInt_inj.mp
  rw [Int64.toInt_div, n64_id hx, n64_id hy, n64_w, Int64.toInt_ofInt]
theorem tmod_c {x y : Int} (hx : c32 x) : c32 (Int.tmod x y) := by
  unfold c32 at hx ⊢
  have h1 := Int.natAbs_tmod x y
  have h2 := Nat.mod_le x.natAbs y.natAbs
  by_cases h0 : 0 ≤ x
  · have h3 := Int.tmod_nonneg y h0
    omega
  · have h3 := Int.tmod_nonneg y (show 0 ≤ -x by omega)
    rw [Int.neg_tmod] at h3
    omega
theorem n32_rem {x y : Int} (hx : c32 x) (hy : c32 y) : Int32.ofInt x - Int32.ofInt x / Int32.ofInt y * Int32.ofInt y = Int32.ofInt (Int.tmod x y) := by
  rw [n32_div hx hy, n32_w, ← Int32.ofInt_mul, ← Int32.ofInt_sub]
  congr 1
  have := Int.tmod_add_tdiv_mul x y
  omega
theorem n32_toInt64 {x : Int} (hx : c32 x) : (Int32.ofInt x).toInt64 = Int64.ofInt x := by
  apply Int64.toInt_inj.mp
  rw [Int32.toInt_toInt64, n32_id hx, n64_id (c32_64 hx)]
theorem n64_toInt32 {x : Int} : (Int64.ofInt x).toInt32 = Int32.ofInt (w32 x) := by
  rw [n32_w]
  exact Int64.toInt32_ofInt
theorem n32_i2b {x : Int} : (Int32.ofInt x).toInt8.toInt32 = Int32.ofInt (w8 x) := by
  apply Int32.toInt_inj.mp
  rw [n32_id (w8_c x), Int32.toInt8_ofInt, Int8.toInt_toInt32, Int8.toInt_ofInt]
  show x.bmod 256 = _
  unfold w8 Int.bmod
  dsimp only
  split <;> omega
theorem n32_i2s {x : Int} : (Int32.ofInt x).toInt16.toInt32 = Int32.ofInt (w16 x) := by
  apply Int32.toInt_inj.mp
  rw [n32_id (w16_c x), Int32.toInt16_ofInt, Int16.toInt_toInt32, Int16.toInt_ofInt]
  show x.bmod 65536 = _
  unfold w16 Int.bmod
  dsimp only
  split <;> omega
theorem iAnd_c (x y : Int) : c32 (iAnd x y) := c32_of _
theorem iOr_c (x y : Int) : c32 (iOr x y) := c32_of _
theorem iXor_c (x y : Int) : c32 (iXor x y) := c32_of _
theorem lAnd_c (x y : Int) : c64 (lAnd x y) := c64_of _
theorem lOr_c (x y : Int) : c64 (lOr x y) := c64_of _
theorem lXor_c (x y : Int) : c64 (lXor x y) := c64_of _
theorem lShl_c (x y : Int) : c64 (lShl x y) := w64_c _
theorem lUshr_c (x y : Int) : c64 (lUshr x y) := w64_c _
theorem fF2L_c (x : Int) : c64 (fF2L x) := c64_of _
theorem fD2L_c (x : Int) : c64 (fD2L x) := c64_of _
theorem fDcmp_c (op : CmpOp) (x y : Int) : c32 (fDcmp op x y) := c32_of _
theorem cmp3_c (x y : Int) : c32 (cmp3 x y) := by unfold cmp3 c32; split <;> (try split) <;> omega
theorem n32_i2c {x : Int} : ((Int32.ofInt x).toUInt32 % 65536).toInt32 = Int32.ofInt (c16 x) := by
  have h1 : ((Int32.ofInt x).toUInt32 % 65536).toNat = (x % 4294967296).toNat % 65536 := by
    rw [UInt32.toNat_mod]
    show (BitVec.ofInt 32 x).toNat % 65536 = _
    rw [BitVec.toNat_ofInt]
    rfl
  have h2 : (Int32.ofInt x).toUInt32 % 65536 = UInt32.ofNat (c16 x).toNat := by
    apply UInt32.toNat_inj.mp
    rw [h1]
    show _ = (BitVec.ofNat 32 (c16 x).toNat).toNat
    rw [BitVec.toNat_ofNat]
    unfold c16
    omega
  rw [h2]
  show UInt32.toInt32 (UInt32.ofNat _) = _
  rw [show c16 x = (((c16 x).toNat : Nat) : Int) by unfold c16; omega, Int32.ofInt_eq_ofNat]
  rfl
theorem n64_63 {y : Int} (hy : c32 y) : ((Int32.ofInt y).toInt64 &&& 63).toBitVec.toNat = (y % 64).toNat := by
  rw [n32_toInt64 hy]
  show (BitVec.ofInt 64 y &&& 63#64).toNat = _
  rw [BitVec.toNat_and, BitVec.toNat_ofInt]
  show (y % 18446744073709551616).toNat &&& (2 ^ 6 - 1) = _
  rw [Nat.and_two_pow_sub_one_eq_mod]
  omega
theorem n64_shl {x y : Int} (hy : c32 y) : Int64.ofInt x <<< ((Int32.ofInt y).toInt64 &&& 63) = Int64.ofInt (lShl x y) := by
  have h0 := n64_63 hy
  have hk : (y % 64).toNat < 64 := by omega
  have h1 : (((Int32.ofInt y).toInt64 &&& 63).toBitVec.smod 64).toNat = (y % 64).toNat := by
    generalize ((Int32.ofInt y).toInt64 &&& 63).toBitVec = v at h0
    have hv : v = BitVec.ofNat 64 (y % 64).toNat := by
      apply BitVec.eq_of_toNat_eq
      rw [h0, BitVec.toNat_ofNat]
      omega
    rw [hv]
    generalize (y % 64).toNat = k at hk
    exact (show ∀ k : Fin 64, ((BitVec.ofNat 64 k.val).smod 64).toNat = k.val by decide +kernel) ⟨k, hk⟩
  apply Int64.toBitVec_inj.mp
  show BitVec.ofInt 64 x <<< (((Int32.ofInt y).toInt64 &&& 63).toBitVec.smod 64).toNat = _
  rw [h1, BitVec.shiftLeft_eq_mul_twoPow]
  unfold lShl
  rw [n64_w]
  show _ = BitVec.ofInt 64 (x * 2 ^ (y % 64).toNat)
  rw [BitVec.ofInt_mul]
  congr 1
  apply BitVec.eq_of_toNat_eq
  rw [BitVec.toNat_twoPow, BitVec.toNat_ofInt]
  have : ((2 : Int) ^ (y % 64).toNat) = ((2 ^ (y % 64).toNat : Nat) : Int) := by rw [Int.natCast_pow]; rfl
  rw [this, ← Int.natCast_emod, Int.toNat_natCast]
theorem n64_ushr {x y : Int} (hy : c32 y) : ((Int64.ofInt x).toUInt64 >>> ((Int32.ofInt y).toInt64.toUInt64 &&& Int64.toUInt64 63)).toInt64 = Int64.ofInt (lUshr x y) := by
  have h1 : ((Int64.ofInt x).toUInt64 >>> ((Int32.ofInt y).toInt64.toUInt64 &&& Int64.toUInt64 63)).toNat = (x % 18446744073709551616).toNat / 2 ^ (y % 64).toNat := by
    rw [UInt64.toNat_shiftRight]
    have h2 : ((Int32.ofInt y).toInt64.toUInt64 &&& Int64.toUInt64 63).toNat = (y % 64).toNat := n64_63 hy
    rw [h2, show ((Int64.ofInt x).toUInt64).toNat = (x % 18446744073709551616).toNat by
      show (BitVec.ofInt 64 x).toNat = _
      rw [BitVec.toNat_ofInt]
      rfl, Nat.shiftRight_eq_div_pow, Nat.mod_eq_of_lt (by omega)]
  generalize (Int64.ofInt x).toUInt64 >>> ((Int32.ofInt y).toInt64.toUInt64 &&& Int64.toUInt64 63) = u at h1 ⊢
  have h3 : u.toInt64 = Int64.ofInt (u.toNat : Int) := by
    rw [Int64.ofInt_eq_ofNat]
    apply Int64.toBitVec_inj.mp
    show u.toBitVec = BitVec.ofNat 64 u.toNat
    apply BitVec.eq_of_toNat_eq
    rw [BitVec.toNat_ofNat]
    exact (Nat.mod_eq_of_lt u.toBitVec.isLt).symm
  rw [h3, h1]
  unfold lUshr
  rw [n64_w]
  congr 1
  rw [Int.natCast_ediv, Int.natCast_pow, Int.toNat_of_nonneg (by omega)]
  rfl
end
section
-- ===== PART A: goes FIRST, ahead of the names: the tables' words, and 'selects' of the private methods out of them =====
/-- a private method of a class that the tables say can be made, by its rows of tables_1 -/
def lw_okq (q : MethodName × Nat) : Prop := (q.1.cls ≠ "java/lang/invoke/MethodHandle" ∧ q.1.cls ≠ "java/lang/invoke/VarHandle") ∧ Cond.instantiable q.1.cls q.2 ∈ tables_1 ∧ Cond.privateMethod q.1 ∈ tables_1 ∧ Cond.instanceMethod q.1 ∈ tables_1
theorem lw_p0 : lw_okq (⟨"WorldMake", "beginAnew", "()V"⟩, 17) := ⟨⟨by decide +kernel, by decide +kernel⟩, List.mem_of_getElem? (i := 17) (by decide +kernel), List.mem_of_getElem? (i := 369) (by decide +kernel), List.mem_of_getElem? (i := 370) (by decide +kernel)⟩
theorem lw_p1 : lw_okq (⟨"WorldMake$Values", "emptyCell", "(I)J"⟩, 10) := ⟨⟨by decide +kernel, by decide +kernel⟩, List.mem_of_getElem? (i := 88) (by decide +kernel), List.mem_of_getElem? (i := 466) (by decide +kernel), List.mem_of_getElem? (i := 467) (by decide +kernel)⟩
theorem lw_p2 : lw_okq (⟨"WorldMake", "faulted", "(I)I"⟩, 17) := ⟨⟨by decide +kernel, by decide +kernel⟩, List.mem_of_getElem? (i := 17) (by decide +kernel), List.mem_of_getElem? (i := 493) (by decide +kernel), List.mem_of_getElem? (i := 494) (by decide +kernel)⟩
theorem lw_p3 : lw_okq (⟨"WorldMake$Rooms", "write", "(IIIII)V"⟩, 7) := ⟨⟨by decide +kernel, by decide +kernel⟩, List.mem_of_getElem? (i := 294) (by decide +kernel), List.mem_of_getElem? (i := 521) (by decide +kernel), List.mem_of_getElem? (i := 522) (by decide +kernel)⟩
theorem lw_p4 : lw_okq (⟨"WorldMake$Things", "isCarrier", "(I)Z"⟩, 8) := ⟨⟨by decide +kernel, by decide +kernel⟩, List.mem_of_getElem? (i := 41) (by decide +kernel), List.mem_of_getElem? (i := 547) (by decide +kernel), List.mem_of_getElem? (i := 548) (by decide +kernel)⟩
theorem lw_p5 : lw_okq (⟨"WorldMake$Places", "isLaid", "(I)Z"⟩, 16) := ⟨⟨by decide +kernel, by decide +kernel⟩, List.mem_of_getElem? (i := 164) (by decide +kernel), List.mem_of_getElem? (i := 580) (by decide +kernel), List.mem_of_getElem? (i := 581) (by decide +kernel)⟩
theorem lw_p6 : lw_okq (⟨"WorldMake$Places", "partner", "(II)I"⟩, 16) := ⟨⟨by decide +kernel, by decide +kernel⟩, List.mem_of_getElem? (i := 164) (by decide +kernel), List.mem_of_getElem? (i := 603) (by decide +kernel), List.mem_of_getElem? (i := 604) (by decide +kernel)⟩
theorem lw_p7 : lw_okq (⟨"WorldMake", "saying", "(II)I"⟩, 17) := ⟨⟨by decide +kernel, by decide +kernel⟩, List.mem_of_getElem? (i := 17) (by decide +kernel), List.mem_of_getElem? (i := 688) (by decide +kernel), List.mem_of_getElem? (i := 689) (by decide +kernel)⟩
theorem lw_p8 : lw_okq (⟨"WorldMake$Places", "bulkAlone", "(I)I"⟩, 16) := ⟨⟨by decide +kernel, by decide +kernel⟩, List.mem_of_getElem? (i := 164) (by decide +kernel), List.mem_of_getElem? (i := 701) (by decide +kernel), List.mem_of_getElem? (i := 702) (by decide +kernel)⟩
theorem lw_p9 : lw_okq (⟨"WorldMake", "stride", "(I)I"⟩, 17) := ⟨⟨by decide +kernel, by decide +kernel⟩, List.mem_of_getElem? (i := 17) (by decide +kernel), List.mem_of_getElem? (i := 718) (by decide +kernel), List.mem_of_getElem? (i := 719) (by decide +kernel)⟩
theorem lw_p10 : lw_okq (⟨"WorldMake$Places", "earliestBarInto", "(IJ)I"⟩, 16) := ⟨⟨by decide +kernel, by decide +kernel⟩, List.mem_of_getElem? (i := 164) (by decide +kernel), List.mem_of_getElem? (i := 758) (by decide +kernel), List.mem_of_getElem? (i := 759) (by decide +kernel)⟩
theorem lw_p11 : lw_okq (⟨"WorldMake$Settler", "layFrom", "(II)Z"⟩, 4) := ⟨⟨by decide +kernel, by decide +kernel⟩, List.mem_of_getElem? (i := 220) (by decide +kernel), List.mem_of_getElem? (i := 825) (by decide +kernel), List.mem_of_getElem? (i := 826) (by decide +kernel)⟩
theorem lw_p12 : lw_okq (⟨"WorldMake$Settler", "lets", "(II)Z"⟩, 4) := ⟨⟨by decide +kernel, by decide +kernel⟩, List.mem_of_getElem? (i := 220) (by decide +kernel), List.mem_of_getElem? (i := 830) (by decide +kernel), List.mem_of_getElem? (i := 831) (by decide +kernel)⟩
theorem lw_p13 : lw_okq (⟨"WorldMake", "areRelatable", "(III)Z"⟩, 17) := ⟨⟨by decide +kernel, by decide +kernel⟩, List.mem_of_getElem? (i := 17) (by decide +kernel), List.mem_of_getElem? (i := 864) (by decide +kernel), List.mem_of_getElem? (i := 865) (by decide +kernel)⟩
theorem lw_p14 : lw_okq (⟨"WorldMake$Relations", "rowOf", "(II)J"⟩, 7) := ⟨⟨by decide +kernel, by decide +kernel⟩, List.mem_of_getElem? (i := 264) (by decide +kernel), List.mem_of_getElem? (i := 877) (by decide +kernel), List.mem_of_getElem? (i := 878) (by decide +kernel)⟩
theorem lw_p15 : lw_okq (⟨"WorldMake$Relations", "earliestDeny", "(III)I"⟩, 7) := ⟨⟨by decide +kernel, by decide +kernel⟩, List.mem_of_getElem? (i := 264) (by decide +kernel), List.mem_of_getElem? (i := 885) (by decide +kernel), List.mem_of_getElem? (i := 886) (by decide +kernel)⟩
def lw_privs_1 : List (MethodName × Nat) := [(⟨"WorldMake", "beginAnew", "()V"⟩, 17), (⟨"WorldMake$Values", "emptyCell", "(I)J"⟩, 10), (⟨"WorldMake", "faulted", "(I)I"⟩, 17), (⟨"WorldMake$Rooms", "write", "(IIIII)V"⟩, 7), (⟨"WorldMake$Things", "isCarrier", "(I)Z"⟩, 8), (⟨"WorldMake$Places", "isLaid", "(I)Z"⟩, 16), (⟨"WorldMake$Places", "partner", "(II)I"⟩, 16), (⟨"WorldMake", "saying", "(II)I"⟩, 17), (⟨"WorldMake$Places", "bulkAlone", "(I)I"⟩, 16), (⟨"WorldMake", "stride", "(I)I"⟩, 17), (⟨"WorldMake$Places", "earliestBarInto", "(IJ)I"⟩, 16), (⟨"WorldMake$Settler", "layFrom", "(II)Z"⟩, 4), (⟨"WorldMake$Settler", "lets", "(II)Z"⟩, 4), (⟨"WorldMake", "areRelatable", "(III)Z"⟩, 17), (⟨"WorldMake$Relations", "rowOf", "(II)J"⟩, 7), (⟨"WorldMake$Relations", "earliestDeny", "(III)I"⟩, 7)]
theorem lw_r1 : ∀ q ∈ lw_privs_1, lw_okq q := List.forall_mem_cons.mpr ⟨lw_p0, List.forall_mem_cons.mpr ⟨lw_p1, List.forall_mem_cons.mpr ⟨lw_p2, List.forall_mem_cons.mpr ⟨lw_p3, List.forall_mem_cons.mpr ⟨lw_p4, List.forall_mem_cons.mpr ⟨lw_p5, List.forall_mem_cons.mpr ⟨lw_p6, List.forall_mem_cons.mpr ⟨lw_p7, List.forall_mem_cons.mpr ⟨lw_p8, List.forall_mem_cons.mpr ⟨lw_p9, List.forall_mem_cons.mpr ⟨lw_p10, List.forall_mem_cons.mpr ⟨lw_p11, List.forall_mem_cons.mpr ⟨lw_p12, List.forall_mem_cons.mpr ⟨lw_p13, List.forall_mem_cons.mpr ⟨lw_p14, List.forall_mem_cons.mpr ⟨lw_p15, fun _ h => absurd h List.not_mem_nil⟩⟩⟩⟩⟩⟩⟩⟩⟩⟩⟩⟩⟩⟩⟩⟩
theorem lw_p16 : lw_okq (⟨"WorldMake$Relations", "earliestRelate", "(III)I"⟩, 7) := ⟨⟨by decide +kernel, by decide +kernel⟩, List.mem_of_getElem? (i := 264) (by decide +kernel), List.mem_of_getElem? (i := 889) (by decide +kernel), List.mem_of_getElem? (i := 890) (by decide +kernel)⟩
theorem lw_p17 : lw_okq (⟨"WorldMake$Relations", "togetherBy", "(III)I"⟩, 7) := ⟨⟨by decide +kernel, by decide +kernel⟩, List.mem_of_getElem? (i := 264) (by decide +kernel), List.mem_of_getElem? (i := 909) (by decide +kernel), List.mem_of_getElem? (i := 910) (by decide +kernel)⟩
theorem lw_p18 : lw_okq (⟨"WorldMake$Rooms", "isPassable", "(IIZ)Z"⟩, 7) := ⟨⟨by decide +kernel, by decide +kernel⟩, List.mem_of_getElem? (i := 294) (by decide +kernel), List.mem_of_getElem? (i := 996) (by decide +kernel), List.mem_of_getElem? (i := 997) (by decide +kernel)⟩
theorem lw_p19 : lw_okq (⟨"WorldMake", "shelfTakes", "(LWorldMake$Shelf;I)Z"⟩, 17) := ⟨⟨by decide +kernel, by decide +kernel⟩, List.mem_of_getElem? (i := 17) (by decide +kernel), List.mem_of_getElem? (i := 1018) (by decide +kernel), List.mem_of_getElem? (i := 1019) (by decide +kernel)⟩
theorem lw_p20 : lw_okq (⟨"WorldMake$Table", "isAhead", "(IIIZ)Z"⟩, 6) := ⟨⟨by decide +kernel, by decide +kernel⟩, List.mem_of_getElem? (i := 343) (by decide +kernel), List.mem_of_getElem? (i := 1101) (by decide +kernel), List.mem_of_getElem? (i := 1102) (by decide +kernel)⟩
theorem lw_p21 : lw_okq (⟨"WorldMake$Table", "swap", "(II)V"⟩, 6) := ⟨⟨by decide +kernel, by decide +kernel⟩, List.mem_of_getElem? (i := 343) (by decide +kernel), List.mem_of_getElem? (i := 1105) (by decide +kernel), List.mem_of_getElem? (i := 1106) (by decide +kernel)⟩
theorem lw_p22 : lw_okq (⟨"WorldMake", "addWord", "(I)V"⟩, 17) := ⟨⟨by decide +kernel, by decide +kernel⟩, List.mem_of_getElem? (i := 17) (by decide +kernel), List.mem_of_getElem? (i := 1133) (by decide +kernel), List.mem_of_getElem? (i := 1134) (by decide +kernel)⟩
theorem lw_p23 : lw_okq (⟨"WorldMake", "addWordsOfThing", "(I)V"⟩, 17) := ⟨⟨by decide +kernel, by decide +kernel⟩, List.mem_of_getElem? (i := 17) (by decide +kernel), List.mem_of_getElem? (i := 1137) (by decide +kernel), List.mem_of_getElem? (i := 1138) (by decide +kernel)⟩
theorem lw_p24 : lw_okq (⟨"WorldMake", "addWordsOfRoom", "(I)V"⟩, 17) := ⟨⟨by decide +kernel, by decide +kernel⟩, List.mem_of_getElem? (i := 17) (by decide +kernel), List.mem_of_getElem? (i := 1141) (by decide +kernel), List.mem_of_getElem? (i := 1142) (by decide +kernel)⟩
theorem lw_p25 : lw_okq (⟨"WorldMakeModel", "begin", "()V"⟩, 58) := ⟨⟨by decide +kernel, by decide +kernel⟩, List.mem_of_getElem? (i := 1177) (by decide +kernel), List.mem_of_getElem? (i := 1183) (by decide +kernel), List.mem_of_getElem? (i := 1184) (by decide +kernel)⟩
theorem lw_p26 : lw_okq (⟨"WorldMakeModel", "isKind", "(I)Z"⟩, 58) := ⟨⟨by decide +kernel, by decide +kernel⟩, List.mem_of_getElem? (i := 1177) (by decide +kernel), List.mem_of_getElem? (i := 1367) (by decide +kernel), List.mem_of_getElem? (i := 1368) (by decide +kernel)⟩
theorem lw_p27 : lw_okq (⟨"WorldMakeModel", "comesTo", "(II)Z"⟩, 58) := ⟨⟨by decide +kernel, by decide +kernel⟩, List.mem_of_getElem? (i := 1177) (by decide +kernel), List.mem_of_getElem? (i := 1378) (by decide +kernel), List.mem_of_getElem? (i := 1379) (by decide +kernel)⟩
theorem lw_p28 : lw_okq (⟨"WorldMakeModel", "baseOf", "(I)I"⟩, 58) := ⟨⟨by decide +kernel, by decide +kernel⟩, List.mem_of_getElem? (i := 1177) (by decide +kernel), List.mem_of_getElem? (i := 1387) (by decide +kernel), List.mem_of_getElem? (i := 1388) (by decide +kernel)⟩
theorem lw_p29 : lw_okq (⟨"WorldMakeModel", "isProperty", "(I)Z"⟩, 58) := ⟨⟨by decide +kernel, by decide +kernel⟩, List.mem_of_getElem? (i := 1177) (by decide +kernel), List.mem_of_getElem? (i := 1395) (by decide +kernel), List.mem_of_getElem? (i := 1396) (by decide +kernel)⟩
theorem lw_p30 : lw_okq (⟨"WorldMakeModel", "isUnknown", "(IJ)Z"⟩, 58) := ⟨⟨by decide +kernel, by decide +kernel⟩, List.mem_of_getElem? (i := 1177) (by decide +kernel), List.mem_of_getElem? (i := 1399) (by decide +kernel), List.mem_of_getElem? (i := 1400) (by decide +kernel)⟩
theorem lw_p31 : lw_okq (⟨"WorldMakeModel", "isStored", "(IJ)Z"⟩, 58) := ⟨⟨by decide +kernel, by decide +kernel⟩, List.mem_of_getElem? (i := 1177) (by decide +kernel), List.mem_of_getElem? (i := 1404) (by decide +kernel), List.mem_of_getElem? (i := 1405) (by decide +kernel)⟩
def lw_privs_2 : List (MethodName × Nat) := [(⟨"WorldMake$Relations", "earliestRelate", "(III)I"⟩, 7), (⟨"WorldMake$Relations", "togetherBy", "(III)I"⟩, 7), (⟨"WorldMake$Rooms", "isPassable", "(IIZ)Z"⟩, 7), (⟨"WorldMake", "shelfTakes", "(LWorldMake$Shelf;I)Z"⟩, 17), (⟨"WorldMake$Table", "isAhead", "(IIIZ)Z"⟩, 6), (⟨"WorldMake$Table", "swap", "(II)V"⟩, 6), (⟨"WorldMake", "addWord", "(I)V"⟩, 17), (⟨"WorldMake", "addWordsOfThing", "(I)V"⟩, 17), (⟨"WorldMake", "addWordsOfRoom", "(I)V"⟩, 17), (⟨"WorldMakeModel", "begin", "()V"⟩, 58), (⟨"WorldMakeModel", "isKind", "(I)Z"⟩, 58), (⟨"WorldMakeModel", "comesTo", "(II)Z"⟩, 58), (⟨"WorldMakeModel", "baseOf", "(I)I"⟩, 58), (⟨"WorldMakeModel", "isProperty", "(I)Z"⟩, 58), (⟨"WorldMakeModel", "isUnknown", "(IJ)Z"⟩, 58), (⟨"WorldMakeModel", "isStored", "(IJ)Z"⟩, 58)]
theorem lw_r2 : ∀ q ∈ lw_privs_2, lw_okq q := List.forall_mem_cons.mpr ⟨lw_p16, List.forall_mem_cons.mpr ⟨lw_p17, List.forall_mem_cons.mpr ⟨lw_p18, List.forall_mem_cons.mpr ⟨lw_p19, List.forall_mem_cons.mpr ⟨lw_p20, List.forall_mem_cons.mpr ⟨lw_p21, List.forall_mem_cons.mpr ⟨lw_p22, List.forall_mem_cons.mpr ⟨lw_p23, List.forall_mem_cons.mpr ⟨lw_p24, List.forall_mem_cons.mpr ⟨lw_p25, List.forall_mem_cons.mpr ⟨lw_p26, List.forall_mem_cons.mpr ⟨lw_p27, List.forall_mem_cons.mpr ⟨lw_p28, List.forall_mem_cons.mpr ⟨lw_p29, List.forall_mem_cons.mpr ⟨lw_p30, List.forall_mem_cons.mpr ⟨lw_p31, fun _ h => absurd h List.not_mem_nil⟩⟩⟩⟩⟩⟩⟩⟩⟩⟩⟩⟩⟩⟩⟩⟩
theorem lw_p32 : lw_okq (⟨"WorldMakeModel", "faulty", "(I)I"⟩, 58) := ⟨⟨by decide +kernel, by decide +kernel⟩, List.mem_of_getElem? (i := 1177) (by decide +kernel), List.mem_of_getElem? (i := 1408) (by decide +kernel), List.mem_of_getElem? (i := 1409) (by decide +kernel)⟩
theorem lw_p33 : lw_okq (⟨"WorldMakeModel", "isThing", "(J)Z"⟩, 58) := ⟨⟨by decide +kernel, by decide +kernel⟩, List.mem_of_getElem? (i := 1177) (by decide +kernel), List.mem_of_getElem? (i := 1425) (by decide +kernel), List.mem_of_getElem? (i := 1426) (by decide +kernel)⟩
theorem lw_p34 : lw_okq (⟨"WorldMakeModel", "isBackdrop", "(I)Z"⟩, 58) := ⟨⟨by decide +kernel, by decide +kernel⟩, List.mem_of_getElem? (i := 1177) (by decide +kernel), List.mem_of_getElem? (i := 1429) (by decide +kernel), List.mem_of_getElem? (i := 1430) (by decide +kernel)⟩
theorem lw_p35 : lw_okq (⟨"WorldMakeModel", "base", "(I)I"⟩, 58) := ⟨⟨by decide +kernel, by decide +kernel⟩, List.mem_of_getElem? (i := 1177) (by decide +kernel), List.mem_of_getElem? (i := 1433) (by decide +kernel), List.mem_of_getElem? (i := 1434) (by decide +kernel)⟩
theorem lw_p36 : lw_okq (⟨"WorldMakeModel", "isHolder", "(I)Z"⟩, 58) := ⟨⟨by decide +kernel, by decide +kernel⟩, List.mem_of_getElem? (i := 1177) (by decide +kernel), List.mem_of_getElem? (i := 1437) (by decide +kernel), List.mem_of_getElem? (i := 1438) (by decide +kernel)⟩
theorem lw_p37 : lw_okq (⟨"WorldMakeModel", "isCarrier", "(I)Z"⟩, 58) := ⟨⟨by decide +kernel, by decide +kernel⟩, List.mem_of_getElem? (i := 1177) (by decide +kernel), List.mem_of_getElem? (i := 1441) (by decide +kernel), List.mem_of_getElem? (i := 1442) (by decide +kernel)⟩
theorem lw_p38 : lw_okq (⟨"WorldMakeModel", "isFixed", "(I)Z"⟩, 58) := ⟨⟨by decide +kernel, by decide +kernel⟩, List.mem_of_getElem? (i := 1177) (by decide +kernel), List.mem_of_getElem? (i := 1445) (by decide +kernel), List.mem_of_getElem? (i := 1446) (by decide +kernel)⟩
theorem lw_p39 : lw_okq (⟨"WorldMakeModel", "isWithin", "(II)Z"⟩, 58) := ⟨⟨by decide +kernel, by decide +kernel⟩, List.mem_of_getElem? (i := 1177) (by decide +kernel), List.mem_of_getElem? (i := 1449) (by decide +kernel), List.mem_of_getElem? (i := 1450) (by decide +kernel)⟩
theorem lw_p40 : lw_okq (⟨"WorldMakeModel", "nth", "(II)I"⟩, 58) := ⟨⟨by decide +kernel, by decide +kernel⟩, List.mem_of_getElem? (i := 1177) (by decide +kernel), List.mem_of_getElem? (i := 1453) (by decide +kernel), List.mem_of_getElem? (i := 1454) (by decide +kernel)⟩
theorem lw_p41 : lw_okq (⟨"WorldMakeModel", "putAgainst", "(II)I"⟩, 58) := ⟨⟨by decide +kernel, by decide +kernel⟩, List.mem_of_getElem? (i := 1177) (by decide +kernel), List.mem_of_getElem? (i := 1457) (by decide +kernel), List.mem_of_getElem? (i := 1458) (by decide +kernel)⟩
theorem lw_p42 : lw_okq (⟨"WorldMakeModel", "first", "(III)I"⟩, 58) := ⟨⟨by decide +kernel, by decide +kernel⟩, List.mem_of_getElem? (i := 1177) (by decide +kernel), List.mem_of_getElem? (i := 1461) (by decide +kernel), List.mem_of_getElem? (i := 1462) (by decide +kernel)⟩
theorem lw_p43 : lw_okq (⟨"WorldMakeModel", "latestAmong", "(I)I"⟩, 58) := ⟨⟨by decide +kernel, by decide +kernel⟩, List.mem_of_getElem? (i := 1177) (by decide +kernel), List.mem_of_getElem? (i := 1465) (by decide +kernel), List.mem_of_getElem? (i := 1466) (by decide +kernel)⟩
theorem lw_p44 : lw_okq (⟨"WorldMakeModel", "held", "(I)I"⟩, 58) := ⟨⟨by decide +kernel, by decide +kernel⟩, List.mem_of_getElem? (i := 1177) (by decide +kernel), List.mem_of_getElem? (i := 1469) (by decide +kernel), List.mem_of_getElem? (i := 1470) (by decide +kernel)⟩
theorem lw_p45 : lw_okq (⟨"WorldMakeModel", "placeOf", "(I)I"⟩, 58) := ⟨⟨by decide +kernel, by decide +kernel⟩, List.mem_of_getElem? (i := 1177) (by decide +kernel), List.mem_of_getElem? (i := 1473) (by decide +kernel), List.mem_of_getElem? (i := 1474) (by decide +kernel)⟩
theorem lw_p46 : lw_okq (⟨"WorldMakeModel", "pairAgainst", "(II)I"⟩, 58) := ⟨⟨by decide +kernel, by decide +kernel⟩, List.mem_of_getElem? (i := 1177) (by decide +kernel), List.mem_of_getElem? (i := 1477) (by decide +kernel), List.mem_of_getElem? (i := 1478) (by decide +kernel)⟩
theorem lw_p47 : lw_okq (⟨"WorldMakeModel", "lies", "(II)I"⟩, 58) := ⟨⟨by decide +kernel, by decide +kernel⟩, List.mem_of_getElem? (i := 1177) (by decide +kernel), List.mem_of_getElem? (i := 1484) (by decide +kernel), List.mem_of_getElem? (i := 1485) (by decide +kernel)⟩
def lw_privs_3 : List (MethodName × Nat) := [(⟨"WorldMakeModel", "faulty", "(I)I"⟩, 58), (⟨"WorldMakeModel", "isThing", "(J)Z"⟩, 58), (⟨"WorldMakeModel", "isBackdrop", "(I)Z"⟩, 58), (⟨"WorldMakeModel", "base", "(I)I"⟩, 58), (⟨"WorldMakeModel", "isHolder", "(I)Z"⟩, 58), (⟨"WorldMakeModel", "isCarrier", "(I)Z"⟩, 58), (⟨"WorldMakeModel", "isFixed", "(I)Z"⟩, 58), (⟨"WorldMakeModel", "isWithin", "(II)Z"⟩, 58), (⟨"WorldMakeModel", "nth", "(II)I"⟩, 58), (⟨"WorldMakeModel", "putAgainst", "(II)I"⟩, 58), (⟨"WorldMakeModel", "first", "(III)I"⟩, 58), (⟨"WorldMakeModel", "latestAmong", "(I)I"⟩, 58), (⟨"WorldMakeModel", "held", "(I)I"⟩, 58), (⟨"WorldMakeModel", "placeOf", "(I)I"⟩, 58), (⟨"WorldMakeModel", "pairAgainst", "(II)I"⟩, 58), (⟨"WorldMakeModel", "lies", "(II)I"⟩, 58)]
theorem lw_r3 : ∀ q ∈ lw_privs_3, lw_okq q := List.forall_mem_cons.mpr ⟨lw_p32, List.forall_mem_cons.mpr ⟨lw_p33, List.forall_mem_cons.mpr ⟨lw_p34, List.forall_mem_cons.mpr ⟨lw_p35, List.forall_mem_cons.mpr ⟨lw_p36, List.forall_mem_cons.mpr ⟨lw_p37, List.forall_mem_cons.mpr ⟨lw_p38, List.forall_mem_cons.mpr ⟨lw_p39, List.forall_mem_cons.mpr ⟨lw_p40, List.forall_mem_cons.mpr ⟨lw_p41, List.forall_mem_cons.mpr ⟨lw_p42, List.forall_mem_cons.mpr ⟨lw_p43, List.forall_mem_cons.mpr ⟨lw_p44, List.forall_mem_cons.mpr ⟨lw_p45, List.forall_mem_cons.mpr ⟨lw_p46, List.forall_mem_cons.mpr ⟨lw_p47, fun _ h => absurd h List.not_mem_nil⟩⟩⟩⟩⟩⟩⟩⟩⟩⟩⟩⟩⟩⟩⟩⟩
theorem lw_p48 : lw_okq (⟨"WorldMakeModel", "tell", "(IIII)I"⟩, 58) := ⟨⟨by decide +kernel, by decide +kernel⟩, List.mem_of_getElem? (i := 1177) (by decide +kernel), List.mem_of_getElem? (i := 1488) (by decide +kernel), List.mem_of_getElem? (i := 1489) (by decide +kernel)⟩
theorem lw_p49 : lw_okq (⟨"WorldMakeModel", "valueOf", "(II)J"⟩, 58) := ⟨⟨by decide +kernel, by decide +kernel⟩, List.mem_of_getElem? (i := 1177) (by decide +kernel), List.mem_of_getElem? (i := 1506) (by decide +kernel), List.mem_of_getElem? (i := 1507) (by decide +kernel)⟩
theorem lw_p50 : lw_okq (⟨"WorldMakeModel", "said", "(II)I"⟩, 58) := ⟨⟨by decide +kernel, by decide +kernel⟩, List.mem_of_getElem? (i := 1177) (by decide +kernel), List.mem_of_getElem? (i := 1529) (by decide +kernel), List.mem_of_getElem? (i := 1530) (by decide +kernel)⟩
theorem lw_p51 : lw_okq (⟨"WorldMakeModel", "loadOf", "(I)I"⟩, 58) := ⟨⟨by decide +kernel, by decide +kernel⟩, List.mem_of_getElem? (i := 1177) (by decide +kernel), List.mem_of_getElem? (i := 1533) (by decide +kernel), List.mem_of_getElem? (i := 1534) (by decide +kernel)⟩
theorem lw_p52 : lw_okq (⟨"WorldMakeModel", "bulkOf", "(I)I"⟩, 58) := ⟨⟨by decide +kernel, by decide +kernel⟩, List.mem_of_getElem? (i := 1177) (by decide +kernel), List.mem_of_getElem? (i := 1537) (by decide +kernel), List.mem_of_getElem? (i := 1538) (by decide +kernel)⟩
theorem lw_p53 : lw_okq (⟨"WorldMakeModel", "worthOf", "(I)I"⟩, 58) := ⟨⟨by decide +kernel, by decide +kernel⟩, List.mem_of_getElem? (i := 1177) (by decide +kernel), List.mem_of_getElem? (i := 1541) (by decide +kernel), List.mem_of_getElem? (i := 1542) (by decide +kernel)⟩
theorem lw_p54 : lw_okq (⟨"WorldMakeModel", "lidOf", "(I)I"⟩, 58) := ⟨⟨by decide +kernel, by decide +kernel⟩, List.mem_of_getElem? (i := 1177) (by decide +kernel), List.mem_of_getElem? (i := 1545) (by decide +kernel), List.mem_of_getElem? (i := 1546) (by decide +kernel)⟩
theorem lw_p55 : lw_okq (⟨"WorldMakeModel", "hasOwn", "(I)Z"⟩, 58) := ⟨⟨by decide +kernel, by decide +kernel⟩, List.mem_of_getElem? (i := 1177) (by decide +kernel), List.mem_of_getElem? (i := 1557) (by decide +kernel), List.mem_of_getElem? (i := 1558) (by decide +kernel)⟩
theorem lw_p56 : lw_okq (⟨"WorldMakeModel", "unsettled", "()I"⟩, 58) := ⟨⟨by decide +kernel, by decide +kernel⟩, List.mem_of_getElem? (i := 1177) (by decide +kernel), List.mem_of_getElem? (i := 1586) (by decide +kernel), List.mem_of_getElem? (i := 1587) (by decide +kernel)⟩
theorem lw_p57 : lw_okq (⟨"WorldMakeModel", "isUnsettled", "(I)Z"⟩, 58) := ⟨⟨by decide +kernel, by decide +kernel⟩, List.mem_of_getElem? (i := 1177) (by decide +kernel), List.mem_of_getElem? (i := 1590) (by decide +kernel), List.mem_of_getElem? (i := 1591) (by decide +kernel)⟩
theorem lw_p58 : lw_okq (⟨"WorldMakeModel", "keeps", "()Z"⟩, 58) := ⟨⟨by decide +kernel, by decide +kernel⟩, List.mem_of_getElem? (i := 1177) (by decide +kernel), List.mem_of_getElem? (i := 1601) (by decide +kernel), List.mem_of_getElem? (i := 1602) (by decide +kernel)⟩
theorem lw_p59 : lw_okq (⟨"WorldMakeModel", "goesOn", "()Z"⟩, 58) := ⟨⟨by decide +kernel, by decide +kernel⟩, List.mem_of_getElem? (i := 1177) (by decide +kernel), List.mem_of_getElem? (i := 1605) (by decide +kernel), List.mem_of_getElem? (i := 1606) (by decide +kernel)⟩
theorem lw_p60 : lw_okq (⟨"WorldMakeModel", "isCouple", "(III)Z"⟩, 58) := ⟨⟨by decide +kernel, by decide +kernel⟩, List.mem_of_getElem? (i := 1177) (by decide +kernel), List.mem_of_getElem? (i := 1622) (by decide +kernel), List.mem_of_getElem? (i := 1623) (by decide +kernel)⟩
theorem lw_p61 : lw_okq (⟨"WorldMakeModel", "isRelation", "(I)Z"⟩, 58) := ⟨⟨by decide +kernel, by decide +kernel⟩, List.mem_of_getElem? (i := 1177) (by decide +kernel), List.mem_of_getElem? (i := 1626) (by decide +kernel), List.mem_of_getElem? (i := 1627) (by decide +kernel)⟩
theorem lw_p62 : lw_okq (⟨"WorldMakeModel", "has", "(III)Z"⟩, 58) := ⟨⟨by decide +kernel, by decide +kernel⟩, List.mem_of_getElem? (i := 1177) (by decide +kernel), List.mem_of_getElem? (i := 1630) (by decide +kernel), List.mem_of_getElem? (i := 1631) (by decide +kernel)⟩
theorem lw_p63 : lw_okq (⟨"WorldMakeModel", "hasBy", "(III)I"⟩, 58) := ⟨⟨by decide +kernel, by decide +kernel⟩, List.mem_of_getElem? (i := 1177) (by decide +kernel), List.mem_of_getElem? (i := 1634) (by decide +kernel), List.mem_of_getElem? (i := 1635) (by decide +kernel)⟩
def lw_privs_4 : List (MethodName × Nat) := [(⟨"WorldMakeModel", "tell", "(IIII)I"⟩, 58), (⟨"WorldMakeModel", "valueOf", "(II)J"⟩, 58), (⟨"WorldMakeModel", "said", "(II)I"⟩, 58), (⟨"WorldMakeModel", "loadOf", "(I)I"⟩, 58), (⟨"WorldMakeModel", "bulkOf", "(I)I"⟩, 58), (⟨"WorldMakeModel", "worthOf", "(I)I"⟩, 58), (⟨"WorldMakeModel", "lidOf", "(I)I"⟩, 58), (⟨"WorldMakeModel", "hasOwn", "(I)Z"⟩, 58), (⟨"WorldMakeModel", "unsettled", "()I"⟩, 58), (⟨"WorldMakeModel", "isUnsettled", "(I)Z"⟩, 58), (⟨"WorldMakeModel", "keeps", "()Z"⟩, 58), (⟨"WorldMakeModel", "goesOn", "()Z"⟩, 58), (⟨"WorldMakeModel", "isCouple", "(III)Z"⟩, 58), (⟨"WorldMakeModel", "isRelation", "(I)Z"⟩, 58), (⟨"WorldMakeModel", "has", "(III)Z"⟩, 58), (⟨"WorldMakeModel", "hasBy", "(III)I"⟩, 58)]
theorem lw_r4 : ∀ q ∈ lw_privs_4, lw_okq q := List.forall_mem_cons.mpr ⟨lw_p48, List.forall_mem_cons.mpr ⟨lw_p49, List.forall_mem_cons.mpr ⟨lw_p50, List.forall_mem_cons.mpr ⟨lw_p51, List.forall_mem_cons.mpr ⟨lw_p52, List.forall_mem_cons.mpr ⟨lw_p53, List.forall_mem_cons.mpr ⟨lw_p54, List.forall_mem_cons.mpr ⟨lw_p55, List.forall_mem_cons.mpr ⟨lw_p56, List.forall_mem_cons.mpr ⟨lw_p57, List.forall_mem_cons.mpr ⟨lw_p58, List.forall_mem_cons.mpr ⟨lw_p59, List.forall_mem_cons.mpr ⟨lw_p60, List.forall_mem_cons.mpr ⟨lw_p61, List.forall_mem_cons.mpr ⟨lw_p62, List.forall_mem_cons.mpr ⟨lw_p63, fun _ h => absurd h List.not_mem_nil⟩⟩⟩⟩⟩⟩⟩⟩⟩⟩⟩⟩⟩⟩⟩⟩
theorem lw_p64 : lw_okq (⟨"WorldMakeModel", "groupUp", "(II)V"⟩, 58) := ⟨⟨by decide +kernel, by decide +kernel⟩, List.mem_of_getElem? (i := 1177) (by decide +kernel), List.mem_of_getElem? (i := 1638) (by decide +kernel), List.mem_of_getElem? (i := 1639) (by decide +kernel)⟩
theorem lw_p65 : lw_okq (⟨"WorldMakeModel", "told", "(IIII)I"⟩, 58) := ⟨⟨by decide +kernel, by decide +kernel⟩, List.mem_of_getElem? (i := 1177) (by decide +kernel), List.mem_of_getElem? (i := 1642) (by decide +kernel), List.mem_of_getElem? (i := 1643) (by decide +kernel)⟩
theorem lw_p66 : lw_okq (⟨"WorldMakeModel", "deniedBy", "(III)I"⟩, 58) := ⟨⟨by decide +kernel, by decide +kernel⟩, List.mem_of_getElem? (i := 1177) (by decide +kernel), List.mem_of_getElem? (i := 1649) (by decide +kernel), List.mem_of_getElem? (i := 1650) (by decide +kernel)⟩
theorem lw_p67 : lw_okq (⟨"WorldMakeModel", "oneOnly", "(III)I"⟩, 58) := ⟨⟨by decide +kernel, by decide +kernel⟩, List.mem_of_getElem? (i := 1177) (by decide +kernel), List.mem_of_getElem? (i := 1653) (by decide +kernel), List.mem_of_getElem? (i := 1654) (by decide +kernel)⟩
theorem lw_p68 : lw_okq (⟨"WorldMakeModel", "couples", "(I)V"⟩, 58) := ⟨⟨by decide +kernel, by decide +kernel⟩, List.mem_of_getElem? (i := 1177) (by decide +kernel), List.mem_of_getElem? (i := 1669) (by decide +kernel), List.mem_of_getElem? (i := 1670) (by decide +kernel)⟩
theorem lw_p69 : lw_okq (⟨"WorldMakeModel", "goBack", "(I)V"⟩, 58) := ⟨⟨by decide +kernel, by decide +kernel⟩, List.mem_of_getElem? (i := 1177) (by decide +kernel), List.mem_of_getElem? (i := 1673) (by decide +kernel), List.mem_of_getElem? (i := 1674) (by decide +kernel)⟩
theorem lw_p70 : lw_okq (⟨"WorldMakeModel", "isRoom", "(I)Z"⟩, 58) := ⟨⟨by decide +kernel, by decide +kernel⟩, List.mem_of_getElem? (i := 1177) (by decide +kernel), List.mem_of_getElem? (i := 1685) (by decide +kernel), List.mem_of_getElem? (i := 1686) (by decide +kernel)⟩
theorem lw_p71 : lw_okq (⟨"WorldMakeModel", "lead", "(IIIII)V"⟩, 58) := ⟨⟨by decide +kernel, by decide +kernel⟩, List.mem_of_getElem? (i := 1177) (by decide +kernel), List.mem_of_getElem? (i := 1690) (by decide +kernel), List.mem_of_getElem? (i := 1691) (by decide +kernel)⟩
theorem lw_p72 : lw_okq (⟨"WorldMakeModel", "routeBack", "(IZ)V"⟩, 58) := ⟨⟨by decide +kernel, by decide +kernel⟩, List.mem_of_getElem? (i := 1177) (by decide +kernel), List.mem_of_getElem? (i := 1710) (by decide +kernel), List.mem_of_getElem? (i := 1711) (by decide +kernel)⟩
theorem lw_p73 : lw_okq (⟨"WorldMakeModel", "goes", "(IZ)Z"⟩, 58) := ⟨⟨by decide +kernel, by decide +kernel⟩, List.mem_of_getElem? (i := 1177) (by decide +kernel), List.mem_of_getElem? (i := 1714) (by decide +kernel), List.mem_of_getElem? (i := 1715) (by decide +kernel)⟩
theorem lw_p74 : lw_okq (⟨"WorldMakeModel", "isShelf", "(I)Z"⟩, 58) := ⟨⟨by decide +kernel, by decide +kernel⟩, List.mem_of_getElem? (i := 1177) (by decide +kernel), List.mem_of_getElem? (i := 1730) (by decide +kernel), List.mem_of_getElem? (i := 1731) (by decide +kernel)⟩
theorem lw_p75 : lw_okq (⟨"WorldMakeModel", "takes", "(II)Z"⟩, 58) := ⟨⟨by decide +kernel, by decide +kernel⟩, List.mem_of_getElem? (i := 1177) (by decide +kernel), List.mem_of_getElem? (i := 1734) (by decide +kernel), List.mem_of_getElem? (i := 1735) (by decide +kernel)⟩
theorem lw_p76 : lw_okq (⟨"WorldMakeModel", "isTable", "(I)Z"⟩, 58) := ⟨⟨by decide +kernel, by decide +kernel⟩, List.mem_of_getElem? (i := 1177) (by decide +kernel), List.mem_of_getElem? (i := 1759) (by decide +kernel), List.mem_of_getElem? (i := 1760) (by decide +kernel)⟩
theorem lw_p77 : lw_okq (⟨"WorldMakeModel", "isCell", "(III)Z"⟩, 58) := ⟨⟨by decide +kernel, by decide +kernel⟩, List.mem_of_getElem? (i := 1177) (by decide +kernel), List.mem_of_getElem? (i := 1763) (by decide +kernel), List.mem_of_getElem? (i := 1764) (by decide +kernel)⟩
theorem lw_p78 : lw_okq (⟨"WorldMakeModel", "isColumn", "(II)Z"⟩, 58) := ⟨⟨by decide +kernel, by decide +kernel⟩, List.mem_of_getElem? (i := 1177) (by decide +kernel), List.mem_of_getElem? (i := 1767) (by decide +kernel), List.mem_of_getElem? (i := 1768) (by decide +kernel)⟩
theorem lw_p79 : lw_okq (⟨"WorldMakeModel", "isAhead", "(IIIIZ)Z"⟩, 58) := ⟨⟨by decide +kernel, by decide +kernel⟩, List.mem_of_getElem? (i := 1177) (by decide +kernel), List.mem_of_getElem? (i := 1791) (by decide +kernel), List.mem_of_getElem? (i := 1792) (by decide +kernel)⟩
def lw_privs_5 : List (MethodName × Nat) := [(⟨"WorldMakeModel", "groupUp", "(II)V"⟩, 58), (⟨"WorldMakeModel", "told", "(IIII)I"⟩, 58), (⟨"WorldMakeModel", "deniedBy", "(III)I"⟩, 58), (⟨"WorldMakeModel", "oneOnly", "(III)I"⟩, 58), (⟨"WorldMakeModel", "couples", "(I)V"⟩, 58), (⟨"WorldMakeModel", "goBack", "(I)V"⟩, 58), (⟨"WorldMakeModel", "isRoom", "(I)Z"⟩, 58), (⟨"WorldMakeModel", "lead", "(IIIII)V"⟩, 58), (⟨"WorldMakeModel", "routeBack", "(IZ)V"⟩, 58), (⟨"WorldMakeModel", "goes", "(IZ)Z"⟩, 58), (⟨"WorldMakeModel", "isShelf", "(I)Z"⟩, 58), (⟨"WorldMakeModel", "takes", "(II)Z"⟩, 58), (⟨"WorldMakeModel", "isTable", "(I)Z"⟩, 58), (⟨"WorldMakeModel", "isCell", "(III)Z"⟩, 58), (⟨"WorldMakeModel", "isColumn", "(II)Z"⟩, 58), (⟨"WorldMakeModel", "isAhead", "(IIIIZ)Z"⟩, 58)]
theorem lw_r5 : ∀ q ∈ lw_privs_5, lw_okq q := List.forall_mem_cons.mpr ⟨lw_p64, List.forall_mem_cons.mpr ⟨lw_p65, List.forall_mem_cons.mpr ⟨lw_p66, List.forall_mem_cons.mpr ⟨lw_p67, List.forall_mem_cons.mpr ⟨lw_p68, List.forall_mem_cons.mpr ⟨lw_p69, List.forall_mem_cons.mpr ⟨lw_p70, List.forall_mem_cons.mpr ⟨lw_p71, List.forall_mem_cons.mpr ⟨lw_p72, List.forall_mem_cons.mpr ⟨lw_p73, List.forall_mem_cons.mpr ⟨lw_p74, List.forall_mem_cons.mpr ⟨lw_p75, List.forall_mem_cons.mpr ⟨lw_p76, List.forall_mem_cons.mpr ⟨lw_p77, List.forall_mem_cons.mpr ⟨lw_p78, List.forall_mem_cons.mpr ⟨lw_p79, fun _ h => absurd h List.not_mem_nil⟩⟩⟩⟩⟩⟩⟩⟩⟩⟩⟩⟩⟩⟩⟩⟩
theorem lw_p80 : lw_okq (⟨"WorldMakeModel", "sumOf", "(II)J"⟩, 58) := ⟨⟨by decide +kernel, by decide +kernel⟩, List.mem_of_getElem? (i := 1177) (by decide +kernel), List.mem_of_getElem? (i := 1799) (by decide +kernel), List.mem_of_getElem? (i := 1800) (by decide +kernel)⟩
theorem lw_p81 : lw_okq (⟨"WorldMakeModel", "filledIn", "(II)I"⟩, 58) := ⟨⟨by decide +kernel, by decide +kernel⟩, List.mem_of_getElem? (i := 1177) (by decide +kernel), List.mem_of_getElem? (i := 1807) (by decide +kernel), List.mem_of_getElem? (i := 1808) (by decide +kernel)⟩
theorem lw_p82 : lw_okq (⟨"WorldMakeModel", "add", "(I)V"⟩, 58) := ⟨⟨by decide +kernel, by decide +kernel⟩, List.mem_of_getElem? (i := 1177) (by decide +kernel), List.mem_of_getElem? (i := 1815) (by decide +kernel), List.mem_of_getElem? (i := 1816) (by decide +kernel)⟩
def lw_privs_6 : List (MethodName × Nat) := [(⟨"WorldMakeModel", "sumOf", "(II)J"⟩, 58), (⟨"WorldMakeModel", "filledIn", "(II)I"⟩, 58), (⟨"WorldMakeModel", "add", "(I)V"⟩, 58)]
theorem lw_r6 : ∀ q ∈ lw_privs_6, lw_okq q := List.forall_mem_cons.mpr ⟨lw_p80, List.forall_mem_cons.mpr ⟨lw_p81, List.forall_mem_cons.mpr ⟨lw_p82, fun _ h => absurd h List.not_mem_nil⟩⟩⟩
def lw_privs : List (MethodName × Nat) := lw_privs_1 ++ (lw_privs_2 ++ (lw_privs_3 ++ (lw_privs_4 ++ (lw_privs_5 ++ (lw_privs_6)))))
def lw_tbl : List Cond := k2_sels lw_privs ++ tables_1
theorem lw_privs_ok : ∀ q ∈ lw_privs, lw_okq q := by
  show ∀ q ∈ lw_privs_1 ++ (lw_privs_2 ++ (lw_privs_3 ++ (lw_privs_4 ++ (lw_privs_5 ++ (lw_privs_6))))), lw_okq q
  exact List.forall_mem_append.mpr ⟨lw_r1, List.forall_mem_append.mpr ⟨lw_r2, List.forall_mem_append.mpr ⟨lw_r3, List.forall_mem_append.mpr ⟨lw_r4, List.forall_mem_append.mpr ⟨lw_r5, lw_r6⟩⟩⟩⟩⟩
/-- the streams that the claim lets the run draw from -/
abbrev lw_cs : List Choice := [Jvm.Choice.named "NaN.bits"]
theorem lw_bits : nanBits ∈ lw_cs := by first | decide | exact List.mem_cons_self | simp [lw_cs, nanBits]
def RX0 : String := "WorldMake$Kinds"
def TX0 : u_T := fun k => match k with
  | 0 => ("WorldMake$Kinds", "parents", "[I", true)
  | _ => ("WorldMake$Kinds", "number", "I", false)
def tyX0 : Nat → FieldType := fun k => match k with
  | 0 => .array .int
  | _ => .int
abbrev wsX00 : List Cond := u_ws RX0 TX0 2
theorem nmX0 : ∀ a, a < 2 → ∀ b, b < 2 → a ≠ b → (TX0 a).2.1 ≠ (TX0 b).2.1 := by decide +kernel
theorem tyX0_ok : ∀ k, k < 2 → parseFieldDescriptor (TX0 k).2.2.1 = some (tyX0 k) := by decide +kernel
abbrev cX0_init : ByteArray := prog_2_method_1_code
def yX0_init : MethodName := ⟨RX0, "<init>", "()V"⟩
abbrev cX0_begin : ByteArray := prog_2_method_2_code
def yX0_begin : MethodName := ⟨RX0, "begin", "()V"⟩
abbrev cX0_add : ByteArray := prog_2_method_3_code
def yX0_add : MethodName := ⟨RX0, "add", "(I)I"⟩
abbrev cX0_has : ByteArray := prog_2_method_4_code
def yX0_has : MethodName := ⟨RX0, "has", "(I)Z"⟩
abbrev cX0_fits : ByteArray := prog_2_method_5_code
def yX0_fits : MethodName := ⟨RX0, "fits", "(II)Z"⟩
abbrev cX0_baseOf : ByteArray := prog_2_method_6_code
def yX0_baseOf : MethodName := ⟨RX0, "baseOf", "(I)I"⟩
def RX1 : String := "WorldMake$Places"
def TX1 : u_T := fun k => match k with
  | 0 => ("WorldMake$Places", "things", "LWorldMake$Things;", true)
  | 1 => ("WorldMake$Places", "sentences", "LWorldMake$Sentences;", true)
  | 2 => ("WorldMake$Places", "homes", "[I", true)
  | 3 => ("WorldMake$Places", "homeCounts", "[I", true)
  | 4 => ("WorldMake$Places", "putIn", "[I", true)
  | 5 => ("WorldMake$Places", "barred", "[J", true)
  | 6 => ("WorldMake$Places", "sets", "[J", true)
  | 7 => ("WorldMake$Places", "amongIn", "[I", true)
  | 8 => ("WorldMake$Places", "inside", "[I", true)
  | 9 => ("WorldMake$Places", "mosts", "[I", true)
  | 10 => ("WorldMake$Places", "mostIn", "[I", true)
  | 11 => ("WorldMake$Places", "pairOnes", "[I", true)
  | 12 => ("WorldMake$Places", "pairOthers", "[I", true)
  | 13 => ("WorldMake$Places", "pairAlike", "[Z", true)
  | 14 => ("WorldMake$Places", "pairIn", "[I", true)
  | _ => ("WorldMake$Places", "pairs", "I", false)
def tyX1 : Nat → FieldType := fun k => match k with
  | 0 => .object "WorldMake$Things"
  | 1 => .object "WorldMake$Sentences"
  | 2 => .array .int
  | 3 => .array .int
  | 4 => .array .int
  | 5 => .array .long
  | 6 => .array .long
  | 7 => .array .int
  | 8 => .array .int
  | 9 => .array .int
  | 10 => .array .int
  | 11 => .array .int
  | 12 => .array .int
  | 13 => .array .boolean
  | 14 => .array .int
  | _ => .int
abbrev wsX10 : List Cond := u_ws RX1 TX1 16
theorem nmX1 : ∀ a, a < 16 → ∀ b, b < 16 → a ≠ b → (TX1 a).2.1 ≠ (TX1 b).2.1 := by decide +kernel
theorem tyX1_ok : ∀ k, k < 16 → parseFieldDescriptor (TX1 k).2.2.1 = some (tyX1 k) := by decide +kernel
abbrev cX1_init : ByteArray := prog_3_method_1_code
def yX1_init : MethodName := ⟨RX1, "<init>", "(LWorldMake$Things;LWorldMake$Sentences;)V"⟩
abbrev cX1_begin : ByteArray := prog_3_method_2_code
def yX1_begin : MethodName := ⟨RX1, "begin", "(I)V"⟩
abbrev cX1_homeAt : ByteArray := prog_3_method_3_code
def yX1_homeAt : MethodName := ⟨RX1, "homeAt", "(II)I"⟩
abbrev cX1_isLaid : ByteArray := prog_3_method_4_code
def yX1_isLaid : MethodName := ⟨RX1, "isLaid", "(I)Z"⟩
abbrev cX1_liesIn : ByteArray := prog_3_method_5_code
def yX1_liesIn : MethodName := ⟨RX1, "liesIn", "(II)Z"⟩
abbrev cX1_hasAllHomes : ByteArray := prog_3_method_6_code
def yX1_hasAllHomes : MethodName := ⟨RX1, "hasAllHomes", "(I)Z"⟩
abbrev cX1_isWithin : ByteArray := prog_3_method_7_code
def yX1_isWithin : MethodName := ⟨RX1, "isWithin", "(II)Z"⟩
abbrev cX1_lay : ByteArray := prog_3_method_8_code
def yX1_lay : MethodName := ⟨RX1, "lay", "(III)V"⟩
abbrev cX1_lift : ByteArray := prog_3_method_9_code
def yX1_lift : MethodName := ⟨RX1, "lift", "(I)V"⟩
abbrev cX1_againstPut : ByteArray := prog_3_method_10_code
def yX1_againstPut : MethodName := ⟨RX1, "againstPut", "(II)I"⟩
abbrev cX1_isCrowded : ByteArray := prog_3_method_11_code
def yX1_isCrowded : MethodName := ⟨RX1, "isCrowded", "(I)Z"⟩
abbrev cX1_againstPairs : ByteArray := prog_3_method_12_code
def yX1_againstPairs : MethodName := ⟨RX1, "againstPairs", "(II)I"⟩
abbrev cX1_partner : ByteArray := prog_3_method_13_code
def yX1_partner : MethodName := ⟨RX1, "partner", "(II)I"⟩
abbrev cX1_againstBar : ByteArray := prog_3_method_14_code
def yX1_againstBar : MethodName := ⟨RX1, "againstBar", "(II)I"⟩
abbrev cX1_shut : ByteArray := prog_3_method_15_code
def yX1_shut : MethodName := ⟨RX1, "shut", "(II)V"⟩
abbrev cX1_againstAmong : ByteArray := prog_3_method_16_code
def yX1_againstAmong : MethodName := ⟨RX1, "againstAmong", "(IJ)I"⟩
abbrev cX1_earliestBarInto : ByteArray := prog_3_method_17_code
def yX1_earliestBarInto : MethodName := ⟨RX1, "earliestBarInto", "(IJ)I"⟩
abbrev cX1_narrow : ByteArray := prog_3_method_18_code
def yX1_narrow : MethodName := ⟨RX1, "narrow", "(IJI)V"⟩
abbrev cX1_setOf : ByteArray := prog_3_method_19_code
def yX1_setOf : MethodName := ⟨RX1, "setOf", "(I)J"⟩
abbrev cX1_isUnsettled : ByteArray := prog_3_method_20_code
def yX1_isUnsettled : MethodName := ⟨RX1, "isUnsettled", "(I)Z"⟩
abbrev cX1_unsettled : ByteArray := prog_3_method_21_code
def yX1_unsettled : MethodName := ⟨RX1, "unsettled", "()I"⟩
abbrev cX1_againstPairing : ByteArray := prog_3_method_22_code
def yX1_againstPairing : MethodName := ⟨RX1, "againstPairing", "(IIZ)I"⟩
abbrev cX1_addPair : ByteArray := prog_3_method_23_code
def yX1_addPair : MethodName := ⟨RX1, "addPair", "(IIZI)V"⟩
abbrev cX1_hasMost : ByteArray := prog_3_method_24_code
def yX1_hasMost : MethodName := ⟨RX1, "hasMost", "(I)Z"⟩
abbrev cX1_tellMost : ByteArray := prog_3_method_25_code
def yX1_tellMost : MethodName := ⟨RX1, "tellMost", "(III)V"⟩
abbrev cX1_putBehind : ByteArray := prog_3_method_26_code
def yX1_putBehind : MethodName := ⟨RX1, "putBehind", "(II)I"⟩
abbrev cX1_bulk : ByteArray := prog_3_method_27_code
def yX1_bulk : MethodName := ⟨RX1, "bulk", "(I)I"⟩
abbrev cX1_bulkAlone : ByteArray := prog_3_method_28_code
def yX1_bulkAlone : MethodName := ⟨RX1, "bulkAlone", "(I)I"⟩
abbrev cX1_load : ByteArray := prog_3_method_29_code
def yX1_load : MethodName := ⟨RX1, "load", "(I)I"⟩
def RX2 : String := "WorldMake$Relations"
def TX2 : u_T := fun k => match k with
  | 0 => ("WorldMake$Relations", "things", "LWorldMake$Things;", true)
  | 1 => ("WorldMake$Relations", "sentences", "LWorldMake$Sentences;", true)
  | 2 => ("WorldMake$Relations", "walk", "LWorldMake$Walk;", true)
  | 3 => ("WorldMake$Relations", "forms", "[I", true)
  | 4 => ("WorldMake$Relations", "rows", "[J", true)
  | 5 => ("WorldMake$Relations", "replayed", "[J", true)
  | _ => ("WorldMake$Relations", "number", "I", false)
def tyX2 : Nat → FieldType := fun k => match k with
  | 0 => .object "WorldMake$Things"
  | 1 => .object "WorldMake$Sentences"
  | 2 => .object "WorldMake$Walk"
  | 3 => .array .int
  | 4 => .array .long
  | 5 => .array .long
  | _ => .int
abbrev wsX20 : List Cond := u_ws RX2 TX2 7
theorem nmX2 : ∀ a, a < 7 → ∀ b, b < 7 → a ≠ b → (TX2 a).2.1 ≠ (TX2 b).2.1 := by decide +kernel
theorem tyX2_ok : ∀ k, k < 7 → parseFieldDescriptor (TX2 k).2.2.1 = some (tyX2 k) := by decide +kernel
abbrev cX2_init : ByteArray := prog_4_method_1_code
def yX2_init : MethodName := ⟨RX2, "<init>", "(LWorldMake$Things;LWorldMake$Sentences;LWorldMake$Walk;)V"⟩
abbrev cX2_add : ByteArray := prog_4_method_2_code
def yX2_add : MethodName := ⟨RX2, "add", "(I)I"⟩
abbrev cX2_has : ByteArray := prog_4_method_3_code
def yX2_has : MethodName := ⟨RX2, "has", "(I)Z"⟩
abbrev cX2_rowOf : ByteArray := prog_4_method_4_code
def yX2_rowOf : MethodName := ⟨RX2, "rowOf", "(II)J"⟩
abbrev cX2_holds : ByteArray := prog_4_method_5_code
def yX2_holds : MethodName := ⟨RX2, "holds", "(III)Z"⟩
abbrev cX2_join : ByteArray := prog_4_method_6_code
def yX2_join : MethodName := ⟨RX2, "join", "(III)V"⟩
abbrev cX2_merge : ByteArray := prog_4_method_7_code
def yX2_merge : MethodName := ⟨RX2, "merge", "([JIII)V"⟩
abbrev cX2_againstRelate : ByteArray := prog_4_method_8_code
def yX2_againstRelate : MethodName := ⟨RX2, "againstRelate", "(III)I"⟩
abbrev cX2_earliestDeny : ByteArray := prog_4_method_9_code
def yX2_earliestDeny : MethodName := ⟨RX2, "earliestDeny", "(III)I"⟩
abbrev cX2_earliestRelate : ByteArray := prog_4_method_10_code
def yX2_earliestRelate : MethodName := ⟨RX2, "earliestRelate", "(III)I"⟩
abbrev cX2_heldBy : ByteArray := prog_4_method_11_code
def yX2_heldBy : MethodName := ⟨RX2, "heldBy", "(III)I"⟩
abbrev cX2_togetherBy : ByteArray := prog_4_method_12_code
def yX2_togetherBy : MethodName := ⟨RX2, "togetherBy", "(III)I"⟩
abbrev cX2_walkFrom : ByteArray := prog_4_method_13_code
def yX2_walkFrom : MethodName := ⟨RX2, "walkFrom", "(II)LWorldMake$Walk;"⟩
abbrev cX2_couples : ByteArray := prog_4_method_14_code
def yX2_couples : MethodName := ⟨RX2, "couples", "(I)I"⟩
def RX3 : String := "WorldMake$Rooms"
def TX3 : u_T := fun k => match k with
  | 0 => ("WorldMake$Rooms", "things", "LWorldMake$Things;", true)
  | 1 => ("WorldMake$Rooms", "walk", "LWorldMake$Walk;", true)
  | 2 => ("WorldMake$Rooms", "sorts", "[I", true)
  | 3 => ("WorldMake$Rooms", "ends", "[I", true)
  | 4 => ("WorldMake$Rooms", "doors", "[I", true)
  | 5 => ("WorldMake$Rooms", "exitIn", "[I", true)
  | _ => ("WorldMake$Rooms", "doorIn", "[I", true)
def tyX3 : Nat → FieldType := fun k => match k with
  | 0 => .object "WorldMake$Things"
  | 1 => .object "WorldMake$Walk"
  | 2 => .array .int
  | 3 => .array .int
  | 4 => .array .int
  | 5 => .array .int
  | _ => .array .int
abbrev wsX30 : List Cond := u_ws RX3 TX3 7
theorem nmX3 : ∀ a, a < 7 → ∀ b, b < 7 → a ≠ b → (TX3 a).2.1 ≠ (TX3 b).2.1 := by decide +kernel
theorem tyX3_ok : ∀ k, k < 7 → parseFieldDescriptor (TX3 k).2.2.1 = some (tyX3 k) := by decide +kernel
abbrev cX3_init : ByteArray := prog_5_method_1_code
def yX3_init : MethodName := ⟨RX3, "<init>", "(LWorldMake$Things;LWorldMake$Walk;)V"⟩
abbrev cX3_begin : ByteArray := prog_5_method_2_code
def yX3_begin : MethodName := ⟨RX3, "begin", "(I)V"⟩
abbrev cX3_write : ByteArray := prog_5_method_3_code
def yX3_write : MethodName := ⟨RX3, "write", "(IIIII)V"⟩
abbrev cX3_sortOf : ByteArray := prog_5_method_4_code
def yX3_sortOf : MethodName := ⟨RX3, "sortOf", "(II)I"⟩
abbrev cX3_leadsTo : ByteArray := prog_5_method_5_code
def yX3_leadsTo : MethodName := ⟨RX3, "leadsTo", "(II)I"⟩
abbrev cX3_isTold : ByteArray := prog_5_method_6_code
def yX3_isTold : MethodName := ⟨RX3, "isTold", "(II)Z"⟩
abbrev cX3_toldIn : ByteArray := prog_5_method_7_code
def yX3_toldIn : MethodName := ⟨RX3, "toldIn", "(II)I"⟩
abbrev cX3_opposite : ByteArray := prog_5_method_8_code
def yX3_opposite : MethodName := ⟨RX3, "opposite", "(I)I"⟩
abbrev cX3_tellExit : ByteArray := prog_5_method_9_code
def yX3_tellExit : MethodName := ⟨RX3, "tellExit", "(IIII)V"⟩
abbrev cX3_againstDoor : ByteArray := prog_5_method_10_code
def yX3_againstDoor : MethodName := ⟨RX3, "againstDoor", "(IIII)I"⟩
abbrev cX3_tellDoor : ByteArray := prog_5_method_11_code
def yX3_tellDoor : MethodName := ⟨RX3, "tellDoor", "(IIIII)V"⟩
abbrev cX3_isPassable : ByteArray := prog_5_method_12_code
def yX3_isPassable : MethodName := ⟨RX3, "isPassable", "(IIZ)Z"⟩
abbrev cX3_walkFrom : ByteArray := prog_5_method_13_code
def yX3_walkFrom : MethodName := ⟨RX3, "walkFrom", "(IZ)LWorldMake$Walk;"⟩
def RX4 : String := "WorldMake$Sentences"
def TX4 : u_T := fun k => match k with
  | 0 => ("WorldMake$Sentences", "sorts", "[I", true)
  | 1 => ("WorldMake$Sentences", "ones", "[I", true)
  | 2 => ("WorldMake$Sentences", "twos", "[I", true)
  | 3 => ("WorldMake$Sentences", "threes", "[I", true)
  | _ => ("WorldMake$Sentences", "number", "I", false)
def tyX4 : Nat → FieldType := fun k => match k with
  | 0 => .array .int
  | 1 => .array .int
  | 2 => .array .int
  | 3 => .array .int
  | _ => .int
abbrev wsX40 : List Cond := u_ws RX4 TX4 5
theorem nmX4 : ∀ a, a < 5 → ∀ b, b < 5 → a ≠ b → (TX4 a).2.1 ≠ (TX4 b).2.1 := by decide +kernel
theorem tyX4_ok : ∀ k, k < 5 → parseFieldDescriptor (TX4 k).2.2.1 = some (tyX4 k) := by decide +kernel
abbrev cX4_init : ByteArray := prog_6_method_1_code
def yX4_init : MethodName := ⟨RX4, "<init>", "()V"⟩
abbrev cX4_areFull : ByteArray := prog_6_method_2_code
def yX4_areFull : MethodName := ⟨RX4, "areFull", "()Z"⟩
abbrev cX4_add : ByteArray := prog_6_method_3_code
def yX4_add : MethodName := ⟨RX4, "add", "(IIII)I"⟩
abbrev cX4_earliest : ByteArray := prog_6_method_4_code
def yX4_earliest : MethodName := ⟨RX4, "earliest", "(IIII)I"⟩
def RX5 : String := "WorldMake$Settler"
def TX5 : u_T := fun k => match k with
  | 0 => ("WorldMake$Settler", "things", "LWorldMake$Things;", true)
  | 1 => ("WorldMake$Settler", "places", "LWorldMake$Places;", true)
  | 2 => ("WorldMake$Settler", "unsettled", "[I", true)
  | _ => ("WorldMake$Settler", "number", "I", false)
def tyX5 : Nat → FieldType := fun k => match k with
  | 0 => .object "WorldMake$Things"
  | 1 => .object "WorldMake$Places"
  | 2 => .array .int
  | _ => .int
abbrev wsX50 : List Cond := u_ws RX5 TX5 4
theorem nmX5 : ∀ a, a < 4 → ∀ b, b < 4 → a ≠ b → (TX5 a).2.1 ≠ (TX5 b).2.1 := by decide +kernel
theorem tyX5_ok : ∀ k, k < 4 → parseFieldDescriptor (TX5 k).2.2.1 = some (tyX5 k) := by decide +kernel
abbrev cX5_init : ByteArray := prog_7_method_1_code
def yX5_init : MethodName := ⟨RX5, "<init>", "(LWorldMake$Things;LWorldMake$Places;)V"⟩
abbrev cX5_ways : ByteArray := prog_7_method_2_code
def yX5_ways : MethodName := ⟨RX5, "ways", "()I"⟩
abbrev cX5_thingAt : ByteArray := prog_7_method_3_code
def yX5_thingAt : MethodName := ⟨RX5, "thingAt", "(I)I"⟩
abbrev cX5_takeLeastWay : ByteArray := prog_7_method_4_code
def yX5_takeLeastWay : MethodName := ⟨RX5, "takeLeastWay", "(I)Z"⟩
abbrev cX5_layFrom : ByteArray := prog_7_method_5_code
def yX5_layFrom : MethodName := ⟨RX5, "layFrom", "(II)Z"⟩
abbrev cX5_lets : ByteArray := prog_7_method_6_code
def yX5_lets : MethodName := ⟨RX5, "lets", "(II)Z"⟩
def RX6 : String := "WorldMake$Shelf"
def TX6 : u_T := fun k => match k with
  | 0 => ("WorldMake$Shelf", "standing", "[I", true)
  | 1 => ("WorldMake$Shelf", "base", "I", false)
  | _ => ("WorldMake$Shelf", "length", "I", false)
def tyX6 : Nat → FieldType := fun k => match k with
  | 0 => .array .int
  | 1 => .int
  | _ => .int
abbrev wsX60 : List Cond := u_ws RX6 TX6 3
theorem nmX6 : ∀ a, a < 3 → ∀ b, b < 3 → a ≠ b → (TX6 a).2.1 ≠ (TX6 b).2.1 := by decide +kernel
theorem tyX6_ok : ∀ k, k < 3 → parseFieldDescriptor (TX6 k).2.2.1 = some (tyX6 k) := by decide +kernel
abbrev cX6_init : ByteArray := prog_8_method_1_code
def yX6_init : MethodName := ⟨RX6, "<init>", "()V"⟩
abbrev cX6_begin : ByteArray := prog_8_method_2_code
def yX6_begin : MethodName := ⟨RX6, "begin", "(II)V"⟩
abbrev cX6_spans : ByteArray := prog_8_method_3_code
def yX6_spans : MethodName := ⟨RX6, "spans", "(II)Z"⟩
def RX7 : String := "WorldMake$Table"
def TX7 : u_T := fun k => match k with
  | 0 => ("WorldMake$Table", "cells", "[J", true)
  | 1 => ("WorldMake$Table", "filled", "[Z", true)
  | 2 => ("WorldMake$Table", "lanes", "[I", true)
  | 3 => ("WorldMake$Table", "origins", "[I", true)
  | 4 => ("WorldMake$Table", "rows", "I", false)
  | _ => ("WorldMake$Table", "columns", "I", false)
def tyX7 : Nat → FieldType := fun k => match k with
  | 0 => .array .long
  | 1 => .array .boolean
  | 2 => .array .int
  | 3 => .array .int
  | 4 => .int
  | _ => .int
abbrev wsX70 : List Cond := u_ws RX7 TX7 6
theorem nmX7 : ∀ a, a < 6 → ∀ b, b < 6 → a ≠ b → (TX7 a).2.1 ≠ (TX7 b).2.1 := by decide +kernel
theorem tyX7_ok : ∀ k, k < 6 → parseFieldDescriptor (TX7 k).2.2.1 = some (tyX7 k) := by decide +kernel
abbrev cX7_init : ByteArray := prog_9_method_1_code
def yX7_init : MethodName := ⟨RX7, "<init>", "()V"⟩
abbrev cX7_begin : ByteArray := prog_9_method_2_code
def yX7_begin : MethodName := ⟨RX7, "begin", "(III)V"⟩
abbrev cX7_hasCell : ByteArray := prog_9_method_3_code
def yX7_hasCell : MethodName := ⟨RX7, "hasCell", "(II)Z"⟩
abbrev cX7_isBlank : ByteArray := prog_9_method_4_code
def yX7_isBlank : MethodName := ⟨RX7, "isBlank", "(II)Z"⟩
abbrev cX7_told : ByteArray := prog_9_method_5_code
def yX7_told : MethodName := ⟨RX7, "told", "(II)J"⟩
abbrev cX7_write : ByteArray := prog_9_method_6_code
def yX7_write : MethodName := ⟨RX7, "write", "(IIJ)V"⟩
abbrev cX7_wipe : ByteArray := prog_9_method_7_code
def yX7_wipe : MethodName := ⟨RX7, "wipe", "(II)Z"⟩
abbrev cX7_rowWith : ByteArray := prog_9_method_8_code
def yX7_rowWith : MethodName := ⟨RX7, "rowWith", "(IJI)I"⟩
abbrev cX7_order : ByteArray := prog_9_method_9_code
def yX7_order : MethodName := ⟨RX7, "order", "(IZ)I"⟩
abbrev cX7_isAhead : ByteArray := prog_9_method_10_code
def yX7_isAhead : MethodName := ⟨RX7, "isAhead", "(IIIZ)Z"⟩
abbrev cX7_swap : ByteArray := prog_9_method_11_code
def yX7_swap : MethodName := ⟨RX7, "swap", "(II)V"⟩
abbrev cX7_sum : ByteArray := prog_9_method_12_code
def yX7_sum : MethodName := ⟨RX7, "sum", "(I)J"⟩
abbrev cX7_filledIn : ByteArray := prog_9_method_13_code
def yX7_filledIn : MethodName := ⟨RX7, "filledIn", "(I)I"⟩
def RX8 : String := "WorldMake$Things"
def TX8 : u_T := fun k => match k with
  | 0 => ("WorldMake$Things", "kinds", "LWorldMake$Kinds;", true)
  | 1 => ("WorldMake$Things", "kindOf", "[I", true)
  | 2 => ("WorldMake$Things", "bases", "[I", true)
  | 3 => ("WorldMake$Things", "sizes", "[I", true)
  | 4 => ("WorldMake$Things", "marks", "[I", true)
  | 5 => ("WorldMake$Things", "ownMarks", "[I", true)
  | 6 => ("WorldMake$Things", "opened", "[Z", true)
  | _ => ("WorldMake$Things", "number", "I", false)
def tyX8 : Nat → FieldType := fun k => match k with
  | 0 => .object "WorldMake$Kinds"
  | 1 => .array .int
  | 2 => .array .int
  | 3 => .array .int
  | 4 => .array .int
  | 5 => .array .int
  | 6 => .array .boolean
  | _ => .int
abbrev wsX80 : List Cond := u_ws RX8 TX8 8
theorem nmX8 : ∀ a, a < 8 → ∀ b, b < 8 → a ≠ b → (TX8 a).2.1 ≠ (TX8 b).2.1 := by decide +kernel
theorem tyX8_ok : ∀ k, k < 8 → parseFieldDescriptor (TX8 k).2.2.1 = some (tyX8 k) := by decide +kernel
abbrev cX8_init : ByteArray := prog_10_method_1_code
def yX8_init : MethodName := ⟨RX8, "<init>", "(LWorldMake$Kinds;)V"⟩
abbrev cX8_add : ByteArray := prog_10_method_2_code
def yX8_add : MethodName := ⟨RX8, "add", "(II)I"⟩
abbrev cX8_has : ByteArray := prog_10_method_3_code
def yX8_has : MethodName := ⟨RX8, "has", "(J)Z"⟩
abbrev cX8_all : ByteArray := prog_10_method_4_code
def yX8_all : MethodName := ⟨RX8, "all", "()J"⟩
abbrev cX8_holders : ByteArray := prog_10_method_5_code
def yX8_holders : MethodName := ⟨RX8, "holders", "()J"⟩
abbrev cX8_isRoom : ByteArray := prog_10_method_6_code
def yX8_isRoom : MethodName := ⟨RX8, "isRoom", "(I)Z"⟩
abbrev cX8_haveRoom : ByteArray := prog_10_method_7_code
def yX8_haveRoom : MethodName := ⟨RX8, "haveRoom", "()Z"⟩
abbrev cX8_isCarrier : ByteArray := prog_10_method_8_code
def yX8_isCarrier : MethodName := ⟨RX8, "isCarrier", "(I)Z"⟩
abbrev cX8_isHolder : ByteArray := prog_10_method_9_code
def yX8_isHolder : MethodName := ⟨RX8, "isHolder", "(I)Z"⟩
abbrev cX8_hasLid : ByteArray := prog_10_method_10_code
def yX8_hasLid : MethodName := ⟨RX8, "hasLid", "(I)Z"⟩
abbrev cX8_isFixed : ByteArray := prog_10_method_11_code
def yX8_isFixed : MethodName := ⟨RX8, "isFixed", "(I)Z"⟩
abbrev cX8_liesInOne : ByteArray := prog_10_method_12_code
def yX8_liesInOne : MethodName := ⟨RX8, "liesInOne", "(I)Z"⟩
abbrev cX8_mayLieIn : ByteArray := prog_10_method_13_code
def yX8_mayLieIn : MethodName := ⟨RX8, "mayLieIn", "(II)Z"⟩
abbrev cX8_worth : ByteArray := prog_10_method_14_code
def yX8_worth : MethodName := ⟨RX8, "worth", "(I)I"⟩
abbrev cX8_lid : ByteArray := prog_10_method_15_code
def yX8_lid : MethodName := ⟨RX8, "lid", "(I)I"⟩
def RX9 : String := "WorldMake$Values"
def TX9 : u_T := fun k => match k with
  | 0 => ("WorldMake$Values", "kinds", "LWorldMake$Kinds;", true)
  | 1 => ("WorldMake$Values", "things", "LWorldMake$Things;", true)
  | 2 => ("WorldMake$Values", "owners", "[I", true)
  | 3 => ("WorldMake$Values", "lanes", "[I", true)
  | 4 => ("WorldMake$Values", "takenBases", "[I", true)
  | 5 => ("WorldMake$Values", "usuals", "[J", true)
  | 6 => ("WorldMake$Values", "hasUsual", "[Z", true)
  | 7 => ("WorldMake$Values", "givens", "[J", true)
  | 8 => ("WorldMake$Values", "givenIn", "[I", true)
  | _ => ("WorldMake$Values", "number", "I", false)
def tyX9 : Nat → FieldType := fun k => match k with
  | 0 => .object "WorldMake$Kinds"
  | 1 => .object "WorldMake$Things"
  | 2 => .array .int
  | 3 => .array .int
  | 4 => .array .int
  | 5 => .array .long
  | 6 => .array .boolean
  | 7 => .array .long
  | 8 => .array .int
  | _ => .int
abbrev wsX90 : List Cond := u_ws RX9 TX9 10
theorem nmX9 : ∀ a, a < 10 → ∀ b, b < 10 → a ≠ b → (TX9 a).2.1 ≠ (TX9 b).2.1 := by decide +kernel
theorem tyX9_ok : ∀ k, k < 10 → parseFieldDescriptor (TX9 k).2.2.1 = some (tyX9 k) := by decide +kernel
abbrev cX9_init : ByteArray := prog_11_method_1_code
def yX9_init : MethodName := ⟨RX9, "<init>", "(LWorldMake$Kinds;LWorldMake$Things;)V"⟩
abbrev cX9_add : ByteArray := prog_11_method_2_code
def yX9_add : MethodName := ⟨RX9, "add", "(III)I"⟩
abbrev cX9_has : ByteArray := prog_11_method_3_code
def yX9_has : MethodName := ⟨RX9, "has", "(I)Z"⟩
abbrev cX9_emptyCell : ByteArray := prog_11_method_4_code
def yX9_emptyCell : MethodName := ⟨RX9, "emptyCell", "(I)J"⟩
abbrev cX9_knows : ByteArray := prog_11_method_5_code
def yX9_knows : MethodName := ⟨RX9, "knows", "(IJ)Z"⟩
abbrev cX9_takes : ByteArray := prog_11_method_6_code
def yX9_takes : MethodName := ⟨RX9, "takes", "(IJ)Z"⟩
abbrev cX9_isFor : ByteArray := prog_11_method_7_code
def yX9_isFor : MethodName := ⟨RX9, "isFor", "(II)Z"⟩
abbrev cX9_tellUsual : ByteArray := prog_11_method_8_code
def yX9_tellUsual : MethodName := ⟨RX9, "tellUsual", "(IIJ)V"⟩
abbrev cX9_tellGiven : ByteArray := prog_11_method_9_code
def yX9_tellGiven : MethodName := ⟨RX9, "tellGiven", "(IIJI)V"⟩
abbrev cX9_givenBy : ByteArray := prog_11_method_10_code
def yX9_givenBy : MethodName := ⟨RX9, "givenBy", "(II)I"⟩
abbrev cX9_givenCell : ByteArray := prog_11_method_11_code
def yX9_givenCell : MethodName := ⟨RX9, "givenCell", "(II)J"⟩
abbrev cX9_isGivenOtherwise : ByteArray := prog_11_method_12_code
def yX9_isGivenOtherwise : MethodName := ⟨RX9, "isGivenOtherwise", "(IIJ)Z"⟩
abbrev cX9_valueOf : ByteArray := prog_11_method_13_code
def yX9_valueOf : MethodName := ⟨RX9, "valueOf", "(II)J"⟩
def RX10 : String := "WorldMake$Walk"
def TX10 : u_T := fun k => match k with
  | 0 => ("WorldMake$Walk", "far", "[I", true)
  | 1 => ("WorldMake$Walk", "heads", "[I", true)
  | 2 => ("WorldMake$Walk", "reached", "[I", true)
  | _ => ("WorldMake$Walk", "number", "I", false)
def tyX10 : Nat → FieldType := fun k => match k with
  | 0 => .array .int
  | 1 => .array .int
  | 2 => .array .int
  | _ => .int
abbrev wsX100 : List Cond := u_ws RX10 TX10 4
theorem nmX10 : ∀ a, a < 4 → ∀ b, b < 4 → a ≠ b → (TX10 a).2.1 ≠ (TX10 b).2.1 := by decide +kernel
theorem tyX10_ok : ∀ k, k < 4 → parseFieldDescriptor (TX10 k).2.2.1 = some (tyX10 k) := by decide +kernel
abbrev cX10_init : ByteArray := prog_12_method_1_code
def yX10_init : MethodName := ⟨RX10, "<init>", "()V"⟩
abbrev cX10_begin : ByteArray := prog_12_method_2_code
def yX10_begin : MethodName := ⟨RX10, "begin", "(I)V"⟩
abbrev cX10_step : ByteArray := prog_12_method_3_code
def yX10_step : MethodName := ⟨RX10, "step", "(III)V"⟩
def RX11 : String := "WorldMake"
def TX11 : u_T := fun k => match k with
  | 0 => ("WorldMake", "kinds", "LWorldMake$Kinds;", true)
  | 1 => ("WorldMake", "things", "LWorldMake$Things;", true)
  | 2 => ("WorldMake", "values", "LWorldMake$Values;", true)
  | 3 => ("WorldMake", "sentences", "LWorldMake$Sentences;", true)
  | 4 => ("WorldMake", "places", "LWorldMake$Places;", true)
  | 5 => ("WorldMake", "settler", "LWorldMake$Settler;", true)
  | 6 => ("WorldMake", "relations", "LWorldMake$Relations;", true)
  | 7 => ("WorldMake", "rooms", "LWorldMake$Rooms;", true)
  | 8 => ("WorldMake", "shelves", "[LWorldMake$Shelf;", true)
  | 9 => ("WorldMake", "tables", "[LWorldMake$Table;", true)
  | 10 => ("WorldMake", "hauled", "[I", true)
  | 11 => ("WorldMake", "words", "[I", true)
  | 12 => ("WorldMake", "shelfCount", "I", false)
  | 13 => ("WorldMake", "tableCount", "I", false)
  | 14 => ("WorldMake", "wordCount", "I", false)
  | 15 => ("WorldMake", "latestFault", "I", false)
  | _ => ("WorldMake", "latestCame", "I", false)
def tyX11 : Nat → FieldType := fun k => match k with
  | 0 => .object "WorldMake$Kinds"
  | 1 => .object "WorldMake$Things"
  | 2 => .object "WorldMake$Values"
  | 3 => .object "WorldMake$Sentences"
  | 4 => .object "WorldMake$Places"
  | 5 => .object "WorldMake$Settler"
  | 6 => .object "WorldMake$Relations"
  | 7 => .object "WorldMake$Rooms"
  | 8 => .array (.object "WorldMake$Shelf")
  | 9 => .array (.object "WorldMake$Table")
  | 10 => .array .int
  | 11 => .array .int
  | 12 => .int
  | 13 => .int
  | 14 => .int
  | 15 => .int
  | _ => .int
abbrev wsX110 : List Cond := u_ws RX11 TX11 17
theorem nmX11 : ∀ a, a < 17 → ∀ b, b < 17 → a ≠ b → (TX11 a).2.1 ≠ (TX11 b).2.1 := by decide +kernel
theorem tyX11_ok : ∀ k, k < 17 → parseFieldDescriptor (TX11 k).2.2.1 = some (tyX11 k) := by decide +kernel
abbrev cX11_init : ByteArray := prog_1_method_1_code
def yX11_init : MethodName := ⟨RX11, "<init>", "()V"⟩
abbrev cX11_beginAnew : ByteArray := prog_1_method_2_code
def yX11_beginAnew : MethodName := ⟨RX11, "beginAnew", "()V"⟩
abbrev cX11_faulted : ByteArray := prog_1_method_3_code
def yX11_faulted : MethodName := ⟨RX11, "faulted", "(I)I"⟩
abbrev cX11_against : ByteArray := prog_1_method_4_code
def yX11_against : MethodName := ⟨RX11, "against", "(I)I"⟩
abbrev cX11_inRange : ByteArray := prog_1_method_5_code
def yX11_inRange : MethodName := ⟨RX11, "inRange", "(II)Z"⟩
abbrev cX11_kind : ByteArray := prog_1_method_6_code
def yX11_kind : MethodName := ⟨RX11, "kind", "(I)I"⟩
abbrev cX11_is : ByteArray := prog_1_method_7_code
def yX11_is : MethodName := ⟨RX11, "is", "(II)I"⟩
abbrev cX11_property : ByteArray := prog_1_method_8_code
def yX11_property : MethodName := ⟨RX11, "property", "(III)I"⟩
abbrev cX11_usual : ByteArray := prog_1_method_9_code
def yX11_usual : MethodName := ⟨RX11, "usual", "(IIJ)I"⟩
abbrev cX11_thing : ByteArray := prog_1_method_10_code
def yX11_thing : MethodName := ⟨RX11, "thing", "(II)I"⟩
abbrev cX11_put : ByteArray := prog_1_method_11_code
def yX11_put : MethodName := ⟨RX11, "put", "(II)I"⟩
abbrev cX11_bar : ByteArray := prog_1_method_12_code
def yX11_bar : MethodName := ⟨RX11, "bar", "(II)I"⟩
abbrev cX11_give : ByteArray := prog_1_method_13_code
def yX11_give : MethodName := ⟨RX11, "give", "(IIJ)I"⟩
abbrev cX11_value : ByteArray := prog_1_method_14_code
def yX11_value : MethodName := ⟨RX11, "value", "(II)J"⟩
abbrev cX11_given : ByteArray := prog_1_method_15_code
def yX11_given : MethodName := ⟨RX11, "given", "(II)I"⟩
abbrev cX11_peek : ByteArray := prog_1_method_16_code
def yX11_peek : MethodName := ⟨RX11, "peek", "(III)J"⟩
abbrev cX11_place : ByteArray := prog_1_method_17_code
def yX11_place : MethodName := ⟨RX11, "place", "(II)I"⟩
abbrev cX11_says : ByteArray := prog_1_method_18_code
def yX11_says : MethodName := ⟨RX11, "says", "(II)I"⟩
abbrev cX11_saying : ByteArray := prog_1_method_19_code
def yX11_saying : MethodName := ⟨RX11, "saying", "(II)I"⟩
abbrev cX11_stride : ByteArray := prog_1_method_20_code
def yX11_stride : MethodName := ⟨RX11, "stride", "(I)I"⟩
abbrev cX11_follow : ByteArray := prog_1_method_21_code
def yX11_follow : MethodName := ⟨RX11, "follow", "(III)I"⟩
abbrev cX11_mark : ByteArray := prog_1_method_22_code
def yX11_mark : MethodName := ⟨RX11, "mark", "(II)I"⟩
abbrev cX11_remark : ByteArray := prog_1_method_23_code
def yX11_remark : MethodName := ⟨RX11, "remark", "(III)I"⟩
abbrev cX11_open : ByteArray := prog_1_method_24_code
def yX11_open : MethodName := ⟨RX11, "open", "(IZ)I"⟩
abbrev cX11_among : ByteArray := prog_1_method_25_code
def yX11_among : MethodName := ⟨RX11, "among", "(IJ)I"⟩
abbrev cX11_pair : ByteArray := prog_1_method_26_code
def yX11_pair : MethodName := ⟨RX11, "pair", "(IIZ)I"⟩
abbrev cX11_most : ByteArray := prog_1_method_27_code
def yX11_most : MethodName := ⟨RX11, "most", "(II)I"⟩
abbrev cX11_settle : ByteArray := prog_1_method_28_code
def yX11_settle : MethodName := ⟨RX11, "settle", "()I"⟩
abbrev cX11_set : ByteArray := prog_1_method_29_code
def yX11_set : MethodName := ⟨RX11, "set", "(I)J"⟩
abbrev cX11_relation : ByteArray := prog_1_method_30_code
def yX11_relation : MethodName := ⟨RX11, "relation", "(I)I"⟩
abbrev cX11_relate : ByteArray := prog_1_method_31_code
def yX11_relate : MethodName := ⟨RX11, "relate", "(III)I"⟩
abbrev cX11_deny : ByteArray := prog_1_method_32_code
def yX11_deny : MethodName := ⟨RX11, "deny", "(III)I"⟩
abbrev cX11_related : ByteArray := prog_1_method_33_code
def yX11_related : MethodName := ⟨RX11, "related", "(III)I"⟩
abbrev cX11_along : ByteArray := prog_1_method_34_code
def yX11_along : MethodName := ⟨RX11, "along", "(III)I"⟩
abbrev cX11_next : ByteArray := prog_1_method_35_code
def yX11_next : MethodName := ⟨RX11, "next", "(III)I"⟩
abbrev cX11_areRelatable : ByteArray := prog_1_method_36_code
def yX11_areRelatable : MethodName := ⟨RX11, "areRelatable", "(III)Z"⟩
abbrev cX11_exit : ByteArray := prog_1_method_37_code
def yX11_exit : MethodName := ⟨RX11, "exit", "(III)I"⟩
abbrev cX11_door : ByteArray := prog_1_method_38_code
def yX11_door : MethodName := ⟨RX11, "door", "(IIII)I"⟩
abbrev cX11_leads : ByteArray := prog_1_method_39_code
def yX11_leads : MethodName := ⟨RX11, "leads", "(II)I"⟩
abbrev cX11_sort : ByteArray := prog_1_method_40_code
def yX11_sort : MethodName := ⟨RX11, "sort", "(II)I"⟩
abbrev cX11_route : ByteArray := prog_1_method_41_code
def yX11_route : MethodName := ⟨RX11, "route", "(IIZ)I"⟩
abbrev cX11_first : ByteArray := prog_1_method_42_code
def yX11_first : MethodName := ⟨RX11, "first", "(IIZ)I"⟩
abbrev cX11_shelf : ByteArray := prog_1_method_43_code
def yX11_shelf : MethodName := ⟨RX11, "shelf", "(II)I"⟩
abbrev cX11_stand : ByteArray := prog_1_method_44_code
def yX11_stand : MethodName := ⟨RX11, "stand", "(III)I"⟩
abbrev cX11_shelfTakes : ByteArray := prog_1_method_45_code
def yX11_shelfTakes : MethodName := ⟨RX11, "shelfTakes", "(LWorldMake$Shelf;I)Z"⟩
abbrev cX11_stands : ByteArray := prog_1_method_46_code
def yX11_stands : MethodName := ⟨RX11, "stands", "(II)I"⟩
abbrev cX11_haul : ByteArray := prog_1_method_47_code
def yX11_haul : MethodName := ⟨RX11, "haul", "(IIIII)I"⟩
abbrev cX11_came : ByteArray := prog_1_method_48_code
def yX11_came : MethodName := ⟨RX11, "came", "()I"⟩
abbrev cX11_table : ByteArray := prog_1_method_49_code
def yX11_table : MethodName := ⟨RX11, "table", "(III)I"⟩
abbrev cX11_areLanes : ByteArray := prog_1_method_50_code
def yX11_areLanes : MethodName := ⟨RX11, "areLanes", "(II)Z"⟩
abbrev cX11_fill : ByteArray := prog_1_method_51_code
def yX11_fill : MethodName := ⟨RX11, "fill", "(IIIJ)I"⟩
abbrev cX11_blank : ByteArray := prog_1_method_52_code
def yX11_blank : MethodName := ⟨RX11, "blank", "(III)I"⟩
abbrev cX11_read : ByteArray := prog_1_method_53_code
def yX11_read : MethodName := ⟨RX11, "read", "(III)J"⟩
abbrev cX11_choose : ByteArray := prog_1_method_54_code
def yX11_choose : MethodName := ⟨RX11, "choose", "(IIJI)I"⟩
abbrev cX11_rank : ByteArray := prog_1_method_55_code
def yX11_rank : MethodName := ⟨RX11, "rank", "(IIZ)I"⟩
abbrev cX11_total : ByteArray := prog_1_method_56_code
def yX11_total : MethodName := ⟨RX11, "total", "(II)J"⟩
abbrev cX11_mean : ByteArray := prog_1_method_57_code
def yX11_mean : MethodName := ⟨RX11, "mean", "(II)J"⟩
abbrev cX11_make : ByteArray := prog_1_method_58_code
def yX11_make : MethodName := ⟨RX11, "make", "()I"⟩
abbrev cX11_addWord : ByteArray := prog_1_method_59_code
def yX11_addWord : MethodName := ⟨RX11, "addWord", "(I)V"⟩
abbrev cX11_addWordsOfThing : ByteArray := prog_1_method_60_code
def yX11_addWordsOfThing : MethodName := ⟨RX11, "addWordsOfThing", "(I)V"⟩
abbrev cX11_addWordsOfRoom : ByteArray := prog_1_method_61_code
def yX11_addWordsOfRoom : MethodName := ⟨RX11, "addWordsOfRoom", "(I)V"⟩
abbrev cX11_word : ByteArray := prog_1_method_62_code
def yX11_word : MethodName := ⟨RX11, "word", "(I)I"⟩
abbrev cX11_digest : ByteArray := prog_1_method_63_code
def yX11_digest : MethodName := ⟨RX11, "digest", "()J"⟩
abbrev cX11_sentence : ByteArray := prog_1_method_64_code
def yX11_sentence : MethodName := ⟨RX11, "sentence", "(II)I"⟩
abbrev cX11_count : ByteArray := prog_1_method_65_code
def yX11_count : MethodName := ⟨RX11, "count", "(I)I"⟩
abbrev cX11_fault : ByteArray := prog_1_method_66_code
def yX11_fault : MethodName := ⟨RX11, "fault", "()I"⟩
abbrev cX11_clear : ByteArray := prog_1_method_67_code
def yX11_clear : MethodName := ⟨RX11, "clear", "()I"⟩
abbrev cX11_bit : ByteArray := prog_1_method_68_code
def yX11_bit : MethodName := ⟨RX11, "bit", "(I)J"⟩
abbrev cX11_toldBy : ByteArray := prog_1_method_69_code
def yX11_toldBy : MethodName := ⟨RX11, "toldBy", "(IJ)J"⟩
def RX12 : String := "WorldMakeModel"
def TX12 : u_T := fun k => match k with
  | 0 => ("WorldMakeModel", "latest", "I", false)
  | 1 => ("WorldMakeModel", "kinds", "I", false)
  | 2 => ("WorldMakeModel", "parent", "[I", true)
  | 3 => ("WorldMakeModel", "properties", "I", false)
  | 4 => ("WorldMakeModel", "ofKind", "[I", true)
  | 5 => ("WorldMakeModel", "lane", "[I", true)
  | 6 => ("WorldMakeModel", "wants", "[I", true)
  | 7 => ("WorldMakeModel", "isUsual", "[Z", true)
  | 8 => ("WorldMakeModel", "usual", "[J", true)
  | 9 => ("WorldMakeModel", "things", "I", false)
  | 10 => ("WorldMakeModel", "kindOf", "[I", true)
  | 11 => ("WorldMakeModel", "size", "[I", true)
  | 12 => ("WorldMakeModel", "mark", "[I", true)
  | 13 => ("WorldMakeModel", "ownMark", "[I", true)
  | 14 => ("WorldMakeModel", "isOpen", "[Z", true)
  | 15 => ("WorldMakeModel", "holder", "[I", true)
  | 16 => ("WorldMakeModel", "holderBy", "[I", true)
  | 17 => ("WorldMakeModel", "holders", "[I", true)
  | 18 => ("WorldMakeModel", "sets", "[J", true)
  | 19 => ("WorldMakeModel", "mostBy", "[I", true)
  | 20 => ("WorldMakeModel", "givenBy", "[I", true)
  | 21 => ("WorldMakeModel", "given", "[J", true)
  | 22 => ("WorldMakeModel", "sentences", "I", false)
  | 23 => ("WorldMakeModel", "sort", "[I", true)
  | 24 => ("WorldMakeModel", "one", "[I", true)
  | 25 => ("WorldMakeModel", "two", "[I", true)
  | 26 => ("WorldMakeModel", "three", "[I", true)
  | 27 => ("WorldMakeModel", "pairs", "I", false)
  | 28 => ("WorldMakeModel", "way", "[I", true)
  | 29 => ("WorldMakeModel", "relations", "I", false)
  | 30 => ("WorldMakeModel", "form", "[I", true)
  | 31 => ("WorldMakeModel", "group", "[I", true)
  | 32 => ("WorldMakeModel", "far", "[I", true)
  | 33 => ("WorldMakeModel", "line", "[I", true)
  | 34 => ("WorldMakeModel", "couple", "[Z", true)
  | 35 => ("WorldMakeModel", "exitSort", "[I", true)
  | 36 => ("WorldMakeModel", "exitTo", "[I", true)
  | 37 => ("WorldMakeModel", "exitBy", "[I", true)
  | 38 => ("WorldMakeModel", "exitDoor", "[I", true)
  | 39 => ("WorldMakeModel", "shelves", "I", false)
  | 40 => ("WorldMakeModel", "shelfBase", "[I", true)
  | 41 => ("WorldMakeModel", "shelfMany", "[I", true)
  | 42 => ("WorldMakeModel", "stood", "[I", true)
  | 43 => ("WorldMakeModel", "hand", "[I", true)
  | 44 => ("WorldMakeModel", "came", "I", false)
  | 45 => ("WorldMakeModel", "tables", "I", false)
  | 46 => ("WorldMakeModel", "rows", "[I", true)
  | 47 => ("WorldMakeModel", "columns", "[I", true)
  | 48 => ("WorldMakeModel", "columnLane", "[I", true)
  | 49 => ("WorldMakeModel", "isBlank", "[Z", true)
  | 50 => ("WorldMakeModel", "cells", "[J", true)
  | 51 => ("WorldMakeModel", "reals", "[D", true)
  | 52 => ("WorldMakeModel", "order", "[I", true)
  | 53 => ("WorldMakeModel", "wasBlank", "[Z", true)
  | 54 => ("WorldMakeModel", "wereCells", "[J", true)
  | 55 => ("WorldMakeModel", "wereReals", "[D", true)
  | 56 => ("WorldMakeModel", "words", "I", false)
  | _ => ("WorldMakeModel", "word", "[I", true)
def tyX12 : Nat → FieldType := fun k => match k with
  | 0 => .int
  | 1 => .int
  | 2 => .array .int
  | 3 => .int
  | 4 => .array .int
  | 5 => .array .int
  | 6 => .array .int
  | 7 => .array .boolean
  | 8 => .array .long
  | 9 => .int
  | 10 => .array .int
  | 11 => .array .int
  | 12 => .array .int
  | 13 => .array .int
  | 14 => .array .boolean
  | 15 => .array .int
  | 16 => .array .int
  | 17 => .array .int
  | 18 => .array .long
  | 19 => .array .int
  | 20 => .array .int
  | 21 => .array .long
  | 22 => .int
  | 23 => .array .int
  | 24 => .array .int
  | 25 => .array .int
  | 26 => .array .int
  | 27 => .int
  | 28 => .array .int
  | 29 => .int
  | 30 => .array .int
  | 31 => .array .int
  | 32 => .array .int
  | 33 => .array .int
  | 34 => .array .boolean
  | 35 => .array .int
  | 36 => .array .int
  | 37 => .array .int
  | 38 => .array .int
  | 39 => .int
  | 40 => .array .int
  | 41 => .array .int
  | 42 => .array .int
  | 43 => .array .int
  | 44 => .int
  | 45 => .int
  | 46 => .array .int
  | 47 => .array .int
  | 48 => .array .int
  | 49 => .array .boolean
  | 50 => .array .long
  | 51 => .array .double
  | 52 => .array .int
  | 53 => .array .boolean
  | 54 => .array .long
  | 55 => .array .double
  | 56 => .int
  | _ => .array .int
abbrev wsX120 : List Cond := u_ws RX12 TX12 58
theorem nmX12 : ∀ a, a < 58 → ∀ b, b < 58 → a ≠ b → (TX12 a).2.1 ≠ (TX12 b).2.1 := by decide +kernel
theorem tyX12_ok : ∀ k, k < 58 → parseFieldDescriptor (TX12 k).2.2.1 = some (tyX12 k) := by decide +kernel
abbrev cX12_init : ByteArray := prog_14_method_1_code
def yX12_init : MethodName := ⟨RX12, "<init>", "()V"⟩
abbrev cX12_in : ByteArray := prog_14_method_3_code
def yX12_in : MethodName := ⟨RX12, "in", "(JJJ)Z"⟩
abbrev cX12_faulty : ByteArray := prog_14_method_4_code
def yX12_faulty : MethodName := ⟨RX12, "faulty", "(I)I"⟩
abbrev cX12_begin : ByteArray := prog_14_method_5_code
def yX12_begin : MethodName := ⟨RX12, "begin", "()V"⟩
abbrev cX12_isKind : ByteArray := prog_14_method_6_code
def yX12_isKind : MethodName := ⟨RX12, "isKind", "(I)Z"⟩
abbrev cX12_isProperty : ByteArray := prog_14_method_7_code
def yX12_isProperty : MethodName := ⟨RX12, "isProperty", "(I)Z"⟩
abbrev cX12_comesTo : ByteArray := prog_14_method_8_code
def yX12_comesTo : MethodName := ⟨RX12, "comesTo", "(II)Z"⟩
abbrev cX12_baseOf : ByteArray := prog_14_method_9_code
def yX12_baseOf : MethodName := ⟨RX12, "baseOf", "(I)I"⟩
abbrev cX12_kind : ByteArray := prog_14_method_10_code
def yX12_kind : MethodName := ⟨RX12, "kind", "(I)I"⟩
abbrev cX12_is : ByteArray := prog_14_method_11_code
def yX12_is : MethodName := ⟨RX12, "is", "(II)I"⟩
abbrev cX12_property : ByteArray := prog_14_method_12_code
def yX12_property : MethodName := ⟨RX12, "property", "(III)I"⟩
abbrev cX12_cell : ByteArray := prog_14_method_13_code
def yX12_cell : MethodName := ⟨RX12, "cell", "(IJ)J"⟩
abbrev cX12_isUnknown : ByteArray := prog_14_method_14_code
def yX12_isUnknown : MethodName := ⟨RX12, "isUnknown", "(IJ)Z"⟩
abbrev cX12_isStored : ByteArray := prog_14_method_15_code
def yX12_isStored : MethodName := ⟨RX12, "isStored", "(IJ)Z"⟩
abbrev cX12_usual : ByteArray := prog_14_method_16_code
def yX12_usual : MethodName := ⟨RX12, "usual", "(IIJ)I"⟩
abbrev cX12_isThing : ByteArray := prog_14_method_17_code
def yX12_isThing : MethodName := ⟨RX12, "isThing", "(J)Z"⟩
abbrev cX12_base : ByteArray := prog_14_method_18_code
def yX12_base : MethodName := ⟨RX12, "base", "(I)I"⟩
abbrev cX12_isCarrier : ByteArray := prog_14_method_19_code
def yX12_isCarrier : MethodName := ⟨RX12, "isCarrier", "(I)Z"⟩
abbrev cX12_isHolder : ByteArray := prog_14_method_20_code
def yX12_isHolder : MethodName := ⟨RX12, "isHolder", "(I)Z"⟩
abbrev cX12_isFixed : ByteArray := prog_14_method_21_code
def yX12_isFixed : MethodName := ⟨RX12, "isFixed", "(I)Z"⟩
abbrev cX12_isBackdrop : ByteArray := prog_14_method_22_code
def yX12_isBackdrop : MethodName := ⟨RX12, "isBackdrop", "(I)Z"⟩
abbrev cX12_thing : ByteArray := prog_14_method_23_code
def yX12_thing : MethodName := ⟨RX12, "thing", "(II)I"⟩
abbrev cX12_tell : ByteArray := prog_14_method_24_code
def yX12_tell : MethodName := ⟨RX12, "tell", "(IIII)I"⟩
abbrev cX12_against : ByteArray := prog_14_method_25_code
def yX12_against : MethodName := ⟨RX12, "against", "(I)I"⟩
abbrev cX12_first : ByteArray := prog_14_method_26_code
def yX12_first : MethodName := ⟨RX12, "first", "(III)I"⟩
abbrev cX12_latestAmong : ByteArray := prog_14_method_27_code
def yX12_latestAmong : MethodName := ⟨RX12, "latestAmong", "(I)I"⟩
abbrev cX12_isWithin : ByteArray := prog_14_method_28_code
def yX12_isWithin : MethodName := ⟨RX12, "isWithin", "(II)Z"⟩
abbrev cX12_placeOf : ByteArray := prog_14_method_29_code
def yX12_placeOf : MethodName := ⟨RX12, "placeOf", "(I)I"⟩
abbrev cX12_nth : ByteArray := prog_14_method_30_code
def yX12_nth : MethodName := ⟨RX12, "nth", "(II)I"⟩
abbrev cX12_held : ByteArray := prog_14_method_31_code
def yX12_held : MethodName := ⟨RX12, "held", "(I)I"⟩
abbrev cX12_pairAgainst : ByteArray := prog_14_method_32_code
def yX12_pairAgainst : MethodName := ⟨RX12, "pairAgainst", "(II)I"⟩
abbrev cX12_putAgainst : ByteArray := prog_14_method_33_code
def yX12_putAgainst : MethodName := ⟨RX12, "putAgainst", "(II)I"⟩
abbrev cX12_lies : ByteArray := prog_14_method_34_code
def yX12_lies : MethodName := ⟨RX12, "lies", "(II)I"⟩
abbrev cX12_put : ByteArray := prog_14_method_35_code
def yX12_put : MethodName := ⟨RX12, "put", "(II)I"⟩
abbrev cX12_bar : ByteArray := prog_14_method_36_code
def yX12_bar : MethodName := ⟨RX12, "bar", "(II)I"⟩
abbrev cX12_give : ByteArray := prog_14_method_37_code
def yX12_give : MethodName := ⟨RX12, "give", "(IIJ)I"⟩
abbrev cX12_valueOf : ByteArray := prog_14_method_38_code
def yX12_valueOf : MethodName := ⟨RX12, "valueOf", "(II)J"⟩
abbrev cX12_value : ByteArray := prog_14_method_39_code
def yX12_value : MethodName := ⟨RX12, "value", "(II)J"⟩
abbrev cX12_given : ByteArray := prog_14_method_40_code
def yX12_given : MethodName := ⟨RX12, "given", "(II)I"⟩
abbrev cX12_peek : ByteArray := prog_14_method_41_code
def yX12_peek : MethodName := ⟨RX12, "peek", "(III)J"⟩
abbrev cX12_place : ByteArray := prog_14_method_42_code
def yX12_place : MethodName := ⟨RX12, "place", "(II)I"⟩
abbrev cX12_loadOf : ByteArray := prog_14_method_43_code
def yX12_loadOf : MethodName := ⟨RX12, "loadOf", "(I)I"⟩
abbrev cX12_bulkOf : ByteArray := prog_14_method_44_code
def yX12_bulkOf : MethodName := ⟨RX12, "bulkOf", "(I)I"⟩
abbrev cX12_worthOf : ByteArray := prog_14_method_45_code
def yX12_worthOf : MethodName := ⟨RX12, "worthOf", "(I)I"⟩
abbrev cX12_lidOf : ByteArray := prog_14_method_46_code
def yX12_lidOf : MethodName := ⟨RX12, "lidOf", "(I)I"⟩
abbrev cX12_said : ByteArray := prog_14_method_47_code
def yX12_said : MethodName := ⟨RX12, "said", "(II)I"⟩
abbrev cX12_says : ByteArray := prog_14_method_48_code
def yX12_says : MethodName := ⟨RX12, "says", "(II)I"⟩
abbrev cX12_follow : ByteArray := prog_14_method_49_code
def yX12_follow : MethodName := ⟨RX12, "follow", "(III)I"⟩
abbrev cX12_hasOwn : ByteArray := prog_14_method_50_code
def yX12_hasOwn : MethodName := ⟨RX12, "hasOwn", "(I)Z"⟩
abbrev cX12_mark : ByteArray := prog_14_method_51_code
def yX12_mark : MethodName := ⟨RX12, "mark", "(II)I"⟩
abbrev cX12_remark : ByteArray := prog_14_method_52_code
def yX12_remark : MethodName := ⟨RX12, "remark", "(III)I"⟩
abbrev cX12_open : ByteArray := prog_14_method_53_code
def yX12_open : MethodName := ⟨RX12, "open", "(IZ)I"⟩
abbrev cX12_among : ByteArray := prog_14_method_55_code
def yX12_among : MethodName := ⟨RX12, "among", "(IJ)I"⟩
abbrev cX12_pair : ByteArray := prog_14_method_56_code
def yX12_pair : MethodName := ⟨RX12, "pair", "(IIZ)I"⟩
abbrev cX12_most : ByteArray := prog_14_method_57_code
def yX12_most : MethodName := ⟨RX12, "most", "(II)I"⟩
abbrev cX12_isUnsettled : ByteArray := prog_14_method_58_code
def yX12_isUnsettled : MethodName := ⟨RX12, "isUnsettled", "(I)Z"⟩
abbrev cX12_unsettled : ByteArray := prog_14_method_59_code
def yX12_unsettled : MethodName := ⟨RX12, "unsettled", "()I"⟩
abbrev cX12_keeps : ByteArray := prog_14_method_60_code
def yX12_keeps : MethodName := ⟨RX12, "keeps", "()Z"⟩
abbrev cX12_lowest : ByteArray := prog_14_method_61_code
def yX12_lowest : MethodName := ⟨RX12, "lowest", "(J)I"⟩
abbrev cX12_many : ByteArray := prog_14_method_62_code
def yX12_many : MethodName := ⟨RX12, "many", "(J)I"⟩
abbrev cX12_goesOn : ByteArray := prog_14_method_63_code
def yX12_goesOn : MethodName := ⟨RX12, "goesOn", "()Z"⟩
abbrev cX12_settle : ByteArray := prog_14_method_64_code
def yX12_settle : MethodName := ⟨RX12, "settle", "()I"⟩
abbrev cX12_set : ByteArray := prog_14_method_65_code
def yX12_set : MethodName := ⟨RX12, "set", "(I)J"⟩
abbrev cX12_isRelation : ByteArray := prog_14_method_66_code
def yX12_isRelation : MethodName := ⟨RX12, "isRelation", "(I)Z"⟩
abbrev cX12_groupUp : ByteArray := prog_14_method_67_code
def yX12_groupUp : MethodName := ⟨RX12, "groupUp", "(II)V"⟩
abbrev cX12_told : ByteArray := prog_14_method_68_code
def yX12_told : MethodName := ⟨RX12, "told", "(IIII)I"⟩
abbrev cX12_earlier : ByteArray := prog_14_method_69_code
def yX12_earlier : MethodName := ⟨RX12, "earlier", "(II)I"⟩
abbrev cX12_hasBy : ByteArray := prog_14_method_70_code
def yX12_hasBy : MethodName := ⟨RX12, "hasBy", "(III)I"⟩
abbrev cX12_has : ByteArray := prog_14_method_71_code
def yX12_has : MethodName := ⟨RX12, "has", "(III)Z"⟩
abbrev cX12_deniedBy : ByteArray := prog_14_method_72_code
def yX12_deniedBy : MethodName := ⟨RX12, "deniedBy", "(III)I"⟩
abbrev cX12_oneOnly : ByteArray := prog_14_method_73_code
def yX12_oneOnly : MethodName := ⟨RX12, "oneOnly", "(III)I"⟩
abbrev cX12_relation : ByteArray := prog_14_method_74_code
def yX12_relation : MethodName := ⟨RX12, "relation", "(I)I"⟩
abbrev cX12_isCouple : ByteArray := prog_14_method_75_code
def yX12_isCouple : MethodName := ⟨RX12, "isCouple", "(III)Z"⟩
abbrev cX12_relate : ByteArray := prog_14_method_76_code
def yX12_relate : MethodName := ⟨RX12, "relate", "(III)I"⟩
abbrev cX12_deny : ByteArray := prog_14_method_77_code
def yX12_deny : MethodName := ⟨RX12, "deny", "(III)I"⟩
abbrev cX12_related : ByteArray := prog_14_method_78_code
def yX12_related : MethodName := ⟨RX12, "related", "(III)I"⟩
abbrev cX12_couples : ByteArray := prog_14_method_79_code
def yX12_couples : MethodName := ⟨RX12, "couples", "(I)V"⟩
abbrev cX12_goBack : ByteArray := prog_14_method_80_code
def yX12_goBack : MethodName := ⟨RX12, "goBack", "(I)V"⟩
abbrev cX12_along : ByteArray := prog_14_method_81_code
def yX12_along : MethodName := ⟨RX12, "along", "(III)I"⟩
abbrev cX12_next : ByteArray := prog_14_method_82_code
def yX12_next : MethodName := ⟨RX12, "next", "(III)I"⟩
abbrev cX12_isRoom : ByteArray := prog_14_method_83_code
def yX12_isRoom : MethodName := ⟨RX12, "isRoom", "(I)Z"⟩
abbrev cX12_lead : ByteArray := prog_14_method_84_code
def yX12_lead : MethodName := ⟨RX12, "lead", "(IIIII)V"⟩
abbrev cX12_exit : ByteArray := prog_14_method_85_code
def yX12_exit : MethodName := ⟨RX12, "exit", "(III)I"⟩
abbrev cX12_door : ByteArray := prog_14_method_86_code
def yX12_door : MethodName := ⟨RX12, "door", "(IIII)I"⟩
abbrev cX12_leads : ByteArray := prog_14_method_87_code
def yX12_leads : MethodName := ⟨RX12, "leads", "(II)I"⟩
abbrev cX12_sort : ByteArray := prog_14_method_88_code
def yX12_sort : MethodName := ⟨RX12, "sort", "(II)I"⟩
abbrev cX12_goes : ByteArray := prog_14_method_89_code
def yX12_goes : MethodName := ⟨RX12, "goes", "(IZ)Z"⟩
abbrev cX12_routeBack : ByteArray := prog_14_method_90_code
def yX12_routeBack : MethodName := ⟨RX12, "routeBack", "(IZ)V"⟩
abbrev cX12_route : ByteArray := prog_14_method_91_code
def yX12_route : MethodName := ⟨RX12, "route", "(IIZ)I"⟩
abbrev cX12_first_ : ByteArray := prog_14_method_92_code
def yX12_first_ : MethodName := ⟨RX12, "first", "(IIZ)I"⟩
abbrev cX12_isShelf : ByteArray := prog_14_method_93_code
def yX12_isShelf : MethodName := ⟨RX12, "isShelf", "(I)Z"⟩
abbrev cX12_takes : ByteArray := prog_14_method_94_code
def yX12_takes : MethodName := ⟨RX12, "takes", "(II)Z"⟩
abbrev cX12_shelf : ByteArray := prog_14_method_95_code
def yX12_shelf : MethodName := ⟨RX12, "shelf", "(II)I"⟩
abbrev cX12_stand : ByteArray := prog_14_method_96_code
def yX12_stand : MethodName := ⟨RX12, "stand", "(III)I"⟩
abbrev cX12_stands : ByteArray := prog_14_method_97_code
def yX12_stands : MethodName := ⟨RX12, "stands", "(II)I"⟩
abbrev cX12_haul : ByteArray := prog_14_method_98_code
def yX12_haul : MethodName := ⟨RX12, "haul", "(IIIII)I"⟩
abbrev cX12_came : ByteArray := prog_14_method_99_code
def yX12_came : MethodName := ⟨RX12, "came", "()I"⟩
abbrev cX12_isTable : ByteArray := prog_14_method_100_code
def yX12_isTable : MethodName := ⟨RX12, "isTable", "(I)Z"⟩
abbrev cX12_table : ByteArray := prog_14_method_101_code
def yX12_table : MethodName := ⟨RX12, "table", "(III)I"⟩
abbrev cX12_isColumn : ByteArray := prog_14_method_102_code
def yX12_isColumn : MethodName := ⟨RX12, "isColumn", "(II)Z"⟩
abbrev cX12_isCell : ByteArray := prog_14_method_103_code
def yX12_isCell : MethodName := ⟨RX12, "isCell", "(III)Z"⟩
abbrev cX12_cellAt : ByteArray := prog_14_method_104_code
def yX12_cellAt : MethodName := ⟨RX12, "cellAt", "(III)I"⟩
abbrev cX12_fill : ByteArray := prog_14_method_105_code
def yX12_fill : MethodName := ⟨RX12, "fill", "(IIIJ)I"⟩
abbrev cX12_blank : ByteArray := prog_14_method_106_code
def yX12_blank : MethodName := ⟨RX12, "blank", "(III)I"⟩
abbrev cX12_read : ByteArray := prog_14_method_107_code
def yX12_read : MethodName := ⟨RX12, "read", "(III)J"⟩
abbrev cX12_choose : ByteArray := prog_14_method_108_code
def yX12_choose : MethodName := ⟨RX12, "choose", "(IIJI)I"⟩
abbrev cX12_isAhead : ByteArray := prog_14_method_109_code
def yX12_isAhead : MethodName := ⟨RX12, "isAhead", "(IIIIZ)Z"⟩
abbrev cX12_rank : ByteArray := prog_14_method_110_code
def yX12_rank : MethodName := ⟨RX12, "rank", "(IIZ)I"⟩
abbrev cX12_filledIn : ByteArray := prog_14_method_111_code
def yX12_filledIn : MethodName := ⟨RX12, "filledIn", "(II)I"⟩
abbrev cX12_sumOf : ByteArray := prog_14_method_112_code
def yX12_sumOf : MethodName := ⟨RX12, "sumOf", "(II)J"⟩
abbrev cX12_total : ByteArray := prog_14_method_113_code
def yX12_total : MethodName := ⟨RX12, "total", "(II)J"⟩
abbrev cX12_mean : ByteArray := prog_14_method_114_code
def yX12_mean : MethodName := ⟨RX12, "mean", "(II)J"⟩
abbrev cX12_add : ByteArray := prog_14_method_115_code
def yX12_add : MethodName := ⟨RX12, "add", "(I)V"⟩
abbrev cX12_make : ByteArray := prog_14_method_116_code
def yX12_make : MethodName := ⟨RX12, "make", "()I"⟩
abbrev cX12_word : ByteArray := prog_14_method_117_code
def yX12_word : MethodName := ⟨RX12, "word", "(I)I"⟩
abbrev cX12_digest : ByteArray := prog_14_method_118_code
def yX12_digest : MethodName := ⟨RX12, "digest", "()J"⟩
abbrev cX12_sentence : ByteArray := prog_14_method_119_code
def yX12_sentence : MethodName := ⟨RX12, "sentence", "(II)I"⟩
abbrev cX12_count : ByteArray := prog_14_method_120_code
def yX12_count : MethodName := ⟨RX12, "count", "(I)I"⟩
abbrev cX12_fault : ByteArray := prog_14_method_121_code
def yX12_fault : MethodName := ⟨RX12, "fault", "()I"⟩
abbrev cX12_clear : ByteArray := prog_14_method_122_code
def yX12_clear : MethodName := ⟨RX12, "clear", "()I"⟩
def RJ13 : String := "java/lang/Long"
def TJ13 : u_T := fun k => match k with
  | _ => ("", "", "", false)
def tyJ13 : Nat → FieldType := fun k => match k with
  | _ => .int
abbrev wsJ130 : List Cond := u_ws RJ13 TJ13 0
theorem nmJ13 : ∀ a, a < 0 → ∀ b, b < 0 → a ≠ b → (TJ13 a).2.1 ≠ (TJ13 b).2.1 := by decide +kernel
theorem tyJ13_ok : ∀ k, k < 0 → parseFieldDescriptor (TJ13 k).2.2.1 = some (tyJ13 k) := by decide +kernel
abbrev cJ13_bitCount_95d88 : ByteArray := prog_15_method_50_code
def yJ13_bitCount_95d88 : MethodName := ⟨RJ13, "bitCount", "(J)I"⟩
def RJ9 : String := "java/lang/Math"
def TJ9 : u_T := fun k => match k with
  | _ => ("", "", "", false)
def tyJ9 : Nat → FieldType := fun k => match k with
  | _ => .int
abbrev wsJ90 : List Cond := u_ws RJ9 TJ9 0
theorem nmJ9 : ∀ a, a < 0 → ∀ b, b < 0 → a ≠ b → (TJ9 a).2.1 ≠ (TJ9 b).2.1 := by decide +kernel
theorem tyJ9_ok : ∀ k, k < 0 → parseFieldDescriptor (TJ9 k).2.2.1 = some (tyJ9 k) := by decide +kernel
abbrev cJ9_max_7cf53 : ByteArray := prog_16_method_65_code
def yJ9_max_7cf53 : MethodName := ⟨RJ9, "max", "(II)I"⟩
def RL : String := "WorldMakeLaw"
abbrev cL_law : ByteArray := code
def yL_law : MethodName := ⟨RL, "law", "([I)Z"⟩
abbrev vwCl : List vw_C := [(RX0, TX0, 2), (RX1, TX1, 16), (RX2, TX2, 7), (RX3, TX3, 7), (RX4, TX4, 5), (RX5, TX5, 4), (RX6, TX6, 3), (RX7, TX7, 6), (RX8, TX8, 8), (RX9, TX9, 10), (RX10, TX10, 4), (RX11, TX11, 17), (RX12, TX12, 58)]
end
