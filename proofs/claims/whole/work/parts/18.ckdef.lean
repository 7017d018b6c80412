/-! each entry of the tables: decoded so, and its numbers as the class files have them -/
def hasF (k idx r1 r2 r3 : Nat) : Bool := FT_l.any fun f => match f with
  | (k', a, b, c, d) => Nat.beq a idx && Nat.beq k' k && Nat.beq b r1 && Nat.beq c r2 && Nat.beq d r3
def hasM (L : List XC) (k idx : Nat) (c : Int) (r1 r2 r3 : Nat) : Bool := L.any fun f => match f with
  | (k', a, c', b1, b2, b3, _) => Nat.beq a idx && Nat.beq k' k && decide ((c' : Int) = c) && Nat.beq b1 r1 && Nat.beq b2 r2 && Nat.beq b3 r3
def hasO (L : List (Nat × Nat)) (k idx : Nat) : Bool := L.any fun f => Nat.beq f.2 idx && Nat.beq f.1 k
def hasK (k idx : Nat) (c : Int) : Bool := KT_l.any fun f => Nat.beq f.2.1 idx && Nat.beq f.1 k && decide (f.2.2 = c)
def hasN (k idx r1 : Nat) : Bool := NT_l.any fun f => Nat.beq f.2.1 idx && Nat.beq f.1 k && Nat.beq f.2.2 r1
def isX (r1 : Nat) (tg : List Nat) : Bool := match tg with
  | [mx] => Nat.beq mx (XML r1)
  | _ => false
def ckE (m : Nat) (e : XE) : Bool :=
  match e with
  | (pc, ins, len, c, r1, r2, r3, tg) =>
    match ins with
    | .iload k => Nat.beq k r1 && Nat.beq len 2
    | .lload k => Nat.beq k r1 && Nat.beq len 2
    | .aload k => Nat.beq k r1 && Nat.beq len 2
    | .istore k => Nat.beq k r1 && Nat.beq len 2 && Nat.blt r1 (XML m)
    | .lstore k => Nat.beq k r1 && Nat.beq len 2 && Nat.blt (r1 + 1) (XML m)
    | .astore k => Nat.beq k r1 && Nat.beq len 2 && Nat.blt r1 (XML m)
    | .iload_n k => Nat.beq k.val r1 && Nat.beq len 1
    | .lload_n k => Nat.beq k.val r1 && Nat.beq len 1
    | .aload_n k => Nat.beq k.val r1 && Nat.beq len 1
    | .istore_n k => Nat.beq k.val r1 && Nat.beq len 1 && Nat.blt r1 (XML m)
    | .lstore_n k => Nat.beq k.val r1 && Nat.beq len 1 && Nat.blt (r1 + 1) (XML m)
    | .astore_n k => Nat.beq k.val r1 && Nat.beq len 1 && Nat.blt r1 (XML m)
    | .iinc k n => Nat.beq k r1 && decide (n = c) && Nat.beq len 3 && Nat.blt r1 (XML m)
    | .iconst n => decide (n = c) && ck32 c && Nat.beq len 1
    | .bipush n => decide (n = c) && decide (-128 ≤ c) && decide (c < 128) && Nat.beq len 2
    | .sipush n => decide (n = c) && decide (-32768 ≤ c) && decide (c < 32768) && Nat.beq len 3
    | .lconst n => decide ((n.val : Int) = c) && Nat.beq len 1
    | .ldc2_w idx => hasK (mK m) idx c && Nat.beq len 3
    | .dconst n => Nat.beq n.val 0 && decide (c = 0) && Nat.beq len 1
    | .dup | .dup2 | .dup_x1 | .pop | .iadd | .isub | .imul | .idiv | .irem | .ineg | .iand | .ior | .ixor | .ladd | .lsub | .lmul | .ldiv | .land | .lor | .lxor | .lshl | .lushr | .lcmp | .i2l | .l2i | .i2b | .i2s | .i2c | .l2f | .l2d | .f2l | .d2l | .f2d | .dcmp _ | .iaload | .baload | .laload | .daload | .iastore | .bastore | .lastore | .dastore | .arraylength => Nat.beq len 1
    | .getfield idx => hasF (mK m) idx r1 r2 r3 && Nat.beq len 3
    | .putfield idx => hasF (mK m) idx r1 r2 r3 && Nat.beq len 3 && (!((vcl (r1 - 10)).2.1 r2).2.2.2 || (mN m && Nat.beq (r1 - 10) (mK m)))
    | .aaload => (Nat.beq r1 5 || Nat.beq r1 6) && Nat.beq len 1
    | .aastore => ((Nat.beq r1 5 && Nat.beq r2 16) || (Nat.beq r1 6 && Nat.beq r2 17)) && Nat.beq len 1
    | .new idx => hasN (mK m) idx r1 && Nat.beq len 3
    | .newarray .int => Nat.beq r1 1 && Nat.beq len 2
    | .newarray .long => Nat.beq r1 2 && Nat.beq len 2
    | .newarray .boolean => Nat.beq r1 3 && Nat.beq len 2
    | .newarray .double => Nat.beq r1 4 && Nat.beq len 2
    | .anewarray idx => ((Nat.beq r1 5 && hasN (mK m) idx 16) || (Nat.beq r1 6 && hasN (mK m) idx 17)) && Nat.beq len 3
    | .invokevirtual idx => hasM MT0_l (mK m) idx c r1 r2 r3 && Nat.beq len 3 && isX r1 tg
    | .invokespecial idx => ((hasO MT3_l (mK m) idx && Nat.beq r3 9 && Nat.beq r2 1 && decide (c = 0)) || (hasM MT1_l (mK m) idx c r1 r2 r3 && isX r1 tg)) && Nat.beq len 3
    | .invokestatic idx => ((hasM MT2_l (mK m) idx c r1 r2 r3 && isX r1 tg) || (hasO MT4_l (mK m) idx && Nat.beq r3 8 && Nat.beq r2 2 && decide (c = 0))) && Nat.beq len 3
    | .ireturn => ((Nat.beq r1 0 && decide (mR m = some .int)) || (Nat.beq r1 1 && decide (mR m = some .boolean))) && Nat.beq len 1
    | .lreturn => decide (mR m = some .long) && Nat.beq len 1
    | .areturn => Nat.beq (rtag (mR m)) 2 && Nat.beq len 1
    | .return_ => decide (mR m = none) && Nat.beq len 1
    | .goto off => decide ((pc : Int) + off = (r1 : Int)) && Nat.beq len 3
    | .ifCond _ off => decide ((pc : Int) + off = (r1 : Int)) && Nat.beq len 3
    | .if_icmp _ off => decide ((pc : Int) + off = (r1 : Int)) && Nat.beq len 3
    | .tableswitch d lo hi offs => decide (lo = c) && ck32 lo && decide ((pc : Int) + d = (r1 : Int)) && decide ((tg.length : Int) = hi - lo + 1) && decide (offs.toList.map (fun o => (pc : Int) + o) = tg.map (fun (t : Nat) => (t : Int)))
    | _ => false
def ckD (m : Nat) (e : XE) : Bool := match decode (mC m) e.1 with
  | .ok (i, l) => decide (i = e.2.1) && Nat.beq l e.2.2.1
  | _ => false
def ckC (m : Nat) : Nat → List XE → Nat → Bool
  | pc, [], nx => Nat.beq pc nx
  | pc, e :: es, nx => Nat.beq e.1 pc && ckD m e && ckE m e && ckC m (pc + e.2.2.1) es nx
def ckB (m : Nat) (b : XB) : Bool := ckC m b.1 b.2.2.1 b.2.2.2 && Nat.beq b.2.1.length (XML m)
def ckM (m : Nat) : Bool := (XP m).all (ckB m)
