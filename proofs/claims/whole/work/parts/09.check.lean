/-! each entry of the tables: decoded so, and its numbers as the class files have them -/
def hasF (k idx r1 r2 r3 : Nat) : Bool := FT_l.any fun f => match f with
  | (k', a, b, c, d) => Nat.beq a idx && Nat.beq k' k && Nat.beq b r1 && Nat.beq c r2 && Nat.beq d r3
def hasM (L : List XC) (k idx : Nat) (c : Int) (r1 r2 r3 : Nat) : Bool := L.any fun f => match f with
  | (k', a, c', b1, b2, b3, _) => Nat.beq a idx && Nat.beq k' k && decide ((c' : Int) = c) && Nat.beq b1 r1 && Nat.beq b2 r2 && Nat.beq b3 r3
def hasO (L : List (Nat × Nat)) (k idx : Nat) : Bool := L.any fun f => Nat.beq f.2 idx && Nat.beq f.1 k
def hasK (k idx : Nat) (c : Int) : Bool := KT_l.any fun f => Nat.beq f.2.1 idx && Nat.beq f.1 k && decide (f.2.2 = c)
def hasN (k idx r1 : Nat) : Bool := NT_l.any fun f => Nat.beq f.2.1 idx && Nat.beq f.1 k && Nat.beq f.2.2 r1
def ckE (m : Nat) (e : XE) : Bool :=
  match e with
  | (pc, ins, len, c, r1, r2, r3, tg) =>
    match ins with
    | .iload k => Nat.beq k r1 && Nat.beq len 2
    | .lload k => Nat.beq k r1 && Nat.beq len 2
    | .aload k => Nat.beq k r1 && Nat.beq len 2
    | .istore k => Nat.beq k r1 && Nat.beq len 2 && Nat.blt r1 (XML m)
    | .lstore k => Nat.beq k r1 && Nat.beq len 2 && Nat.blt (r1 + 1) (XML m)
    | .astore k => Nat.beq k r1 && Nat.beq len 2 && Nat.blt r1 (XML m)
    | .iload_n k => Nat.beq k.val r1 && Nat.beq len 1
    | .lload_n k => Nat.beq k.val r1 && Nat.beq len 1
    | .aload_n k => Nat.beq k.val r1 && Nat.beq len 1
    | .istore_n k => Nat.beq k.val r1 && Nat.beq len 1 && Nat.blt r1 (XML m)
    | .lstore_n k => Nat.beq k.val r1 && Nat.beq len 1 && Nat.blt (r1 + 1) (XML m)
    | .astore_n k => Nat.beq k.val r1 && Nat.beq len 1 && Nat.blt r1 (XML m)
    | .iinc k n => Nat.beq k r1 && decide (n = c) && Nat.beq len 3 && Nat.blt r1 (XML m)
    | .iconst n => decide (n = c) && ck32 c && Nat.beq len 1
    | .bipush n => decide (n = c) && ck32 c && Nat.beq len 2
    | .sipush n => decide (n = c) && ck32 c && Nat.beq len 3
    | .lconst n => decide ((n.val : Int) = c) && Nat.beq len 1
    | .ldc2_w idx => hasK (mK m) idx c && Nat.beq len 3
    | .dconst n => Nat.beq n.val 0 && decide (c = 0) && Nat.beq len 1
    | .dup | .dup2 | .dup_x1 | .pop | .iadd | .isub | .imul | .idiv | .irem | .ineg | .iand | .ior | .ixor | .ladd | .lsub | .lmul | .ldiv | .land | .lor | .lxor | .lshl | .lushr | .lcmp | .i2l | .l2i | .i2b | .i2s | .i2c | .l2f | .l2d | .f2l | .d2l | .f2d | .dcmp _ | .iaload | .baload | .laload | .daload | .iastore | .bastore | .lastore | .dastore | .arraylength => Nat.beq len 1
    | .getfield idx => hasF (mK m) idx r1 r2 r3 && Nat.beq len 3
    | .putfield idx => hasF (mK m) idx r1 r2 r3 && Nat.beq len 3 && (!((vcl (r1 - 10)).2.1 r2).2.2.2 || (mN m && Nat.beq (r1 - 10) (mK m)))
    | .aaload => (Nat.beq r1 5 || Nat.beq r1 6) && Nat.beq len 1
    | .aastore => ((Nat.beq r1 5 && Nat.beq r2 16) || (Nat.beq r1 6 && Nat.beq r2 17)) && Nat.beq len 1
    | .new idx => hasN (mK m) idx r1 && Nat.beq len 3
    | .newarray .int => Nat.beq r1 1 && Nat.beq len 2
    | .newarray .long => Nat.beq r1 2 && Nat.beq len 2
    | .newarray .boolean => Nat.beq r1 3 && Nat.beq len 2
    | .newarray .double => Nat.beq r1 4 && Nat.beq len 2
    | .anewarray idx => ((Nat.beq r1 5 && hasN (mK m) idx 16) || (Nat.beq r1 6 && hasN (mK m) idx 17)) && Nat.beq len 3
    | .invokevirtual idx => hasM MT0_l (mK m) idx c r1 r2 r3 && Nat.beq len 3
    | .invokespecial idx => ((hasO MT3_l (mK m) idx && Nat.beq r3 9 && Nat.beq r2 1 && decide (c = 0)) || (hasM MT1_l (mK m) idx c r1 r2 r3)) && Nat.beq len 3
    | .invokestatic idx => (hasM MT2_l (mK m) idx c r1 r2 r3 || (hasO MT4_l (mK m) idx && Nat.beq r3 8 && Nat.beq r2 2 && decide (c = 0))) && Nat.beq len 3
    | .ireturn => ((Nat.beq r1 0 && decide (mR m = some .int)) || (Nat.beq r1 1 && decide (mR m = some .boolean))) && Nat.beq len 1
    | .lreturn => decide (mR m = some .long) && Nat.beq len 1
    | .areturn => Nat.beq (rtag (mR m)) 2 && Nat.beq len 1
    | .return_ => decide (mR m = none) && Nat.beq len 1
    | .goto off => decide ((pc : Int) + off = (r1 : Int)) && Nat.beq len 3
    | .ifCond _ off => decide ((pc : Int) + off = (r1 : Int)) && Nat.beq len 3
    | .if_icmp _ off => decide ((pc : Int) + off = (r1 : Int)) && Nat.beq len 3
    | .tableswitch d lo hi offs => decide (lo = c) && ck32 lo && decide ((pc : Int) + d = (r1 : Int)) && decide ((tg.length : Int) = hi - lo + 1) && decide (offs.toList.map (fun o => (pc : Int) + o) = tg.map (fun (t : Nat) => (t : Int)))
    | _ => false
def ckD (m : Nat) (e : XE) : Bool := match decode (mC m) e.1 with
  | .ok (i, l) => decide (i = e.2.1) && Nat.beq l e.2.2.1
  | _ => false
def ckC (m : Nat) : Nat → List XE → Nat → Bool
  | pc, [], nx => Nat.beq pc nx
  | pc, e :: es, nx => Nat.beq e.1 pc && ckD m e && ckE m e && ckC m (pc + e.2.2.1) es nx
def ckB (m : Nat) (b : XB) : Bool := ckC m b.1 b.2.2.1 b.2.2.2 && Nat.beq b.2.1.length (XML m)
def ckM (m : Nat) : Bool := (XP m).all (ckB m)
set_option maxRecDepth 100000 in
theorem ck_0 : (List.range' 0 40).all ckM = true := by decide +kernel
set_option maxRecDepth 100000 in
theorem ck_40 : (List.range' 40 40).all ckM = true := by decide +kernel
set_option maxRecDepth 100000 in
theorem ck_80 : (List.range' 80 32).all ckM = true := by decide +kernel
set_option maxRecDepth 100000 in
theorem ck_112 : (List.range' 112 38).all ckM = true := by decide +kernel
set_option maxRecDepth 100000 in
theorem ck_150 : (List.range' 150 37).all ckM = true := by decide +kernel
set_option maxRecDepth 100000 in
theorem ck_187 : (List.range' 187 28).all ckM = true := by decide +kernel
set_option maxRecDepth 100000 in
theorem ck_215 : (List.range' 215 35).all ckM = true := by decide +kernel
set_option maxRecDepth 100000 in
theorem ck_250 : (List.range' 250 30).all ckM = true := by decide +kernel
set_option maxRecDepth 100000 in
theorem ck_280 : (List.range' 280 30).all ckM = true := by decide +kernel
set_option maxRecDepth 100000 in
theorem ck_310 : (List.range' 310 1).all ckM = true := by decide +kernel
theorem ck_all (m : Nat) (h : m < 311) : ckM m = true := by
  rcases (by omega : (0 ≤ m ∧ m < 40) ∨ (40 ≤ m ∧ m < 80) ∨ (80 ≤ m ∧ m < 112) ∨ (112 ≤ m ∧ m < 150) ∨ (150 ≤ m ∧ m < 187) ∨ (187 ≤ m ∧ m < 215) ∨ (215 ≤ m ∧ m < 250) ∨ (250 ≤ m ∧ m < 280) ∨ (280 ≤ m ∧ m < 310) ∨ (310 ≤ m ∧ m < 311)) with h | h | h | h | h | h | h | h | h | h
  · exact List.all_eq_true.mp ck_0 m (List.mem_range'_1.mpr (by omega))
  · exact List.all_eq_true.mp ck_40 m (List.mem_range'_1.mpr (by omega))
  · exact List.all_eq_true.mp ck_80 m (List.mem_range'_1.mpr (by omega))
  · exact List.all_eq_true.mp ck_112 m (List.mem_range'_1.mpr (by omega))
  · exact List.all_eq_true.mp ck_150 m (List.mem_range'_1.mpr (by omega))
  · exact List.all_eq_true.mp ck_187 m (List.mem_range'_1.mpr (by omega))
  · exact List.all_eq_true.mp ck_215 m (List.mem_range'_1.mpr (by omega))
  · exact List.all_eq_true.mp ck_250 m (List.mem_range'_1.mpr (by omega))
  · exact List.all_eq_true.mp ck_280 m (List.mem_range'_1.mpr (by omega))
  · exact List.all_eq_true.mp ck_310 m (List.mem_range'_1.mpr (by omega))
