/-! soundness: the plain instructions -/
theorem f32_id (u : UInt32) : UInt32.ofNat ((u.toNat : Int)).toNat = u := by
  rw [Int.toNat_natCast]
  exact UInt32.ofNat_toNat
theorem f64_id (u : UInt64) : UInt64.ofNat ((u.toNat : Int)).toNat = u := by
  rw [Int.toNat_natCast]
  exact UInt64.ofNat_toNat
theorem f32_c (u : UInt32) : 0 ≤ (u.toNat : Int) ∧ (u.toNat : Int) < 4294967296 := ⟨by omega, by have := u.toNat_lt; omega⟩
theorem f64_c (u : UInt64) : 0 ≤ (u.toNat : Int) ∧ (u.toNat : Int) < 18446744073709551616 := ⟨by omega, by have := u.toNat_lt; omega⟩
section
variable {p : Program} {l : Launch} {e : Env} {R : Room} {s : State} {mi : MethodId} {args : Array Value} {below : List Frame} {meth : Method} {c : Code} {Q : State → Prop} {D : va_G} {dA : Nat → ClassId} {z : Nat} {sc md : Bool} {b m n0 : Nat} {ad0 : Nat → Nat → Nat} {r : XS} {Vf V0 : XM} {pc : Nat} {ls st : List XS} {V : XM}

theorem G_pure {pc' : Nat} {st' : List XS} (hg : Good p l e R s mi args below meth c Q D dA z sc md b m n0 ad0 r Vf V0 pc' ls st' V) (hc : ∀ n, (∀ v ∈ ls, cS sc n v) → (∀ v ∈ st, cS sc n v) → ∀ v ∈ st', cS sc n v) (hw : ∀ n ad H locs lsA k1 k2, (∀ v ∈ ls, cS sc n v) → (∀ v ∈ st, cS sc n v) → lv_has lsA (XML m) (lvl ad ls) → ls.length = XML m → W p l e R s mi args below meth c H locs k1 k2 Q (F0 mi pc' lsA (st'.map (tv ad))) → W p l e R s mi args below meth c H locs k1 k2 Q (F0 mi pc lsA (st.map (tv ad)))) : Good p l e R s mi args below meth c Q D dA z sc md b m n0 ad0 r Vf V0 pc ls st V := by
  intro n h1 h2 h3 h4 h5 h6 h7 h8 h9
  obtain ⟨a, bb⟩ := hg n h1 h2 h3 h4 h5 h6 (hc n h6 h7) h8 h9
  exact ⟨a, fun ad H locs lsA q1 q2 q3 q4 q5 => hw n ad H locs lsA _ _ h6 h7 q5 h5 (bb ad H locs lsA q1 q2 q3 q4 q5)⟩
theorem G_br {pc1 pc2 : Nat} {st' : List XS} {P : Prop} (hg1 : P → Good p l e R s mi args below meth c Q D dA z sc md b m n0 ad0 r Vf V0 pc1 ls st' V) (hg2 : ¬ P → Good p l e R s mi args below meth c Q D dA z sc md b m n0 ad0 r Vf V0 pc2 ls st' V) (hc : ∀ n, (∀ v ∈ st, cS sc n v) → ∀ v ∈ st', cS sc n v) (hw : ∀ n ad H locs lsA k1 k2, (∀ v ∈ st, cS sc n v) → (P → W p l e R s mi args below meth c H locs k1 k2 Q (F0 mi pc1 lsA (st'.map (tv ad)))) → (¬ P → W p l e R s mi args below meth c H locs k1 k2 Q (F0 mi pc2 lsA (st'.map (tv ad)))) → W p l e R s mi args below meth c H locs k1 k2 Q (F0 mi pc lsA (st.map (tv ad)))) : Good p l e R s mi args below meth c Q D dA z sc md b m n0 ad0 r Vf V0 pc ls st V := by
  intro n h1 h2 h3 h4 h5 h6 h7 h8 h9
  have hP : PEnd V0 sc md n r Vf := by
    by_cases hp : P
    · exact (hg1 hp n h1 h2 h3 h4 h5 h6 (hc n h7) h8 h9).1
    · exact (hg2 hp n h1 h2 h3 h4 h5 h6 (hc n h7) h8 h9).1
  exact ⟨hP, fun ad H locs lsA q1 q2 q3 q4 q5 => hw n ad H locs lsA _ _ h7 (fun hp => (hg1 hp n h1 h2 h3 h4 h5 h6 (hc n h7) h8 h9).2 ad H locs lsA q1 q2 q3 q4 q5) (fun hp => (hg2 hp n h1 h2 h3 h4 h5 h6 (hc n h7) h8 h9).2 ad H locs lsA q1 q2 q3 q4 q5)⟩
theorem m1 {sc : Bool} {n : Nat} {a : XS} {st : List XS} (h : ∀ v ∈ a :: st, cS sc n v) : cS sc n a ∧ ∀ v ∈ st, cS sc n v := ⟨h a List.mem_cons_self, fun v hv => h v (List.mem_cons_of_mem _ hv)⟩
theorem m2 {sc : Bool} {n : Nat} {a : XS} {st : List XS} (h1 : cS sc n a) (h2 : ∀ v ∈ st, cS sc n v) : ∀ v ∈ a :: st, cS sc n v := fun v hv => (List.mem_cons.mp hv).elim (fun e => e ▸ h1) (h2 v)

theorem G_iadd {x y : Int} (hx : p.tables.exec = Jvm.exec) (hb : c.code = mC m) (hd : decode (mC m) pc = .ok (.iadd, 1)) (hg : Good p l e R s mi args below meth c Q D dA z sc md b m n0 ad0 r Vf V0 (pc + 1) ls (xi (w32 (x + y)) :: st) V) : Good p l e R s mi args below meth c Q D dA z sc md b m n0 ad0 r Vf V0 pc ls (xi y :: xi x :: st) V := by
  refine G_pure hg (fun n hl hs => ?_) (fun n ad H locs lsA k1 k2 hl hs hh hlen k => ?_)
  · obtain ⟨h_0, hs⟩ := m1 hs
    obtain ⟨h_1, hs⟩ := m1 hs
    exact m2 (w32_c _) (hs)
  · obtain ⟨h_0, hs⟩ := m1 hs
    obtain ⟨h_1, hs⟩ := m1 hs
    refine lv_iadd hx hb hd ?_
    rw [show Int32.ofInt x + Int32.ofInt y = Int32.ofInt (w32 (x + y)) from by rw [n32_w, Int32.ofInt_add]]
    exact k
theorem G_isub {x y : Int} (hx : p.tables.exec = Jvm.exec) (hb : c.code = mC m) (hd : decode (mC m) pc = .ok (.isub, 1)) (hg : Good p l e R s mi args below meth c Q D dA z sc md b m n0 ad0 r Vf V0 (pc + 1) ls (xi (w32 (x - y)) :: st) V) : Good p l e R s mi args below meth c Q D dA z sc md b m n0 ad0 r Vf V0 pc ls (xi y :: xi x :: st) V := by
  refine G_pure hg (fun n hl hs => ?_) (fun n ad H locs lsA k1 k2 hl hs hh hlen k => ?_)
  · obtain ⟨h_0, hs⟩ := m1 hs
    obtain ⟨h_1, hs⟩ := m1 hs
    exact m2 (w32_c _) (hs)
  · obtain ⟨h_0, hs⟩ := m1 hs
    obtain ⟨h_1, hs⟩ := m1 hs
    refine lv_isub hx hb hd ?_
    rw [show Int32.ofInt x - Int32.ofInt y = Int32.ofInt (w32 (x - y)) from by rw [n32_w, Int32.ofInt_sub]]
    exact k
theorem G_imul {x y : Int} (hx : p.tables.exec = Jvm.exec) (hb : c.code = mC m) (hd : decode (mC m) pc = .ok (.imul, 1)) (hg : Good p l e R s mi args below meth c Q D dA z sc md b m n0 ad0 r Vf V0 (pc + 1) ls (xi (w32 (x * y)) :: st) V) : Good p l e R s mi args below meth c Q D dA z sc md b m n0 ad0 r Vf V0 pc ls (xi y :: xi x :: st) V := by
  refine G_pure hg (fun n hl hs => ?_) (fun n ad H locs lsA k1 k2 hl hs hh hlen k => ?_)
  · obtain ⟨h_0, hs⟩ := m1 hs
    obtain ⟨h_1, hs⟩ := m1 hs
    exact m2 (w32_c _) (hs)
  · obtain ⟨h_0, hs⟩ := m1 hs
    obtain ⟨h_1, hs⟩ := m1 hs
    refine lv_imul hx hb hd ?_
    rw [show Int32.ofInt x * Int32.ofInt y = Int32.ofInt (w32 (x * y)) from by rw [n32_w, Int32.ofInt_mul]]
    exact k
theorem G_iand {x y : Int} (hx : p.tables.exec = Jvm.exec) (hb : c.code = mC m) (hd : decode (mC m) pc = .ok (.iand, 1)) (hg : Good p l e R s mi args below meth c Q D dA z sc md b m n0 ad0 r Vf V0 (pc + 1) ls (xi (iAnd x y) :: st) V) : Good p l e R s mi args below meth c Q D dA z sc md b m n0 ad0 r Vf V0 pc ls (xi y :: xi x :: st) V := by
  refine G_pure hg (fun n hl hs => ?_) (fun n ad H locs lsA k1 k2 hl hs hh hlen k => ?_)
  · obtain ⟨h_0, hs⟩ := m1 hs
    obtain ⟨h_1, hs⟩ := m1 hs
    exact m2 (iAnd_c _ _) (hs)
  · obtain ⟨h_0, hs⟩ := m1 hs
    obtain ⟨h_1, hs⟩ := m1 hs
    refine lv_iand hx hb hd ?_
    rw [show Int32.ofInt x &&& Int32.ofInt y = Int32.ofInt (iAnd x y) from by unfold iAnd; rw [Int32.ofInt_toInt]]
    exact k
theorem G_ior {x y : Int} (hx : p.tables.exec = Jvm.exec) (hb : c.code = mC m) (hd : decode (mC m) pc = .ok (.ior, 1)) (hg : Good p l e R s mi args below meth c Q D dA z sc md b m n0 ad0 r Vf V0 (pc + 1) ls (xi (iOr x y) :: st) V) : Good p l e R s mi args below meth c Q D dA z sc md b m n0 ad0 r Vf V0 pc ls (xi y :: xi x :: st) V := by
  refine G_pure hg (fun n hl hs => ?_) (fun n ad H locs lsA k1 k2 hl hs hh hlen k => ?_)
  · obtain ⟨h_0, hs⟩ := m1 hs
    obtain ⟨h_1, hs⟩ := m1 hs
    exact m2 (iOr_c _ _) (hs)
  · obtain ⟨h_0, hs⟩ := m1 hs
    obtain ⟨h_1, hs⟩ := m1 hs
    refine lv_ior hx hb hd ?_
    rw [show Int32.ofInt x ||| Int32.ofInt y = Int32.ofInt (iOr x y) from by unfold iOr; rw [Int32.ofInt_toInt]]
    exact k
theorem G_ixor {x y : Int} (hx : p.tables.exec = Jvm.exec) (hb : c.code = mC m) (hd : decode (mC m) pc = .ok (.ixor, 1)) (hg : Good p l e R s mi args below meth c Q D dA z sc md b m n0 ad0 r Vf V0 (pc + 1) ls (xi (iXor x y) :: st) V) : Good p l e R s mi args below meth c Q D dA z sc md b m n0 ad0 r Vf V0 pc ls (xi y :: xi x :: st) V := by
  refine G_pure hg (fun n hl hs => ?_) (fun n ad H locs lsA k1 k2 hl hs hh hlen k => ?_)
  · obtain ⟨h_0, hs⟩ := m1 hs
    obtain ⟨h_1, hs⟩ := m1 hs
    exact m2 (iXor_c _ _) (hs)
  · obtain ⟨h_0, hs⟩ := m1 hs
    obtain ⟨h_1, hs⟩ := m1 hs
    refine lv_ixor hx hb hd ?_
    rw [show Int32.ofInt x ^^^ Int32.ofInt y = Int32.ofInt (iXor x y) from by unfold iXor; rw [Int32.ofInt_toInt]]
    exact k
theorem G_idiv {x y : Int} (hx : p.tables.exec = Jvm.exec) (hb : c.code = mC m) (hy : ¬ y = 0) (hd : decode (mC m) pc = .ok (.idiv, 1)) (hg : Good p l e R s mi args below meth c Q D dA z sc md b m n0 ad0 r Vf V0 (pc + 1) ls (xi (w32 (Int.tdiv x y)) :: st) V) : Good p l e R s mi args below meth c Q D dA z sc md b m n0 ad0 r Vf V0 pc ls (xi y :: xi x :: st) V := by
  refine G_pure hg (fun n hl hs => ?_) (fun n ad H locs lsA k1 k2 hl hs hh hlen k => ?_)
  · obtain ⟨h_0, hs⟩ := m1 hs
    obtain ⟨h_1, hs⟩ := m1 hs
    exact m2 (w32_c _) (hs)
  · obtain ⟨h_0, hs⟩ := m1 hs
    obtain ⟨h_1, hs⟩ := m1 hs
    refine lv_idiv hx hb hd (fun q => hy ((n32_inj h_0 (by unfold c32; omega)).mp q)) ?_
    rw [n32_div h_1 h_0]
    exact k
theorem G_irem {x y : Int} (hx : p.tables.exec = Jvm.exec) (hb : c.code = mC m) (hy : ¬ y = 0) (hd : decode (mC m) pc = .ok (.irem, 1)) (hg : Good p l e R s mi args below meth c Q D dA z sc md b m n0 ad0 r Vf V0 (pc + 1) ls (xi (Int.tmod x y) :: st) V) : Good p l e R s mi args below meth c Q D dA z sc md b m n0 ad0 r Vf V0 pc ls (xi y :: xi x :: st) V := by
  refine G_pure hg (fun n hl hs => ?_) (fun n ad H locs lsA k1 k2 hl hs hh hlen k => ?_)
  · obtain ⟨h_0, hs⟩ := m1 hs
    obtain ⟨h_1, hs⟩ := m1 hs
    exact m2 (tmod_c h_1) (hs)
  · obtain ⟨h_0, hs⟩ := m1 hs
    obtain ⟨h_1, hs⟩ := m1 hs
    refine lv_irem hx hb hd (fun q => hy ((n32_inj h_0 (by unfold c32; omega)).mp q)) ?_
    rw [n32_rem h_1 h_0]
    exact k
theorem G_ineg {x : Int} (hx : p.tables.exec = Jvm.exec) (hb : c.code = mC m) (hd : decode (mC m) pc = .ok (.ineg, 1)) (hg : Good p l e R s mi args below meth c Q D dA z sc md b m n0 ad0 r Vf V0 (pc + 1) ls (xi (w32 (-x)) :: st) V) : Good p l e R s mi args below meth c Q D dA z sc md b m n0 ad0 r Vf V0 pc ls (xi x :: st) V := by
  refine G_pure hg (fun n hl hs => ?_) (fun n ad H locs lsA k1 k2 hl hs hh hlen k => ?_)
  · obtain ⟨h_0, hs⟩ := m1 hs
    exact m2 (w32_c _) (hs)
  · obtain ⟨h_0, hs⟩ := m1 hs
    refine lv_ineg hx hb hd ?_
    rw [show -Int32.ofInt x = Int32.ofInt (w32 (-x)) from by rw [n32_w, Int32.ofInt_neg]]
    exact k
theorem G_ladd {x y : Int} (hx : p.tables.exec = Jvm.exec) (hb : c.code = mC m) (hd : decode (mC m) pc = .ok (.ladd, 1)) (hg : Good p l e R s mi args below meth c Q D dA z sc md b m n0 ad0 r Vf V0 (pc + 1) ls (xl (w64 (x + y)) :: st) V) : Good p l e R s mi args below meth c Q D dA z sc md b m n0 ad0 r Vf V0 pc ls (xl y :: xl x :: st) V := by
  refine G_pure hg (fun n hl hs => ?_) (fun n ad H locs lsA k1 k2 hl hs hh hlen k => ?_)
  · obtain ⟨h_0, hs⟩ := m1 hs
    obtain ⟨h_1, hs⟩ := m1 hs
    exact m2 (w64_c _) (hs)
  · obtain ⟨h_0, hs⟩ := m1 hs
    obtain ⟨h_1, hs⟩ := m1 hs
    refine lv_ladd hx hb hd ?_
    rw [show Int64.ofInt x + Int64.ofInt y = Int64.ofInt (w64 (x + y)) from by rw [n64_w, Int64.ofInt_add]]
    exact k
theorem G_lsub {x y : Int} (hx : p.tables.exec = Jvm.exec) (hb : c.code = mC m) (hd : decode (mC m) pc = .ok (.lsub, 1)) (hg : Good p l e R s mi args below meth c Q D dA z sc md b m n0 ad0 r Vf V0 (pc + 1) ls (xl (w64 (x - y)) :: st) V) : Good p l e R s mi args below meth c Q D dA z sc md b m n0 ad0 r Vf V0 pc ls (xl y :: xl x :: st) V := by
  refine G_pure hg (fun n hl hs => ?_) (fun n ad H locs lsA k1 k2 hl hs hh hlen k => ?_)
  · obtain ⟨h_0, hs⟩ := m1 hs
    obtain ⟨h_1, hs⟩ := m1 hs
    exact m2 (w64_c _) (hs)
  · obtain ⟨h_0, hs⟩ := m1 hs
    obtain ⟨h_1, hs⟩ := m1 hs
    refine lv_lsub hx hb hd ?_
    rw [show Int64.ofInt x - Int64.ofInt y = Int64.ofInt (w64 (x - y)) from by rw [n64_w, Int64.ofInt_sub]]
    exact k
theorem G_lmul {x y : Int} (hx : p.tables.exec = Jvm.exec) (hb : c.code = mC m) (hd : decode (mC m) pc = .ok (.lmul, 1)) (hg : Good p l e R s mi args below meth c Q D dA z sc md b m n0 ad0 r Vf V0 (pc + 1) ls (xl (w64 (x * y)) :: st) V) : Good p l e R s mi args below meth c Q D dA z sc md b m n0 ad0 r Vf V0 pc ls (xl y :: xl x :: st) V := by
  refine G_pure hg (fun n hl hs => ?_) (fun n ad H locs lsA k1 k2 hl hs hh hlen k => ?_)
  · obtain ⟨h_0, hs⟩ := m1 hs
    obtain ⟨h_1, hs⟩ := m1 hs
    exact m2 (w64_c _) (hs)
  · obtain ⟨h_0, hs⟩ := m1 hs
    obtain ⟨h_1, hs⟩ := m1 hs
    refine lv_lmul hx hb hd ?_
    rw [show Int64.ofInt x * Int64.ofInt y = Int64.ofInt (w64 (x * y)) from by rw [n64_w, Int64.ofInt_mul]]
    exact k
theorem G_land {x y : Int} (hx : p.tables.exec = Jvm.exec) (hb : c.code = mC m) (hd : decode (mC m) pc = .ok (.land, 1)) (hg : Good p l e R s mi args below meth c Q D dA z sc md b m n0 ad0 r Vf V0 (pc + 1) ls (xl (lAnd x y) :: st) V) : Good p l e R s mi args below meth c Q D dA z sc md b m n0 ad0 r Vf V0 pc ls (xl y :: xl x :: st) V := by
  refine G_pure hg (fun n hl hs => ?_) (fun n ad H locs lsA k1 k2 hl hs hh hlen k => ?_)
  · obtain ⟨h_0, hs⟩ := m1 hs
    obtain ⟨h_1, hs⟩ := m1 hs
    exact m2 (lAnd_c _ _) (hs)
  · obtain ⟨h_0, hs⟩ := m1 hs
    obtain ⟨h_1, hs⟩ := m1 hs
    refine lv_land hx hb hd ?_
    rw [show Int64.ofInt x &&& Int64.ofInt y = Int64.ofInt (lAnd x y) from by unfold lAnd; rw [Int64.ofInt_toInt]]
    exact k
theorem G_lor {x y : Int} (hx : p.tables.exec = Jvm.exec) (hb : c.code = mC m) (hd : decode (mC m) pc = .ok (.lor, 1)) (hg : Good p l e R s mi args below meth c Q D dA z sc md b m n0 ad0 r Vf V0 (pc + 1) ls (xl (lOr x y) :: st) V) : Good p l e R s mi args below meth c Q D dA z sc md b m n0 ad0 r Vf V0 pc ls (xl y :: xl x :: st) V := by
  refine G_pure hg (fun n hl hs => ?_) (fun n ad H locs lsA k1 k2 hl hs hh hlen k => ?_)
  · obtain ⟨h_0, hs⟩ := m1 hs
    obtain ⟨h_1, hs⟩ := m1 hs
    exact m2 (lOr_c _ _) (hs)
  · obtain ⟨h_0, hs⟩ := m1 hs
    obtain ⟨h_1, hs⟩ := m1 hs
    refine lv_lor hx hb hd ?_
    rw [show Int64.ofInt x ||| Int64.ofInt y = Int64.ofInt (lOr x y) from by unfold lOr; rw [Int64.ofInt_toInt]]
    exact k
theorem G_lxor {x y : Int} (hx : p.tables.exec = Jvm.exec) (hb : c.code = mC m) (hd : decode (mC m) pc = .ok (.lxor, 1)) (hg : Good p l e R s mi args below meth c Q D dA z sc md b m n0 ad0 r Vf V0 (pc + 1) ls (xl (lXor x y) :: st) V) : Good p l e R s mi args below meth c Q D dA z sc md b m n0 ad0 r Vf V0 pc ls (xl y :: xl x :: st) V := by
  refine G_pure hg (fun n hl hs => ?_) (fun n ad H locs lsA k1 k2 hl hs hh hlen k => ?_)
  · obtain ⟨h_0, hs⟩ := m1 hs
    obtain ⟨h_1, hs⟩ := m1 hs
    exact m2 (lXor_c _ _) (hs)
  · obtain ⟨h_0, hs⟩ := m1 hs
    obtain ⟨h_1, hs⟩ := m1 hs
    refine lv_lxor hx hb hd ?_
    rw [show Int64.ofInt x ^^^ Int64.ofInt y = Int64.ofInt (lXor x y) from by unfold lXor; rw [Int64.ofInt_toInt]]
    exact k
theorem G_ldiv {x y : Int} (hx : p.tables.exec = Jvm.exec) (hb : c.code = mC m) (hy : ¬ y = 0) (hd : decode (mC m) pc = .ok (.ldiv, 1)) (hg : Good p l e R s mi args below meth c Q D dA z sc md b m n0 ad0 r Vf V0 (pc + 1) ls (xl (w64 (Int.tdiv x y)) :: st) V) : Good p l e R s mi args below meth c Q D dA z sc md b m n0 ad0 r Vf V0 pc ls (xl y :: xl x :: st) V := by
  refine G_pure hg (fun n hl hs => ?_) (fun n ad H locs lsA k1 k2 hl hs hh hlen k => ?_)
  · obtain ⟨h_0, hs⟩ := m1 hs
    obtain ⟨h_1, hs⟩ := m1 hs
    exact m2 (w64_c _) (hs)
  · obtain ⟨h_0, hs⟩ := m1 hs
    obtain ⟨h_1, hs⟩ := m1 hs
    refine lv_ldiv hx hb hd (fun q => hy ((n64_inj h_0 (by unfold c64; omega)).mp q)) ?_
    rw [n64_div h_1 h_0]
    exact k
theorem G_lshl {x y : Int} (hx : p.tables.exec = Jvm.exec) (hb : c.code = mC m) (hd : decode (mC m) pc = .ok (.lshl, 1)) (hg : Good p l e R s mi args below meth c Q D dA z sc md b m n0 ad0 r Vf V0 (pc + 1) ls (xl (lShl x y) :: st) V) : Good p l e R s mi args below meth c Q D dA z sc md b m n0 ad0 r Vf V0 pc ls (xi y :: xl x :: st) V := by
  refine G_pure hg (fun n hl hs => ?_) (fun n ad H locs lsA k1 k2 hl hs hh hlen k => ?_)
  · obtain ⟨h_0, hs⟩ := m1 hs
    obtain ⟨h_1, hs⟩ := m1 hs
    exact m2 (lShl_c _ _) (hs)
  · obtain ⟨h_0, hs⟩ := m1 hs
    obtain ⟨h_1, hs⟩ := m1 hs
    exact lv_lshl hx hb hd (n64_shl h_0) k
theorem G_lushr {x y : Int} (hx : p.tables.exec = Jvm.exec) (hb : c.code = mC m) (hd : decode (mC m) pc = .ok (.lushr, 1)) (hg : Good p l e R s mi args below meth c Q D dA z sc md b m n0 ad0 r Vf V0 (pc + 1) ls (xl (lUshr x y) :: st) V) : Good p l e R s mi args below meth c Q D dA z sc md b m n0 ad0 r Vf V0 pc ls (xi y :: xl x :: st) V := by
  refine G_pure hg (fun n hl hs => ?_) (fun n ad H locs lsA k1 k2 hl hs hh hlen k => ?_)
  · obtain ⟨h_0, hs⟩ := m1 hs
    obtain ⟨h_1, hs⟩ := m1 hs
    exact m2 (lUshr_c _ _) (hs)
  · obtain ⟨h_0, hs⟩ := m1 hs
    obtain ⟨h_1, hs⟩ := m1 hs
    exact lv_lushr hx hb hd (n64_ushr h_0) k
theorem G_i2l {x : Int} (hx : p.tables.exec = Jvm.exec) (hb : c.code = mC m) (hd : decode (mC m) pc = .ok (.i2l, 1)) (hg : Good p l e R s mi args below meth c Q D dA z sc md b m n0 ad0 r Vf V0 (pc + 1) ls (xl x :: st) V) : Good p l e R s mi args below meth c Q D dA z sc md b m n0 ad0 r Vf V0 pc ls (xi x :: st) V := by
  refine G_pure hg (fun n hl hs => ?_) (fun n ad H locs lsA k1 k2 hl hs hh hlen k => ?_)
  · obtain ⟨h_0, hs⟩ := m1 hs
    exact m2 (c32_64 h_0) (hs)
  · obtain ⟨h_0, hs⟩ := m1 hs
    exact lv_i2l hx hb hd (n32_toInt64 h_0) k
theorem G_l2i {x : Int} (hx : p.tables.exec = Jvm.exec) (hb : c.code = mC m) (hd : decode (mC m) pc = .ok (.l2i, 1)) (hg : Good p l e R s mi args below meth c Q D dA z sc md b m n0 ad0 r Vf V0 (pc + 1) ls (xi (w32 x) :: st) V) : Good p l e R s mi args below meth c Q D dA z sc md b m n0 ad0 r Vf V0 pc ls (xl x :: st) V := by
  refine G_pure hg (fun n hl hs => ?_) (fun n ad H locs lsA k1 k2 hl hs hh hlen k => ?_)
  · obtain ⟨h_0, hs⟩ := m1 hs
    exact m2 (w32_c _) (hs)
  · obtain ⟨h_0, hs⟩ := m1 hs
    exact lv_l2i hx hb hd n64_toInt32 k
theorem G_i2b {x : Int} (hx : p.tables.exec = Jvm.exec) (hb : c.code = mC m) (hd : decode (mC m) pc = .ok (.i2b, 1)) (hg : Good p l e R s mi args below meth c Q D dA z sc md b m n0 ad0 r Vf V0 (pc + 1) ls (xi (w8 x) :: st) V) : Good p l e R s mi args below meth c Q D dA z sc md b m n0 ad0 r Vf V0 pc ls (xi x :: st) V := by
  refine G_pure hg (fun n hl hs => ?_) (fun n ad H locs lsA k1 k2 hl hs hh hlen k => ?_)
  · obtain ⟨h_0, hs⟩ := m1 hs
    exact m2 (w8_c _) (hs)
  · obtain ⟨h_0, hs⟩ := m1 hs
    exact lv_i2b hx hb hd n32_i2b k
theorem G_i2s {x : Int} (hx : p.tables.exec = Jvm.exec) (hb : c.code = mC m) (hd : decode (mC m) pc = .ok (.i2s, 1)) (hg : Good p l e R s mi args below meth c Q D dA z sc md b m n0 ad0 r Vf V0 (pc + 1) ls (xi (w16 x) :: st) V) : Good p l e R s mi args below meth c Q D dA z sc md b m n0 ad0 r Vf V0 pc ls (xi x :: st) V := by
  refine G_pure hg (fun n hl hs => ?_) (fun n ad H locs lsA k1 k2 hl hs hh hlen k => ?_)
  · obtain ⟨h_0, hs⟩ := m1 hs
    exact m2 (w16_c _) (hs)
  · obtain ⟨h_0, hs⟩ := m1 hs
    exact lv_i2s hx hb hd n32_i2s k
theorem G_i2c {x : Int} (hx : p.tables.exec = Jvm.exec) (hb : c.code = mC m) (hd : decode (mC m) pc = .ok (.i2c, 1)) (hg : Good p l e R s mi args below meth c Q D dA z sc md b m n0 ad0 r Vf V0 (pc + 1) ls (xi (c16 x) :: st) V) : Good p l e R s mi args below meth c Q D dA z sc md b m n0 ad0 r Vf V0 pc ls (xi x :: st) V := by
  refine G_pure hg (fun n hl hs => ?_) (fun n ad H locs lsA k1 k2 hl hs hh hlen k => ?_)
  · obtain ⟨h_0, hs⟩ := m1 hs
    exact m2 (c16_c _) (hs)
  · obtain ⟨h_0, hs⟩ := m1 hs
    exact lv_i2c hx hb hd n32_i2c k
theorem G_l2f {x : Int} (hx : p.tables.exec = Jvm.exec) (hb : c.code = mC m) (hd : decode (mC m) pc = .ok (.l2f, 1)) (hg : Good p l e R s mi args below meth c Q D dA z sc md b m n0 ad0 r Vf V0 (pc + 1) ls (xf (fL2F x) :: st) V) : Good p l e R s mi args below meth c Q D dA z sc md b m n0 ad0 r Vf V0 pc ls (xl x :: st) V := by
  refine G_pure hg (fun n hl hs => ?_) (fun n ad H locs lsA k1 k2 hl hs hh hlen k => ?_)
  · obtain ⟨h_0, hs⟩ := m1 hs
    exact m2 (f32_c _) (hs)
  · obtain ⟨h_0, hs⟩ := m1 hs
    refine lv_l2f hx hb hd ?_
    rw [show FP.l2f (Int64.ofInt x) = UInt32.ofNat (fL2F x).toNat from (f32_id _).symm]
    exact k
theorem G_l2d {x : Int} (hx : p.tables.exec = Jvm.exec) (hb : c.code = mC m) (hd : decode (mC m) pc = .ok (.l2d, 1)) (hg : Good p l e R s mi args below meth c Q D dA z sc md b m n0 ad0 r Vf V0 (pc + 1) ls (xd (fL2D x) :: st) V) : Good p l e R s mi args below meth c Q D dA z sc md b m n0 ad0 r Vf V0 pc ls (xl x :: st) V := by
  refine G_pure hg (fun n hl hs => ?_) (fun n ad H locs lsA k1 k2 hl hs hh hlen k => ?_)
  · obtain ⟨h_0, hs⟩ := m1 hs
    exact m2 (f64_c _) (hs)
  · obtain ⟨h_0, hs⟩ := m1 hs
    refine lv_l2d hx hb hd ?_
    rw [show FP.l2d (Int64.ofInt x) = UInt64.ofNat (fL2D x).toNat from (f64_id _).symm]
    exact k
theorem G_f2l {x : Int} (hx : p.tables.exec = Jvm.exec) (hb : c.code = mC m) (hd : decode (mC m) pc = .ok (.f2l, 1)) (hg : Good p l e R s mi args below meth c Q D dA z sc md b m n0 ad0 r Vf V0 (pc + 1) ls (xl (fF2L x) :: st) V) : Good p l e R s mi args below meth c Q D dA z sc md b m n0 ad0 r Vf V0 pc ls (xf x :: st) V := by
  refine G_pure hg (fun n hl hs => ?_) (fun n ad H locs lsA k1 k2 hl hs hh hlen k => ?_)
  · obtain ⟨h_0, hs⟩ := m1 hs
    exact m2 (fF2L_c _) (hs)
  · obtain ⟨h_0, hs⟩ := m1 hs
    refine lv_f2l hx hb hd ?_
    rw [show FP.f2l (UInt32.ofNat x.toNat) = Int64.ofInt (fF2L x) from by unfold fF2L; rw [Int64.ofInt_toInt]]
    exact k
theorem G_d2l {x : Int} (hx : p.tables.exec = Jvm.exec) (hb : c.code = mC m) (hd : decode (mC m) pc = .ok (.d2l, 1)) (hg : Good p l e R s mi args below meth c Q D dA z sc md b m n0 ad0 r Vf V0 (pc + 1) ls (xl (fD2L x) :: st) V) : Good p l e R s mi args below meth c Q D dA z sc md b m n0 ad0 r Vf V0 pc ls (xd x :: st) V := by
  refine G_pure hg (fun n hl hs => ?_) (fun n ad H locs lsA k1 k2 hl hs hh hlen k => ?_)
  · obtain ⟨h_0, hs⟩ := m1 hs
    exact m2 (fD2L_c _) (hs)
  · obtain ⟨h_0, hs⟩ := m1 hs
    refine lv_d2l hx hb hd ?_
    rw [show FP.d2l (UInt64.ofNat x.toNat) = Int64.ofInt (fD2L x) from by unfold fD2L; rw [Int64.ofInt_toInt]]
    exact k
theorem G_f2d {x : Int} (hx : p.tables.exec = Jvm.exec) (hb : c.code = mC m) (hn : fNum (fF2D x) = true) (hd : decode (mC m) pc = .ok (.f2d, 1)) (hg : Good p l e R s mi args below meth c Q D dA z sc md b m n0 ad0 r Vf V0 (pc + 1) ls (xd (fF2D x) :: st) V) : Good p l e R s mi args below meth c Q D dA z sc md b m n0 ad0 r Vf V0 pc ls (xf x :: st) V := by
  refine G_pure hg (fun n hl hs => ?_) (fun n ad H locs lsA k1 k2 hl hs hh hlen k => ?_)
  · obtain ⟨h_0, hs⟩ := m1 hs
    exact m2 (f64_c _) (hs)
  · obtain ⟨h_0, hs⟩ := m1 hs
    have e1 : UInt64.ofNat (fF2D x).toNat = FP.f2d (UInt32.ofNat x.toNat) := f64_id _
    refine lv_f2d hx hb hd ?_ ?_
    · unfold fNum at hn
      rw [e1] at hn
      unfold vf_n64
      exact of_decide_eq_true hn
    · rw [← e1]
      exact k
theorem G_dcmp {x y : Int} {op : CmpOp} (hx : p.tables.exec = Jvm.exec) (hb : c.code = mC m) (hd : decode (mC m) pc = .ok (.dcmp op, 1)) (hg : Good p l e R s mi args below meth c Q D dA z sc md b m n0 ad0 r Vf V0 (pc + 1) ls (xi (fDcmp op x y) :: st) V) : Good p l e R s mi args below meth c Q D dA z sc md b m n0 ad0 r Vf V0 pc ls (xd y :: xd x :: st) V := by
  refine G_pure hg (fun n hl hs => ?_) (fun n ad H locs lsA k1 k2 hl hs hh hlen k => ?_)
  · obtain ⟨h_0, hs⟩ := m1 hs
    obtain ⟨h_1, hs⟩ := m1 hs
    exact m2 (fDcmp_c _ _ _) (hs)
  · obtain ⟨h_0, hs⟩ := m1 hs
    obtain ⟨h_1, hs⟩ := m1 hs
    refine lv_dcmp hx hb hd ?_
    rw [show Op.cmpValue (FP.dcmp (UInt64.ofNat x.toNat) (UInt64.ofNat y.toNat)) op = Int32.ofInt (fDcmp op x y) from by unfold fDcmp; rw [Int32.ofInt_toInt]]
    exact k
theorem G_dup_i {x : Int} (hx : p.tables.exec = Jvm.exec) (hb : c.code = mC m) (hd : decode (mC m) pc = .ok (.dup, 1)) (hg : Good p l e R s mi args below meth c Q D dA z sc md b m n0 ad0 r Vf V0 (pc + 1) ls (xi x :: xi x :: st) V) : Good p l e R s mi args below meth c Q D dA z sc md b m n0 ad0 r Vf V0 pc ls (xi x :: st) V := by
  refine G_pure hg (fun n hl hs => ?_) (fun n ad H locs lsA k1 k2 hl hs hh hlen k => ?_)
  · obtain ⟨h_0, hs⟩ := m1 hs
    exact m2 (h_0) (m2 (h_0) (hs))
  · obtain ⟨h_0, hs⟩ := m1 hs
    exact lv_dup hx hb hd rfl k
theorem G_dup_r {g i : Nat} (hx : p.tables.exec = Jvm.exec) (hb : c.code = mC m) (hd : decode (mC m) pc = .ok (.dup, 1)) (hg : Good p l e R s mi args below meth c Q D dA z sc md b m n0 ad0 r Vf V0 (pc + 1) ls (xr g i :: xr g i :: st) V) : Good p l e R s mi args below meth c Q D dA z sc md b m n0 ad0 r Vf V0 pc ls (xr g i :: st) V := by
  refine G_pure hg (fun n hl hs => ?_) (fun n ad H locs lsA k1 k2 hl hs hh hlen k => ?_)
  · obtain ⟨h_0, hs⟩ := m1 hs
    exact m2 (h_0) (m2 (h_0) (hs))
  · obtain ⟨h_0, hs⟩ := m1 hs
    exact lv_dup hx hb hd (tv_cat ad (xr g i)) k
theorem G_dup2 {y : Int} {g i : Nat} (hx : p.tables.exec = Jvm.exec) (hb : c.code = mC m) (hd : decode (mC m) pc = .ok (.dup2, 1)) (hg : Good p l e R s mi args below meth c Q D dA z sc md b m n0 ad0 r Vf V0 (pc + 1) ls (xi y :: xr g i :: xi y :: xr g i :: st) V) : Good p l e R s mi args below meth c Q D dA z sc md b m n0 ad0 r Vf V0 pc ls (xi y :: xr g i :: st) V := by
  refine G_pure hg (fun n hl hs => ?_) (fun n ad H locs lsA k1 k2 hl hs hh hlen k => ?_)
  · obtain ⟨h_0, hs⟩ := m1 hs
    obtain ⟨h_1, hs⟩ := m1 hs
    exact m2 (h_0) (m2 (h_1) (m2 (h_0) (m2 (h_1) (hs))))
  · obtain ⟨h_0, hs⟩ := m1 hs
    obtain ⟨h_1, hs⟩ := m1 hs
    exact lv_dup2_11 hx hb hd rfl (tv_cat ad (xr g i)) k
theorem G_dup_x1 {y : Int} {g i : Nat} (hx : p.tables.exec = Jvm.exec) (hb : c.code = mC m) (hd : decode (mC m) pc = .ok (.dup_x1, 1)) (hg : Good p l e R s mi args below meth c Q D dA z sc md b m n0 ad0 r Vf V0 (pc + 1) ls (xi y :: xr g i :: xi y :: st) V) : Good p l e R s mi args below meth c Q D dA z sc md b m n0 ad0 r Vf V0 pc ls (xi y :: xr g i :: st) V := by
  refine G_pure hg (fun n hl hs => ?_) (fun n ad H locs lsA k1 k2 hl hs hh hlen k => ?_)
  · obtain ⟨h_0, hs⟩ := m1 hs
    obtain ⟨h_1, hs⟩ := m1 hs
    exact m2 (h_0) (m2 (h_1) (m2 (h_0) (hs)))
  · obtain ⟨h_0, hs⟩ := m1 hs
    obtain ⟨h_1, hs⟩ := m1 hs
    exact lv_dup_x1 hx hb hd rfl (tv_cat ad (xr g i)) k
theorem G_pop {y : Int} (hx : p.tables.exec = Jvm.exec) (hb : c.code = mC m) (hd : decode (mC m) pc = .ok (.pop, 1)) (hg : Good p l e R s mi args below meth c Q D dA z sc md b m n0 ad0 r Vf V0 (pc + 1) ls (st) V) : Good p l e R s mi args below meth c Q D dA z sc md b m n0 ad0 r Vf V0 pc ls (xi y :: st) V := by
  refine G_pure hg (fun n hl hs => ?_) (fun n ad H locs lsA k1 k2 hl hs hh hlen k => ?_)
  · obtain ⟨h_0, hs⟩ := m1 hs
    exact hs
  · obtain ⟨h_0, hs⟩ := m1 hs
    exact lv_pop hx hb hd rfl k
theorem G_iconst {k0 : Int} (hx : p.tables.exec = Jvm.exec) (hb : c.code = mC m) (hk0 : c32 k0) (hd : decode (mC m) pc = .ok (.iconst k0, 1)) (hg : Good p l e R s mi args below meth c Q D dA z sc md b m n0 ad0 r Vf V0 (pc + 1) ls (xi k0 :: st) V) : Good p l e R s mi args below meth c Q D dA z sc md b m n0 ad0 r Vf V0 pc ls (st) V := by
  refine G_pure hg (fun n hl hs => ?_) (fun n ad H locs lsA k1 k2 hl hs hh hlen k => ?_)
  · exact m2 (hk0) (hs)
  · exact lv_iconst hx hb hd rfl k
theorem G_bipush {k0 : Int} (hx : p.tables.exec = Jvm.exec) (hb : c.code = mC m) (hk0 : -128 ≤ k0 ∧ k0 < 128) (hd : decode (mC m) pc = .ok (.bipush k0, 2)) (hg : Good p l e R s mi args below meth c Q D dA z sc md b m n0 ad0 r Vf V0 (pc + 2) ls (xi k0 :: st) V) : Good p l e R s mi args below meth c Q D dA z sc md b m n0 ad0 r Vf V0 pc ls (st) V := by
  refine G_pure hg (fun n hl hs => ?_) (fun n ad H locs lsA k1 k2 hl hs hh hlen k => ?_)
  · exact m2 (by unfold cS c32; omega) (hs)
  · exact lv_bipush (v := Int32.ofInt k0) hx hb hd (by apply Int32.toInt_inj.mp; rw [Int8.toInt_toInt32, Int8.toInt_ofInt_of_le hk0.1 hk0.2, n32_id (by unfold c32; omega)]) k
theorem G_sipush {k0 : Int} (hx : p.tables.exec = Jvm.exec) (hb : c.code = mC m) (hk0 : -32768 ≤ k0 ∧ k0 < 32768) (hd : decode (mC m) pc = .ok (.sipush k0, 3)) (hg : Good p l e R s mi args below meth c Q D dA z sc md b m n0 ad0 r Vf V0 (pc + 3) ls (xi k0 :: st) V) : Good p l e R s mi args below meth c Q D dA z sc md b m n0 ad0 r Vf V0 pc ls (st) V := by
  refine G_pure hg (fun n hl hs => ?_) (fun n ad H locs lsA k1 k2 hl hs hh hlen k => ?_)
  · exact m2 (by unfold cS c32; omega) (hs)
  · exact lv_sipush (v := Int32.ofInt k0) hx hb hd (by apply Int32.toInt_inj.mp; rw [Int16.toInt_toInt32, Int16.toInt_ofInt_of_le hk0.1 hk0.2, n32_id (by unfold c32; omega)]) k
theorem G_lconst {k0 : Fin 2} (hx : p.tables.exec = Jvm.exec) (hb : c.code = mC m) (hd : decode (mC m) pc = .ok (.lconst k0, 1)) (hg : Good p l e R s mi args below meth c Q D dA z sc md b m n0 ad0 r Vf V0 (pc + 1) ls (xl (k0.val : Int) :: st) V) : Good p l e R s mi args below meth c Q D dA z sc md b m n0 ad0 r Vf V0 pc ls (st) V := by
  refine G_pure hg (fun n hl hs => ?_) (fun n ad H locs lsA k1 k2 hl hs hh hlen k => ?_)
  · exact m2 (by have := k0.isLt; show c64 _; unfold c64; omega) (hs)
  · refine lv_lconst (v := Int64.ofInt (k0.val : Int)) hx hb hd (by rw [Int64.ofInt_eq_ofNat]) k
theorem G_ldc2 {k0 : Int} {idx : Nat} {own : String} (hx : p.tables.exec = Jvm.exec) (hb : c.code = mC m) (hown : s.vm.findClass own = some mi.cls) (hcn : (Cond.constantLong own idx (Int64.ofInt k0)).before args s = true) (hk0 : c64 k0) (hd : decode (mC m) pc = .ok (.ldc2_w idx, 3)) (hg : Good p l e R s mi args below meth c Q D dA z sc md b m n0 ad0 r Vf V0 (pc + 3) ls (xl k0 :: st) V) : Good p l e R s mi args below meth c Q D dA z sc md b m n0 ad0 r Vf V0 pc ls (st) V := by
  refine G_pure hg (fun n hl hs => ?_) (fun n ad H locs lsA k1 k2 hl hs hh hlen k => ?_)
  · exact m2 (hk0) (hs)
  · exact lv_ldc2 hx hb hown hcn hd k
theorem G_dconst  (hx : p.tables.exec = Jvm.exec) (hb : c.code = mC m) (hd : decode (mC m) pc = .ok (.dconst 0, 1)) (hg : Good p l e R s mi args below meth c Q D dA z sc md b m n0 ad0 r Vf V0 (pc + 1) ls (xd 0 :: st) V) : Good p l e R s mi args below meth c Q D dA z sc md b m n0 ad0 r Vf V0 pc ls (st) V := by
  refine G_pure hg (fun n hl hs => ?_) (fun n ad H locs lsA k1 k2 hl hs hh hlen k => ?_)
  · exact m2 (⟨by omega, by omega⟩) (hs)
  · exact lv_dconst0 hx hb hd k
theorem G_ifeq {x off : Int} {r1 : Nat} (hx : p.tables.exec = Jvm.exec) (hb : c.code = mC m) (hd : decode (mC m) pc = .ok (.ifCond .eq off, 3)) (ht : (pc : Int) + off = (r1 : Int)) (hg1 : x = 0 → Good p l e R s mi args below meth c Q D dA z sc md b m n0 ad0 r Vf V0 r1 ls st V) (hg2 : ¬ x = 0 → Good p l e R s mi args below meth c Q D dA z sc md b m n0 ad0 r Vf V0 (pc + 3) ls st V) : Good p l e R s mi args below meth c Q D dA z sc md b m n0 ad0 r Vf V0 pc ls (xi x :: st) V := by
  refine G_br hg1 hg2 (fun n hs => (m1 hs).2) (fun n ad H locs lsA k1 k2 hs w1 w2 => ?_)
  have h0 : c32 x := (m1 hs).1
  have z0 : c32 0 := by unfold c32; omega
  refine lv_if_eq hx hb hd ht (fun q => ?_) (fun q => ?_)
  · first | exact w1 ((n32_inj h0 z0).mp q) | exact w2 (fun t => q ((n32_inj h0 z0).mpr t)) | exact w2 (fun t => Int32.not_lt.mpr q ((n32_inj h0 z0).mpr t)) | exact w1 ((n32_inj h0 z0).mp (Int32.not_le.mp q)) | exact w2 (fun t => Int32.not_le.mpr ((n32_inj h0 z0).mpr t) q) | exact w1 (Classical.byContradiction fun t => q (fun t2 => t ((n32_inj h0 z0).mp t2)))
  · first | exact w1 ((n32_inj h0 z0).mp q) | exact w2 (fun t => q ((n32_inj h0 z0).mpr t)) | exact w2 (fun t => Int32.not_lt.mpr q ((n32_inj h0 z0).mpr t)) | exact w1 ((n32_inj h0 z0).mp (Int32.not_le.mp q)) | exact w2 (fun t => Int32.not_le.mpr ((n32_inj h0 z0).mpr t) q) | exact w1 (Classical.byContradiction fun t => q (fun t2 => t ((n32_inj h0 z0).mp t2)))
theorem G_ifne {x off : Int} {r1 : Nat} (hx : p.tables.exec = Jvm.exec) (hb : c.code = mC m) (hd : decode (mC m) pc = .ok (.ifCond .ne off, 3)) (ht : (pc : Int) + off = (r1 : Int)) (hg1 : x = 0 → Good p l e R s mi args below meth c Q D dA z sc md b m n0 ad0 r Vf V0 (pc + 3) ls st V) (hg2 : ¬ x = 0 → Good p l e R s mi args below meth c Q D dA z sc md b m n0 ad0 r Vf V0 r1 ls st V) : Good p l e R s mi args below meth c Q D dA z sc md b m n0 ad0 r Vf V0 pc ls (xi x :: st) V := by
  refine G_br hg1 hg2 (fun n hs => (m1 hs).2) (fun n ad H locs lsA k1 k2 hs w1 w2 => ?_)
  have h0 : c32 x := (m1 hs).1
  have z0 : c32 0 := by unfold c32; omega
  refine lv_if_ne hx hb hd ht (fun q => ?_) (fun q => ?_)
  · first | exact w1 ((n32_inj h0 z0).mp q) | exact w2 (fun t => q ((n32_inj h0 z0).mpr t)) | exact w2 (fun t => Int32.not_lt.mpr q ((n32_inj h0 z0).mpr t)) | exact w1 ((n32_inj h0 z0).mp (Int32.not_le.mp q)) | exact w2 (fun t => Int32.not_le.mpr ((n32_inj h0 z0).mpr t) q) | exact w1 (Classical.byContradiction fun t => q (fun t2 => t ((n32_inj h0 z0).mp t2)))
  · first | exact w1 ((n32_inj h0 z0).mp q) | exact w2 (fun t => q ((n32_inj h0 z0).mpr t)) | exact w2 (fun t => Int32.not_lt.mpr q ((n32_inj h0 z0).mpr t)) | exact w1 ((n32_inj h0 z0).mp (Int32.not_le.mp q)) | exact w2 (fun t => Int32.not_le.mpr ((n32_inj h0 z0).mpr t) q) | exact w1 (Classical.byContradiction fun t => q (fun t2 => t ((n32_inj h0 z0).mp t2)))
theorem G_iflt {x off : Int} {r1 : Nat} (hx : p.tables.exec = Jvm.exec) (hb : c.code = mC m) (hd : decode (mC m) pc = .ok (.ifCond .lt off, 3)) (ht : (pc : Int) + off = (r1 : Int)) (hg1 : x < 0 → Good p l e R s mi args below meth c Q D dA z sc md b m n0 ad0 r Vf V0 r1 ls st V) (hg2 : ¬ x < 0 → Good p l e R s mi args below meth c Q D dA z sc md b m n0 ad0 r Vf V0 (pc + 3) ls st V) : Good p l e R s mi args below meth c Q D dA z sc md b m n0 ad0 r Vf V0 pc ls (xi x :: st) V := by
  refine G_br hg1 hg2 (fun n hs => (m1 hs).2) (fun n ad H locs lsA k1 k2 hs w1 w2 => ?_)
  have h0 : c32 x := (m1 hs).1
  have z0 : c32 0 := by unfold c32; omega
  refine lv_if_lt hx hb hd ht (fun q => ?_) (fun q => ?_)
  · first | exact w1 ((n32_lt h0 z0).mp q) | exact w2 (fun t => q ((n32_lt h0 z0).mpr t)) | exact w2 (fun t => Int32.not_lt.mpr q ((n32_lt h0 z0).mpr t)) | exact w1 ((n32_lt h0 z0).mp (Int32.not_le.mp q)) | exact w2 (fun t => Int32.not_le.mpr ((n32_lt h0 z0).mpr t) q) | exact w1 (Classical.byContradiction fun t => q (fun t2 => t ((n32_lt h0 z0).mp t2)))
  · first | exact w1 ((n32_lt h0 z0).mp q) | exact w2 (fun t => q ((n32_lt h0 z0).mpr t)) | exact w2 (fun t => Int32.not_lt.mpr q ((n32_lt h0 z0).mpr t)) | exact w1 ((n32_lt h0 z0).mp (Int32.not_le.mp q)) | exact w2 (fun t => Int32.not_le.mpr ((n32_lt h0 z0).mpr t) q) | exact w1 (Classical.byContradiction fun t => q (fun t2 => t ((n32_lt h0 z0).mp t2)))
theorem G_ifge {x off : Int} {r1 : Nat} (hx : p.tables.exec = Jvm.exec) (hb : c.code = mC m) (hd : decode (mC m) pc = .ok (.ifCond .ge off, 3)) (ht : (pc : Int) + off = (r1 : Int)) (hg1 : x < 0 → Good p l e R s mi args below meth c Q D dA z sc md b m n0 ad0 r Vf V0 (pc + 3) ls st V) (hg2 : ¬ x < 0 → Good p l e R s mi args below meth c Q D dA z sc md b m n0 ad0 r Vf V0 r1 ls st V) : Good p l e R s mi args below meth c Q D dA z sc md b m n0 ad0 r Vf V0 pc ls (xi x :: st) V := by
  refine G_br hg1 hg2 (fun n hs => (m1 hs).2) (fun n ad H locs lsA k1 k2 hs w1 w2 => ?_)
  have h0 : c32 x := (m1 hs).1
  have z0 : c32 0 := by unfold c32; omega
  refine lv_if_ge hx hb hd ht (fun q => ?_) (fun q => ?_)
  · first | exact w1 ((n32_lt h0 z0).mp q) | exact w2 (fun t => q ((n32_lt h0 z0).mpr t)) | exact w2 (fun t => Int32.not_lt.mpr q ((n32_lt h0 z0).mpr t)) | exact w1 ((n32_lt h0 z0).mp (Int32.not_le.mp q)) | exact w2 (fun t => Int32.not_le.mpr ((n32_lt h0 z0).mpr t) q) | exact w1 (Classical.byContradiction fun t => q (fun t2 => t ((n32_lt h0 z0).mp t2)))
  · first | exact w1 ((n32_lt h0 z0).mp q) | exact w2 (fun t => q ((n32_lt h0 z0).mpr t)) | exact w2 (fun t => Int32.not_lt.mpr q ((n32_lt h0 z0).mpr t)) | exact w1 ((n32_lt h0 z0).mp (Int32.not_le.mp q)) | exact w2 (fun t => Int32.not_le.mpr ((n32_lt h0 z0).mpr t) q) | exact w1 (Classical.byContradiction fun t => q (fun t2 => t ((n32_lt h0 z0).mp t2)))
theorem G_ifgt {x off : Int} {r1 : Nat} (hx : p.tables.exec = Jvm.exec) (hb : c.code = mC m) (hd : decode (mC m) pc = .ok (.ifCond .gt off, 3)) (ht : (pc : Int) + off = (r1 : Int)) (hg1 : 0 < x → Good p l e R s mi args below meth c Q D dA z sc md b m n0 ad0 r Vf V0 r1 ls st V) (hg2 : ¬ 0 < x → Good p l e R s mi args below meth c Q D dA z sc md b m n0 ad0 r Vf V0 (pc + 3) ls st V) : Good p l e R s mi args below meth c Q D dA z sc md b m n0 ad0 r Vf V0 pc ls (xi x :: st) V := by
  refine G_br hg1 hg2 (fun n hs => (m1 hs).2) (fun n ad H locs lsA k1 k2 hs w1 w2 => ?_)
  have h0 : c32 x := (m1 hs).1
  have z0 : c32 0 := by unfold c32; omega
  refine lv_if_gt hx hb hd ht (fun q => ?_) (fun q => ?_)
  · first | exact w1 ((n32_lt z0 h0).mp q) | exact w2 (fun t => q ((n32_lt z0 h0).mpr t)) | exact w2 (fun t => Int32.not_lt.mpr q ((n32_lt z0 h0).mpr t)) | exact w1 ((n32_lt z0 h0).mp (Int32.not_le.mp q)) | exact w2 (fun t => Int32.not_le.mpr ((n32_lt z0 h0).mpr t) q) | exact w1 (Classical.byContradiction fun t => q (fun t2 => t ((n32_lt z0 h0).mp t2)))
  · first | exact w1 ((n32_lt z0 h0).mp q) | exact w2 (fun t => q ((n32_lt z0 h0).mpr t)) | exact w2 (fun t => Int32.not_lt.mpr q ((n32_lt z0 h0).mpr t)) | exact w1 ((n32_lt z0 h0).mp (Int32.not_le.mp q)) | exact w2 (fun t => Int32.not_le.mpr ((n32_lt z0 h0).mpr t) q) | exact w1 (Classical.byContradiction fun t => q (fun t2 => t ((n32_lt z0 h0).mp t2)))
theorem G_ifle {x off : Int} {r1 : Nat} (hx : p.tables.exec = Jvm.exec) (hb : c.code = mC m) (hd : decode (mC m) pc = .ok (.ifCond .le off, 3)) (ht : (pc : Int) + off = (r1 : Int)) (hg1 : 0 < x → Good p l e R s mi args below meth c Q D dA z sc md b m n0 ad0 r Vf V0 (pc + 3) ls st V) (hg2 : ¬ 0 < x → Good p l e R s mi args below meth c Q D dA z sc md b m n0 ad0 r Vf V0 r1 ls st V) : Good p l e R s mi args below meth c Q D dA z sc md b m n0 ad0 r Vf V0 pc ls (xi x :: st) V := by
  refine G_br hg1 hg2 (fun n hs => (m1 hs).2) (fun n ad H locs lsA k1 k2 hs w1 w2 => ?_)
  have h0 : c32 x := (m1 hs).1
  have z0 : c32 0 := by unfold c32; omega
  refine lv_if_le hx hb hd ht (fun q => ?_) (fun q => ?_)
  · first | exact w1 ((n32_lt z0 h0).mp q) | exact w2 (fun t => q ((n32_lt z0 h0).mpr t)) | exact w2 (fun t => Int32.not_lt.mpr q ((n32_lt z0 h0).mpr t)) | exact w1 ((n32_lt z0 h0).mp (Int32.not_le.mp q)) | exact w2 (fun t => Int32.not_le.mpr ((n32_lt z0 h0).mpr t) q) | exact w1 (Classical.byContradiction fun t => q (fun t2 => t ((n32_lt z0 h0).mp t2)))
  · first | exact w1 ((n32_lt z0 h0).mp q) | exact w2 (fun t => q ((n32_lt z0 h0).mpr t)) | exact w2 (fun t => Int32.not_lt.mpr q ((n32_lt z0 h0).mpr t)) | exact w1 ((n32_lt z0 h0).mp (Int32.not_le.mp q)) | exact w2 (fun t => Int32.not_le.mpr ((n32_lt z0 h0).mpr t) q) | exact w1 (Classical.byContradiction fun t => q (fun t2 => t ((n32_lt z0 h0).mp t2)))
theorem G_iceq {x y off : Int} {r1 : Nat} (hx : p.tables.exec = Jvm.exec) (hb : c.code = mC m) (hd : decode (mC m) pc = .ok (.if_icmp .eq off, 3)) (ht : (pc : Int) + off = (r1 : Int)) (hg1 : x = y → Good p l e R s mi args below meth c Q D dA z sc md b m n0 ad0 r Vf V0 r1 ls st V) (hg2 : ¬ x = y → Good p l e R s mi args below meth c Q D dA z sc md b m n0 ad0 r Vf V0 (pc + 3) ls st V) : Good p l e R s mi args below meth c Q D dA z sc md b m n0 ad0 r Vf V0 pc ls (xi y :: xi x :: st) V := by
  refine G_br hg1 hg2 (fun n hs => (m1 (m1 hs).2).2) (fun n ad H locs lsA k1 k2 hs w1 w2 => ?_)
  have h0 : c32 y := (m1 hs).1
  have h1 : c32 x := (m1 (m1 hs).2).1
  refine lv_icmp_eq hx hb hd ht (fun q => ?_) (fun q => ?_)
  · first | exact w1 ((n32_inj h1 h0).mp q) | exact w2 (fun t => q ((n32_inj h1 h0).mpr t)) | exact w2 (fun t => Int32.not_lt.mpr q ((n32_inj h1 h0).mpr t)) | exact w1 ((n32_inj h1 h0).mp (Int32.not_le.mp q)) | exact w2 (fun t => Int32.not_le.mpr ((n32_inj h1 h0).mpr t) q) | exact w1 (Classical.byContradiction fun t => q (fun t2 => t ((n32_inj h1 h0).mp t2)))
  · first | exact w1 ((n32_inj h1 h0).mp q) | exact w2 (fun t => q ((n32_inj h1 h0).mpr t)) | exact w2 (fun t => Int32.not_lt.mpr q ((n32_inj h1 h0).mpr t)) | exact w1 ((n32_inj h1 h0).mp (Int32.not_le.mp q)) | exact w2 (fun t => Int32.not_le.mpr ((n32_inj h1 h0).mpr t) q) | exact w1 (Classical.byContradiction fun t => q (fun t2 => t ((n32_inj h1 h0).mp t2)))
theorem G_icne {x y off : Int} {r1 : Nat} (hx : p.tables.exec = Jvm.exec) (hb : c.code = mC m) (hd : decode (mC m) pc = .ok (.if_icmp .ne off, 3)) (ht : (pc : Int) + off = (r1 : Int)) (hg1 : x = y → Good p l e R s mi args below meth c Q D dA z sc md b m n0 ad0 r Vf V0 (pc + 3) ls st V) (hg2 : ¬ x = y → Good p l e R s mi args below meth c Q D dA z sc md b m n0 ad0 r Vf V0 r1 ls st V) : Good p l e R s mi args below meth c Q D dA z sc md b m n0 ad0 r Vf V0 pc ls (xi y :: xi x :: st) V := by
  refine G_br hg1 hg2 (fun n hs => (m1 (m1 hs).2).2) (fun n ad H locs lsA k1 k2 hs w1 w2 => ?_)
  have h0 : c32 y := (m1 hs).1
  have h1 : c32 x := (m1 (m1 hs).2).1
  refine lv_icmp_ne hx hb hd ht (fun q => ?_) (fun q => ?_)
  · first | exact w1 ((n32_inj h1 h0).mp q) | exact w2 (fun t => q ((n32_inj h1 h0).mpr t)) | exact w2 (fun t => Int32.not_lt.mpr q ((n32_inj h1 h0).mpr t)) | exact w1 ((n32_inj h1 h0).mp (Int32.not_le.mp q)) | exact w2 (fun t => Int32.not_le.mpr ((n32_inj h1 h0).mpr t) q) | exact w1 (Classical.byContradiction fun t => q (fun t2 => t ((n32_inj h1 h0).mp t2)))
  · first | exact w1 ((n32_inj h1 h0).mp q) | exact w2 (fun t => q ((n32_inj h1 h0).mpr t)) | exact w2 (fun t => Int32.not_lt.mpr q ((n32_inj h1 h0).mpr t)) | exact w1 ((n32_inj h1 h0).mp (Int32.not_le.mp q)) | exact w2 (fun t => Int32.not_le.mpr ((n32_inj h1 h0).mpr t) q) | exact w1 (Classical.byContradiction fun t => q (fun t2 => t ((n32_inj h1 h0).mp t2)))
theorem G_iclt {x y off : Int} {r1 : Nat} (hx : p.tables.exec = Jvm.exec) (hb : c.code = mC m) (hd : decode (mC m) pc = .ok (.if_icmp .lt off, 3)) (ht : (pc : Int) + off = (r1 : Int)) (hg1 : x < y → Good p l e R s mi args below meth c Q D dA z sc md b m n0 ad0 r Vf V0 r1 ls st V) (hg2 : ¬ x < y → Good p l e R s mi args below meth c Q D dA z sc md b m n0 ad0 r Vf V0 (pc + 3) ls st V) : Good p l e R s mi args below meth c Q D dA z sc md b m n0 ad0 r Vf V0 pc ls (xi y :: xi x :: st) V := by
  refine G_br hg1 hg2 (fun n hs => (m1 (m1 hs).2).2) (fun n ad H locs lsA k1 k2 hs w1 w2 => ?_)
  have h0 : c32 y := (m1 hs).1
  have h1 : c32 x := (m1 (m1 hs).2).1
  refine lv_icmp_lt hx hb hd ht (fun q => ?_) (fun q => ?_)
  · first | exact w1 ((n32_lt h1 h0).mp q) | exact w2 (fun t => q ((n32_lt h1 h0).mpr t)) | exact w2 (fun t => Int32.not_lt.mpr q ((n32_lt h1 h0).mpr t)) | exact w1 ((n32_lt h1 h0).mp (Int32.not_le.mp q)) | exact w2 (fun t => Int32.not_le.mpr ((n32_lt h1 h0).mpr t) q) | exact w1 (Classical.byContradiction fun t => q (fun t2 => t ((n32_lt h1 h0).mp t2)))
  · first | exact w1 ((n32_lt h1 h0).mp q) | exact w2 (fun t => q ((n32_lt h1 h0).mpr t)) | exact w2 (fun t => Int32.not_lt.mpr q ((n32_lt h1 h0).mpr t)) | exact w1 ((n32_lt h1 h0).mp (Int32.not_le.mp q)) | exact w2 (fun t => Int32.not_le.mpr ((n32_lt h1 h0).mpr t) q) | exact w1 (Classical.byContradiction fun t => q (fun t2 => t ((n32_lt h1 h0).mp t2)))
theorem G_icge {x y off : Int} {r1 : Nat} (hx : p.tables.exec = Jvm.exec) (hb : c.code = mC m) (hd : decode (mC m) pc = .ok (.if_icmp .ge off, 3)) (ht : (pc : Int) + off = (r1 : Int)) (hg1 : x < y → Good p l e R s mi args below meth c Q D dA z sc md b m n0 ad0 r Vf V0 (pc + 3) ls st V) (hg2 : ¬ x < y → Good p l e R s mi args below meth c Q D dA z sc md b m n0 ad0 r Vf V0 r1 ls st V) : Good p l e R s mi args below meth c Q D dA z sc md b m n0 ad0 r Vf V0 pc ls (xi y :: xi x :: st) V := by
  refine G_br hg1 hg2 (fun n hs => (m1 (m1 hs).2).2) (fun n ad H locs lsA k1 k2 hs w1 w2 => ?_)
  have h0 : c32 y := (m1 hs).1
  have h1 : c32 x := (m1 (m1 hs).2).1
  refine lv_icmp_ge hx hb hd ht (fun q => ?_) (fun q => ?_)
  · first | exact w1 ((n32_lt h1 h0).mp q) | exact w2 (fun t => q ((n32_lt h1 h0).mpr t)) | exact w2 (fun t => Int32.not_lt.mpr q ((n32_lt h1 h0).mpr t)) | exact w1 ((n32_lt h1 h0).mp (Int32.not_le.mp q)) | exact w2 (fun t => Int32.not_le.mpr ((n32_lt h1 h0).mpr t) q) | exact w1 (Classical.byContradiction fun t => q (fun t2 => t ((n32_lt h1 h0).mp t2)))
  · first | exact w1 ((n32_lt h1 h0).mp q) | exact w2 (fun t => q ((n32_lt h1 h0).mpr t)) | exact w2 (fun t => Int32.not_lt.mpr q ((n32_lt h1 h0).mpr t)) | exact w1 ((n32_lt h1 h0).mp (Int32.not_le.mp q)) | exact w2 (fun t => Int32.not_le.mpr ((n32_lt h1 h0).mpr t) q) | exact w1 (Classical.byContradiction fun t => q (fun t2 => t ((n32_lt h1 h0).mp t2)))
theorem G_icgt {x y off : Int} {r1 : Nat} (hx : p.tables.exec = Jvm.exec) (hb : c.code = mC m) (hd : decode (mC m) pc = .ok (.if_icmp .gt off, 3)) (ht : (pc : Int) + off = (r1 : Int)) (hg1 : y < x → Good p l e R s mi args below meth c Q D dA z sc md b m n0 ad0 r Vf V0 r1 ls st V) (hg2 : ¬ y < x → Good p l e R s mi args below meth c Q D dA z sc md b m n0 ad0 r Vf V0 (pc + 3) ls st V) : Good p l e R s mi args below meth c Q D dA z sc md b m n0 ad0 r Vf V0 pc ls (xi y :: xi x :: st) V := by
  refine G_br hg1 hg2 (fun n hs => (m1 (m1 hs).2).2) (fun n ad H locs lsA k1 k2 hs w1 w2 => ?_)
  have h0 : c32 y := (m1 hs).1
  have h1 : c32 x := (m1 (m1 hs).2).1
  refine lv_icmp_gt hx hb hd ht (fun q => ?_) (fun q => ?_)
  · first | exact w1 ((n32_lt h0 h1).mp q) | exact w2 (fun t => q ((n32_lt h0 h1).mpr t)) | exact w2 (fun t => Int32.not_lt.mpr q ((n32_lt h0 h1).mpr t)) | exact w1 ((n32_lt h0 h1).mp (Int32.not_le.mp q)) | exact w2 (fun t => Int32.not_le.mpr ((n32_lt h0 h1).mpr t) q) | exact w1 (Classical.byContradiction fun t => q (fun t2 => t ((n32_lt h0 h1).mp t2)))
  · first | exact w1 ((n32_lt h0 h1).mp q) | exact w2 (fun t => q ((n32_lt h0 h1).mpr t)) | exact w2 (fun t => Int32.not_lt.mpr q ((n32_lt h0 h1).mpr t)) | exact w1 ((n32_lt h0 h1).mp (Int32.not_le.mp q)) | exact w2 (fun t => Int32.not_le.mpr ((n32_lt h0 h1).mpr t) q) | exact w1 (Classical.byContradiction fun t => q (fun t2 => t ((n32_lt h0 h1).mp t2)))
theorem G_icle {x y off : Int} {r1 : Nat} (hx : p.tables.exec = Jvm.exec) (hb : c.code = mC m) (hd : decode (mC m) pc = .ok (.if_icmp .le off, 3)) (ht : (pc : Int) + off = (r1 : Int)) (hg1 : y < x → Good p l e R s mi args below meth c Q D dA z sc md b m n0 ad0 r Vf V0 (pc + 3) ls st V) (hg2 : ¬ y < x → Good p l e R s mi args below meth c Q D dA z sc md b m n0 ad0 r Vf V0 r1 ls st V) : Good p l e R s mi args below meth c Q D dA z sc md b m n0 ad0 r Vf V0 pc ls (xi y :: xi x :: st) V := by
  refine G_br hg1 hg2 (fun n hs => (m1 (m1 hs).2).2) (fun n ad H locs lsA k1 k2 hs w1 w2 => ?_)
  have h0 : c32 y := (m1 hs).1
  have h1 : c32 x := (m1 (m1 hs).2).1
  refine lv_icmp_le hx hb hd ht (fun q => ?_) (fun q => ?_)
  · first | exact w1 ((n32_lt h0 h1).mp q) | exact w2 (fun t => q ((n32_lt h0 h1).mpr t)) | exact w2 (fun t => Int32.not_lt.mpr q ((n32_lt h0 h1).mpr t)) | exact w1 ((n32_lt h0 h1).mp (Int32.not_le.mp q)) | exact w2 (fun t => Int32.not_le.mpr ((n32_lt h0 h1).mpr t) q) | exact w1 (Classical.byContradiction fun t => q (fun t2 => t ((n32_lt h0 h1).mp t2)))
  · first | exact w1 ((n32_lt h0 h1).mp q) | exact w2 (fun t => q ((n32_lt h0 h1).mpr t)) | exact w2 (fun t => Int32.not_lt.mpr q ((n32_lt h0 h1).mpr t)) | exact w1 ((n32_lt h0 h1).mp (Int32.not_le.mp q)) | exact w2 (fun t => Int32.not_le.mpr ((n32_lt h0 h1).mpr t) q) | exact w1 (Classical.byContradiction fun t => q (fun t2 => t ((n32_lt h0 h1).mp t2)))
theorem G_goto {off : Int} {r1 : Nat} (hx : p.tables.exec = Jvm.exec) (hb : c.code = mC m) (hd : decode (mC m) pc = .ok (.goto off, 3)) (ht : (pc : Int) + off = (r1 : Int)) (hg : Good p l e R s mi args below meth c Q D dA z sc md b m n0 ad0 r Vf V0 r1 ls st V) : Good p l e R s mi args below meth c Q D dA z sc md b m n0 ad0 r Vf V0 pc ls st V :=
  G_pure hg (fun n hl hs => hs) (fun n ad H locs lsA k1 k2 hl hs hh hlen k => lv_goto hx hb hd ht k)
theorem G_mask (bm : List Bool) (hbm : bm.length = XML m) (hg : Good p l e R s mi args below meth c Q D dA z sc md b m n0 ad0 r Vf V0 pc (xmask bm ls) st V) : Good p l e R s mi args below meth c Q D dA z sc md b m n0 ad0 r Vf V0 pc ls st V := by
  intro n h1 h2 h3 h4 h5 h6 h7 h8 h9
  obtain ⟨a, bb⟩ := hg n h1 h2 h3 h4 ((xmask_length bm ls (hbm.trans h5.symm)).trans h5) (fun v hv => (xmask_mem bm ls hv).elim (fun e => by rw [e]; exact Or.inl rfl) (h6 v)) h7 h8 h9
  exact ⟨a, fun ad H locs lsA q1 q2 q3 q4 q5 => bb ad H locs lsA q1 q2 q3 q4 (lvl_mask bm (hbm.trans h5.symm) q5)⟩
theorem G_iload {x : Int} {r1 : Nat} (hx : p.tables.exec = Jvm.exec) (hb : c.code = mC m) (hv : xget ls r1 = xi x) (hd : decode (mC m) pc = .ok (.iload r1, 2)) (hg : Good p l e R s mi args below meth c Q D dA z sc md b m n0 ad0 r Vf V0 (pc + 2) ls (xi x :: st) V) : Good p l e R s mi args below meth c Q D dA z sc md b m n0 ad0 r Vf V0 pc ls st V := by
  have hlt : r1 < ls.length := by
    rcases Nat.lt_or_ge r1 ls.length with q | q
    · exact q
    · rw [xget_out ls r1 q] at hv
      cases hv
  refine G_pure hg (fun n hl hs => m2 (by rw [← hv]; exact hl _ (xget_mem ls r1 hlt)) hs) (fun n ad H locs lsA k1 k2 hl hs hh hlen k => ?_)
  have hat : lsA[r1]? = some (.val (Value.int (Int32.ofInt x))) := hh.2.2 (r1, Value.int (Int32.ofInt x)) (lvl_mem.mpr ⟨hlt, by show dead (xget ls r1) = false; rw [hv]; rfl, by show _ = tv ad (xget ls r1); rw [hv]; rfl⟩)
  exact lv_iload hx hb hd hat k
theorem G_iload_n {x : Int} {r1 : Nat} {k0 : Fin 4} (hk0 : k0.val = r1) (hx : p.tables.exec = Jvm.exec) (hb : c.code = mC m) (hv : xget ls r1 = xi x) (hd : decode (mC m) pc = .ok (.iload_n k0, 1)) (hg : Good p l e R s mi args below meth c Q D dA z sc md b m n0 ad0 r Vf V0 (pc + 1) ls (xi x :: st) V) : Good p l e R s mi args below meth c Q D dA z sc md b m n0 ad0 r Vf V0 pc ls st V := by
  have hlt : r1 < ls.length := by
    rcases Nat.lt_or_ge r1 ls.length with q | q
    · exact q
    · rw [xget_out ls r1 q] at hv
      cases hv
  refine G_pure hg (fun n hl hs => m2 (by rw [← hv]; exact hl _ (xget_mem ls r1 hlt)) hs) (fun n ad H locs lsA k1 k2 hl hs hh hlen k => ?_)
  have hat : lsA[r1]? = some (.val (Value.int (Int32.ofInt x))) := hh.2.2 (r1, Value.int (Int32.ofInt x)) (lvl_mem.mpr ⟨hlt, by show dead (xget ls r1) = false; rw [hv]; rfl, by show _ = tv ad (xget ls r1); rw [hv]; rfl⟩)
  exact lv_iload_n hx hb hd hk0 hat k
theorem G_lload {x : Int} {r1 : Nat} (hx : p.tables.exec = Jvm.exec) (hb : c.code = mC m) (hv : xget ls r1 = xl x) (hd : decode (mC m) pc = .ok (.lload r1, 2)) (hg : Good p l e R s mi args below meth c Q D dA z sc md b m n0 ad0 r Vf V0 (pc + 2) ls (xl x :: st) V) : Good p l e R s mi args below meth c Q D dA z sc md b m n0 ad0 r Vf V0 pc ls st V := by
  have hlt : r1 < ls.length := by
    rcases Nat.lt_or_ge r1 ls.length with q | q
    · exact q
    · rw [xget_out ls r1 q] at hv
      cases hv
  refine G_pure hg (fun n hl hs => m2 (by rw [← hv]; exact hl _ (xget_mem ls r1 hlt)) hs) (fun n ad H locs lsA k1 k2 hl hs hh hlen k => ?_)
  have hat : lsA[r1]? = some (.val (Value.long (Int64.ofInt x))) := hh.2.2 (r1, Value.long (Int64.ofInt x)) (lvl_mem.mpr ⟨hlt, by show dead (xget ls r1) = false; rw [hv]; rfl, by show _ = tv ad (xget ls r1); rw [hv]; rfl⟩)
  exact lv_lload hx hb hd hat k
theorem G_lload_n {x : Int} {r1 : Nat} {k0 : Fin 4} (hk0 : k0.val = r1) (hx : p.tables.exec = Jvm.exec) (hb : c.code = mC m) (hv : xget ls r1 = xl x) (hd : decode (mC m) pc = .ok (.lload_n k0, 1)) (hg : Good p l e R s mi args below meth c Q D dA z sc md b m n0 ad0 r Vf V0 (pc + 1) ls (xl x :: st) V) : Good p l e R s mi args below meth c Q D dA z sc md b m n0 ad0 r Vf V0 pc ls st V := by
  have hlt : r1 < ls.length := by
    rcases Nat.lt_or_ge r1 ls.length with q | q
    · exact q
    · rw [xget_out ls r1 q] at hv
      cases hv
  refine G_pure hg (fun n hl hs => m2 (by rw [← hv]; exact hl _ (xget_mem ls r1 hlt)) hs) (fun n ad H locs lsA k1 k2 hl hs hh hlen k => ?_)
  have hat : lsA[r1]? = some (.val (Value.long (Int64.ofInt x))) := hh.2.2 (r1, Value.long (Int64.ofInt x)) (lvl_mem.mpr ⟨hlt, by show dead (xget ls r1) = false; rw [hv]; rfl, by show _ = tv ad (xget ls r1); rw [hv]; rfl⟩)
  exact lv_lload_n hx hb hd hk0 hat k
theorem G_aload {g i : Nat} {r1 : Nat} (hx : p.tables.exec = Jvm.exec) (hb : c.code = mC m) (hv : xget ls r1 = xr (g + 1) i) (hd : decode (mC m) pc = .ok (.aload r1, 2)) (hg : Good p l e R s mi args below meth c Q D dA z sc md b m n0 ad0 r Vf V0 (pc + 2) ls (xr (g + 1) i :: st) V) : Good p l e R s mi args below meth c Q D dA z sc md b m n0 ad0 r Vf V0 pc ls st V := by
  have hlt : r1 < ls.length := by
    rcases Nat.lt_or_ge r1 ls.length with q | q
    · exact q
    · rw [xget_out ls r1 q] at hv
      cases hv
  refine G_pure hg (fun n hl hs => m2 (by rw [← hv]; exact hl _ (xget_mem ls r1 hlt)) hs) (fun n ad H locs lsA k1 k2 hl hs hh hlen k => ?_)
  have hat : lsA[r1]? = some (.val (Value.ref (ad (g + 1) i))) := hh.2.2 (r1, Value.ref (ad (g + 1) i)) (lvl_mem.mpr ⟨hlt, by show dead (xget ls r1) = false; rw [hv]; rfl, by show _ = tv ad (xget ls r1); rw [hv]; rfl⟩)
  exact lv_aload hx hb hd hat k
theorem G_aload_n {g i : Nat} {r1 : Nat} {k0 : Fin 4} (hk0 : k0.val = r1) (hx : p.tables.exec = Jvm.exec) (hb : c.code = mC m) (hv : xget ls r1 = xr (g + 1) i) (hd : decode (mC m) pc = .ok (.aload_n k0, 1)) (hg : Good p l e R s mi args below meth c Q D dA z sc md b m n0 ad0 r Vf V0 (pc + 1) ls (xr (g + 1) i :: st) V) : Good p l e R s mi args below meth c Q D dA z sc md b m n0 ad0 r Vf V0 pc ls st V := by
  have hlt : r1 < ls.length := by
    rcases Nat.lt_or_ge r1 ls.length with q | q
    · exact q
    · rw [xget_out ls r1 q] at hv
      cases hv
  refine G_pure hg (fun n hl hs => m2 (by rw [← hv]; exact hl _ (xget_mem ls r1 hlt)) hs) (fun n ad H locs lsA k1 k2 hl hs hh hlen k => ?_)
  have hat : lsA[r1]? = some (.val (Value.ref (ad (g + 1) i))) := hh.2.2 (r1, Value.ref (ad (g + 1) i)) (lvl_mem.mpr ⟨hlt, by show dead (xget ls r1) = false; rw [hv]; rfl, by show _ = tv ad (xget ls r1); rw [hv]; rfl⟩)
  exact lv_aload_n hx hb hd hk0 hat k
theorem G_loc {pc' : Nat} {st' ls' : List XS} (hg : Good p l e R s mi args below meth c Q D dA z sc md b m n0 ad0 r Vf V0 pc' ls' st' V) (hlen : ls'.length = ls.length) (hc : ∀ n, (∀ v ∈ ls, cS sc n v) → (∀ v ∈ st, cS sc n v) → (∀ v ∈ ls', cS sc n v) ∧ ∀ v ∈ st', cS sc n v) (hw : ∀ n ad H locs lsA k1 k2, (∀ v ∈ ls, cS sc n v) → (∀ v ∈ st, cS sc n v) → lv_has lsA (XML m) (lvl ad ls) → ls.length = XML m → (∀ lsA', lv_has lsA' (XML m) (lvl ad ls') → W p l e R s mi args below meth c H locs k1 k2 Q (F0 mi pc' lsA' (st'.map (tv ad)))) → W p l e R s mi args below meth c H locs k1 k2 Q (F0 mi pc lsA (st.map (tv ad)))) : Good p l e R s mi args below meth c Q D dA z sc md b m n0 ad0 r Vf V0 pc ls st V := by
  intro n h1 h2 h3 h4 h5 h6 h7 h8 h9
  obtain ⟨c1, c2⟩ := hc n h6 h7
  obtain ⟨a, bb⟩ := hg n h1 h2 h3 h4 (hlen.trans h5) c1 c2 h8 h9
  exact ⟨a, fun ad H locs lsA q1 q2 q3 q4 q5 => hw n ad H locs lsA _ _ h6 h7 q5 h5 (fun lsA' h => bb ad H locs lsA' q1 q2 q3 q4 h)⟩
theorem G_istore {x : Int} {r1 : Nat} (hx : p.tables.exec = Jvm.exec) (hb : c.code = mC m) (hr1 : r1 < XML m) (hok : xok1 ls r1 = true) (hd : decode (mC m) pc = .ok (.istore r1, 2)) (hg : Good p l e R s mi args below meth c Q D dA z sc md b m n0 ad0 r Vf V0 (pc + 2) (xset ls r1 (xi x)) st V) : Good p l e R s mi args below meth c Q D dA z sc md b m n0 ad0 r Vf V0 pc ls (xi x :: st) V := by
  refine G_loc hg (xset_length _ _ _) (fun n hl hs => ⟨fun v hv => (xset_mem ls r1 hv).elim (fun e => e ▸ (m1 hs).1) (hl v), (m1 hs).2⟩) (fun n ad H locs lsA k1 k2 hl hs hh hlen k => ?_)
  exact lv_istore hx hb hd hh (by omega) rfl (fun lsA' h => k lsA' (lvl_st1 (by omega) hok h))
theorem G_istore_n {x : Int} {r1 : Nat} {k0 : Fin 4} (hk0 : k0.val = r1) (hx : p.tables.exec = Jvm.exec) (hb : c.code = mC m) (hr1 : r1 < XML m) (hok : xok1 ls r1 = true) (hd : decode (mC m) pc = .ok (.istore_n k0, 1)) (hg : Good p l e R s mi args below meth c Q D dA z sc md b m n0 ad0 r Vf V0 (pc + 1) (xset ls r1 (xi x)) st V) : Good p l e R s mi args below meth c Q D dA z sc md b m n0 ad0 r Vf V0 pc ls (xi x :: st) V := by
  refine G_loc hg (xset_length _ _ _) (fun n hl hs => ⟨fun v hv => (xset_mem ls r1 hv).elim (fun e => e ▸ (m1 hs).1) (hl v), (m1 hs).2⟩) (fun n ad H locs lsA k1 k2 hl hs hh hlen k => ?_)
  exact lv_istore_n hx hb hd hk0 hh (by omega) rfl (fun lsA' h => k lsA' (lvl_st1 (by omega) hok h))
theorem G_astore {g i : Nat} {r1 : Nat} (hg0 : g ≠ 0) (hx : p.tables.exec = Jvm.exec) (hb : c.code = mC m) (hr1 : r1 < XML m) (hok : xok1 ls r1 = true) (hd : decode (mC m) pc = .ok (.astore r1, 2)) (hg : Good p l e R s mi args below meth c Q D dA z sc md b m n0 ad0 r Vf V0 (pc + 2) (xset ls r1 (xr g i)) st V) : Good p l e R s mi args below meth c Q D dA z sc md b m n0 ad0 r Vf V0 pc ls (xr g i :: st) V := by
  refine G_loc hg (xset_length _ _ _) (fun n hl hs => ⟨fun v hv => (xset_mem ls r1 hv).elim (fun e => e ▸ (m1 hs).1) (hl v), (m1 hs).2⟩) (fun n ad H locs lsA k1 k2 hl hs hh hlen k => ?_)
  obtain ⟨g0, rfl⟩ : ∃ g0, g = g0 + 1 := ⟨g - 1, by omega⟩
  exact lv_astore hx hb hd hh (by omega) rfl (fun lsA' h => k lsA' (lvl_st1 (by omega) hok h))
theorem G_astore_n {g i : Nat} {r1 : Nat} {k0 : Fin 4} (hk0 : k0.val = r1) (hg0 : g ≠ 0) (hx : p.tables.exec = Jvm.exec) (hb : c.code = mC m) (hr1 : r1 < XML m) (hok : xok1 ls r1 = true) (hd : decode (mC m) pc = .ok (.astore_n k0, 1)) (hg : Good p l e R s mi args below meth c Q D dA z sc md b m n0 ad0 r Vf V0 (pc + 1) (xset ls r1 (xr g i)) st V) : Good p l e R s mi args below meth c Q D dA z sc md b m n0 ad0 r Vf V0 pc ls (xr g i :: st) V := by
  refine G_loc hg (xset_length _ _ _) (fun n hl hs => ⟨fun v hv => (xset_mem ls r1 hv).elim (fun e => e ▸ (m1 hs).1) (hl v), (m1 hs).2⟩) (fun n ad H locs lsA k1 k2 hl hs hh hlen k => ?_)
  obtain ⟨g0, rfl⟩ : ∃ g0, g = g0 + 1 := ⟨g - 1, by omega⟩
  exact lv_astore_n hx hb hd hk0 hh (by omega) rfl (fun lsA' h => k lsA' (lvl_st1 (by omega) hok h))
theorem G_lstore {x : Int} {r1 : Nat} (hx : p.tables.exec = Jvm.exec) (hb : c.code = mC m) (hr1 : r1 + 1 < XML m) (hok : xok1 ls r1 = true) (hd : decode (mC m) pc = .ok (.lstore r1, 2)) (hg : Good p l e R s mi args below meth c Q D dA z sc md b m n0 ad0 r Vf V0 (pc + 2) (xset (xset ls r1 (xl x)) (r1 + 1) (xr 0 0)) st V) : Good p l e R s mi args below meth c Q D dA z sc md b m n0 ad0 r Vf V0 pc ls (xl x :: st) V := by
  refine G_loc hg (by rw [xset_length, xset_length]) (fun n hl hs => ⟨fun v hv => (xset_mem _ _ hv).elim (fun e => by rw [e]; exact Or.inl rfl) (fun hv => (xset_mem ls r1 hv).elim (fun e => e ▸ (m1 hs).1) (hl v)), (m1 hs).2⟩) (fun n ad H locs lsA k1 k2 hl hs hh hlen k => ?_)
  exact lv_lstore hx hb hd hh (by omega) rfl (fun lsA' h => k lsA' (lvl_st2 (v := xl x) (by omega) hok h))
theorem G_lstore_n {x : Int} {r1 : Nat} {k0 : Fin 4} (hk0 : k0.val = r1) (hx : p.tables.exec = Jvm.exec) (hb : c.code = mC m) (hr1 : r1 + 1 < XML m) (hok : xok1 ls r1 = true) (hd : decode (mC m) pc = .ok (.lstore_n k0, 1)) (hg : Good p l e R s mi args below meth c Q D dA z sc md b m n0 ad0 r Vf V0 (pc + 1) (xset (xset ls r1 (xl x)) (r1 + 1) (xr 0 0)) st V) : Good p l e R s mi args below meth c Q D dA z sc md b m n0 ad0 r Vf V0 pc ls (xl x :: st) V := by
  refine G_loc hg (by rw [xset_length, xset_length]) (fun n hl hs => ⟨fun v hv => (xset_mem _ _ hv).elim (fun e => by rw [e]; exact Or.inl rfl) (fun hv => (xset_mem ls r1 hv).elim (fun e => e ▸ (m1 hs).1) (hl v)), (m1 hs).2⟩) (fun n ad H locs lsA k1 k2 hl hs hh hlen k => ?_)
  exact lv_lstore_n hx hb hd hk0 hh (by omega) rfl (fun lsA' h => k lsA' (lvl_st2 (v := xl x) (by omega) hok h))
theorem G_iinc {x k0 : Int} {r1 : Nat} (hx : p.tables.exec = Jvm.exec) (hb : c.code = mC m) (hr1 : r1 < XML m) (hok : xok1 ls r1 = true) (hv : xget ls r1 = xi x) (hd : decode (mC m) pc = .ok (.iinc r1 k0, 3)) (hg : Good p l e R s mi args below meth c Q D dA z sc md b m n0 ad0 r Vf V0 (pc + 3) (xset ls r1 (xi (w32 (x + k0)))) st V) : Good p l e R s mi args below meth c Q D dA z sc md b m n0 ad0 r Vf V0 pc ls st V := by
  refine G_loc hg (xset_length _ _ _) (fun n hl hs => ⟨fun v hv => (xset_mem ls r1 hv).elim (fun e => by rw [e]; exact w32_c _) (hl v), hs⟩) (fun n ad H locs lsA k1 k2 hl hs hh hlen k => ?_)
  have hm : (r1, Value.int (Int32.ofInt x)) ∈ lvl ad ls := lvl_mem.mpr ⟨by omega, by show dead (xget ls r1) = false; rw [hv]; rfl, by show _ = tv ad (xget ls r1); rw [hv]; rfl⟩
  obtain ⟨q, hq⟩ := List.getElem?_of_mem hm
  exact lv_iinc (v := Int32.ofInt (w32 (x + k0))) hx hb hd hh hq (by rw [n32_w, Int32.ofInt_add]) (by omega) rfl (fun lsA' h => k lsA' (lvl_st1 (v := xi (w32 (x + k0))) (by omega) hok h))
end
