/-! the frame of the soundness proof -/
theorem tv_cat (ad : Nat → Nat → Nat) (v : XS) : (tv ad v).category = xcat v := by
  match v with
  | .inl x => rfl
  | .inr (.inl x) => rfl
  | .inr (.inr (.inl x)) => rfl
  | .inr (.inr (.inr (.inl x))) => rfl
  | .inr (.inr (.inr (.inr (0, i)))) => rfl
  | .inr (.inr (.inr (.inr (g + 1, i)))) => rfl
theorem xone1_cat {v : XS} (h : xone1 v = true) : xcat v = 1 := by
  match v, h with
  | .inl x, h => rfl
  | .inr (.inl x), h => cases h
  | .inr (.inr (.inl x)), h => rfl
  | .inr (.inr (.inr (.inl x))), h => cases h
  | .inr (.inr (.inr (.inr (g, i)))), h => rfl
theorem lvl_st1 {ad : Nat → Nat → Nat} {ls : List XS} {i : Nat} {v : XS} (hi : i < ls.length) (hok : xok1 ls i = true) {lsA : Array Slot} {nL : Nat} (h : lv_has lsA nL ((i, tv ad v) :: (lvl ad ls).filter (fun q => !(q.1 == i) && !(q.1 + 1 == i && q.2.category == 2)))) : lv_has lsA nL (lvl ad (xset ls i v)) := by
  refine ⟨h.1, h.2.1, fun q hq => h.2.2 q ?_⟩
  obtain ⟨a, b, c⟩ := lvl_mem.mp hq
  rw [xset_length] at a
  rw [xget_set v ls i q.1 hi] at b c
  by_cases e : q.1 = i
  · rw [if_pos e] at c
    exact List.mem_cons.mpr (Or.inl (Prod.ext e c))
  · rw [if_neg e] at b c
    refine List.mem_cons_of_mem _ (List.mem_filter.mpr ⟨lvl_mem.mpr ⟨a, b, c⟩, ?_⟩)
    simp only [Bool.and_eq_true, Bool.not_eq_true', beq_eq_false_iff_ne, ne_eq, Bool.and_eq_false_iff]
    refine ⟨e, ?_⟩
    by_cases e2 : q.1 + 1 = i
    · right
      rw [← e2] at hok
      rw [c, tv_cat, xone1_cat hok]
      decide
    · exact Or.inl e2
theorem lvl_st2 {ad : Nat → Nat → Nat} {ls : List XS} {i : Nat} {v : XS} (hi : i + 1 < ls.length) (hok : xok1 ls i = true) {lsA : Array Slot} {nL : Nat} (h : lv_has lsA nL ((i, tv ad v) :: (lvl ad ls).filter (fun q => !(q.1 == i) && (!(q.1 == i + 1) && !(q.1 + 1 == i && q.2.category == 2))))) : lv_has lsA nL (lvl ad (xset (xset ls i v) (i + 1) (xr 0 0))) := by
  refine ⟨h.1, h.2.1, fun q hq => h.2.2 q ?_⟩
  obtain ⟨a, b, c⟩ := lvl_mem.mp hq
  rw [xset_length, xset_length] at a
  rw [xget_set _ _ _ _ (by rw [xset_length]; exact hi)] at b c
  by_cases e3 : q.1 = i + 1
  · rw [if_pos e3] at b
    cases b
  rw [if_neg e3, xget_set v ls i q.1 (by omega)] at b c
  by_cases e : q.1 = i
  · rw [if_pos e] at c
    exact List.mem_cons.mpr (Or.inl (Prod.ext e c))
  · rw [if_neg e] at b c
    refine List.mem_cons_of_mem _ (List.mem_filter.mpr ⟨lvl_mem.mpr ⟨a, b, c⟩, ?_⟩)
    simp only [Bool.and_eq_true, Bool.not_eq_true', beq_eq_false_iff_ne, ne_eq, Bool.and_eq_false_iff]
    refine ⟨e, e3, ?_⟩
    by_cases e2 : q.1 + 1 = i
    · right
      rw [← e2] at hok
      rw [c, tv_cat, xone1_cat hok]
      decide
    · exact Or.inl e2
theorem lvl_mask {ad : Nat → Nat → Nat} {ls : List XS} (b : List Bool) (hb : b.length = ls.length) {lsA : Array Slot} {nL : Nat} (h : lv_has lsA nL (lvl ad ls)) : lv_has lsA nL (lvl ad (xmask b ls)) := by
  refine ⟨h.1, h.2.1, fun q hq => h.2.2 q ?_⟩
  obtain ⟨a, d, c⟩ := lvl_mem.mp hq
  rw [xmask_length b ls hb] at a
  rcases xmask_get b ls q.1 with e | e
  · rw [e] at d c
    exact lvl_mem.mpr ⟨a, d, c⟩
  · rw [e] at d
    cases d
theorem tv_axt {n : Nat} {ad ad' : Nat → Nat → Nat} {sc : Bool} (h : axt n ad ad') {v : XS} (hv : cS sc n v) : tv ad' v = tv ad v := by
  match v, hv with
  | .inl x, _ => rfl
  | .inr (.inl x), _ => rfl
  | .inr (.inr (.inl x)), _ => rfl
  | .inr (.inr (.inr (.inl x))), _ => rfl
  | .inr (.inr (.inr (.inr (0, i)))), _ => rfl
  | .inr (.inr (.inr (.inr (g + 1, i)))), hv =>
    have : ad' (g + 1) i = ad (g + 1) i := by
      rcases hv with hv | hv | hv
      · omega
      · exact h _ _ (Or.inl hv.2.1)
      · exact h _ _ (Or.inr hv)
    show va_rf (some (ad' (g + 1) i)) = va_rf (some (ad (g + 1) i))
    rw [this]
theorem map_axt {n : Nat} {ad ad' : Nat → Nat → Nat} {sc : Bool} (h : axt n ad ad') {st : List XS} (hv : ∀ v ∈ st, cS sc n v) : st.map (tv ad') = st.map (tv ad) := List.map_congr_left fun v hm => tv_axt h (hv v hm)
theorem lvl_axt {n : Nat} {ad ad' : Nat → Nat → Nat} {sc : Bool} (h : axt n ad ad') {ls : List XS} (hv : ∀ v ∈ ls, cS sc n v) {lsA : Array Slot} {nL : Nat} (hh : lv_has lsA nL (lvl ad ls)) : lv_has lsA nL (lvl ad' ls) := by
  refine ⟨hh.1, hh.2.1, fun q hq => hh.2.2 q ?_⟩
  obtain ⟨a, b, c⟩ := lvl_mem.mp hq
  rw [tv_axt h (hv _ (xget_mem ls q.1 a))] at c
  exact lvl_mem.mpr ⟨a, b, c⟩
theorem cS_mono {sc : Bool} {n n' : Nat} (hn : n ≤ n') {v : XS} (hv : cS sc n v) : cS sc n' v := by
  match v, hv with
  | .inl x, h => exact h
  | .inr (.inl x), h => exact h
  | .inr (.inr (.inl x)), h => exact h
  | .inr (.inr (.inr (.inl x))), h => exact h
  | .inr (.inr (.inr (.inr (g, i)))), h => exact h.imp id (fun h => h.imp id (fun h => al_mono h hn))
theorem cS_sc {sc : Bool} {n : Nat} {v : XS} (hv : cS false n v) : cS sc n v := by
  match v, hv with
  | .inl x, h => exact h
  | .inr (.inl x), h => exact h
  | .inr (.inr (.inl x)), h => exact h
  | .inr (.inr (.inr (.inl x))), h => exact h
  | .inr (.inr (.inr (.inr (g, i)))), h => exact h.imp id (fun h => Or.inr (h.elim (fun q => by cases q.1) id))
def tysA (dA : Nat → ClassId) : List (ClassId × FieldType) := [(dA 1, .int), (dA 2, .long), (dA 3, .boolean), (dA 4, .double), (dA 5, .object "WorldMake$Shelf"), (dA 6, .object "WorldMake$Table")]
def TW : List Cond := lw_tbl.filter goodWord
def isNest : Cond → Bool
  | .methodLinkNest _ _ _ _ => true
  | _ => false
def NWs (U : State) : Prop := (∀ w ∈ lw_tbl, isNest w = true → va_Nw w U) ∧ va_AO "WorldMake$Shelf" U ∧ va_AO "WorldMake$Table" U
def wsM (m : Nat) : List Cond := Cond.code (mY m) (mC m) (XML m) (mR m) :: TW
def slz (k : Nat) : Nat := if 10 ≤ WW.1 (tau k).1 then (vcl (WW.1 (tau k).1 - 10)).2.2 else (WW.2.1 (tau k).1).toNat
def Sl : Nat → Nat
  | 0 => 0
  | n + 1 => Sl n + slz n
theorem Sl_mono {a b : Nat} (h : a ≤ b) : Sl a ≤ Sl b := by
  induction h with
  | refl => exact Nat.le_refl _
  | step _ ih => exact Nat.le_trans ih (Nat.le_add_right _ _)
def nF (md : Bool) (n : Nat) (Vf : XM) : Nat := match md with
  | false => n
  | true => (Vf 0 0 0).toNat
def rmD (d mc ms : Nat) : Room := { frames := d, cells := mc, slots := ms, locals := 60 * d }
def world (D : va_G) (dA : Nat → ClassId) (z : Nat) (md : Bool) (n : Nat) (V : XM) (ad : Nat → Nat → Nat) (H : Heap) : Prop := va_P D vwCl (wof md n V ad dA) H ∧ va_D (fun q => z ≤ q) (wof md n V ad dA)
def XPre (D : va_G) (dA : Nat → ClassId) (z : Nat) (md : Bool) (n : Nat) (V : XM) (ad : Nat → Nat → Nat) (as : List XS) : Array Value → State → Prop := va_Pc (as.map (tv ad)) (fun U => z ≤ U.heap.size ∧ world D dA z md n V ad U.heap ∧ va_K D vwCl (tysA dA) U ∧ NWs U)
def rval (rt : Option FieldType) (ad : Nat → Nat → Nat) (r : XS) : Option Value := match rt with
  | none => none
  | some _ => some (tv ad r)
def XPost (D : va_G) (dA : Nat → ClassId) (z : Nat) (md : Bool) (n : Nat) (ad : Nat → Nat → Nat) (n' : Nat) (V' : XM) (r : XS) (rt : Option FieldType) : Array Value → State → Outcome → State → Prop := fun _ st oc t => ∃ ad', axt n ad ad' ∧ world D dA z md n' V' ad' t.heap ∧ oc = .returned (rval rt ad' r) ∧ va_F (fun q => z ≤ q) st t
def PEnd (V0 : XM) (sc md : Bool) (n : Nat) (r : XS) (Vf : XM) : Prop := Vf 1 = V0 1 ∧ cV Vf ∧ Io md (nF md n Vf) Vf ∧ n ≤ nF md n Vf ∧ nF md n Vf ≤ 155 ∧ cS sc (nF md n Vf) r
def Ctr (l : Launch) (D : va_G) (dA : Nat → ClassId) (z : Nat) (md : Bool) (d m : Nat) (as : List XS) (V : XM) (r : XS) (Vf : XM) : Prop := ∀ n ad, cV V → Io md n V → n ≤ 155 → (∀ v ∈ as, cS false n v) → PEnd V false md n r Vf ∧ Met l (mY m) (wsM m) (rmD d (nF md n Vf - n) (Sl (nF md n Vf) - Sl n)) (XPre D dA z md n V ad as) (XPost D dA z md n ad (nF md n Vf) Vf r (mR m)) (nF md n Vf - n) (Sl (nF md n Vf) - Sl n) (fun q => z ≤ q)
/-- what is at hand in a method's body -/
def Cx (p : Program) (D : va_G) (dA : Nat → ClassId) (z : Nat) (sc : Bool) (b : Nat) (V0 : XM) (s : State) (mi : MethodId) (args : Array Value) (meth : Method) (c : Code) (m : Nat) : Prop :=
  p.tables.exec = Jvm.exec ∧ c.code = mC m ∧ meth.sig.returnType = mR m ∧ c.maxLocals = XML m ∧ s.vm.findClass (cN (mK m)) = some mi.cls ∧ (∀ w ∈ TW, w.before args s = true) ∧ NWs s ∧ va_K D vwCl (tysA dA) s ∧ meth.locks = false ∧ (mN m = true → meth.name = "<init>") ∧ z ≤ s.heap.size ∧
  (sc = true → b < z ∧ ∃ (L : Nat) (xs : Nat → Int32), va_X b L xs s s.heap ∧ V0 1 1 0 = (L : Int) ∧ ∀ j, j < L → V0 1 0 j = (xs j).toInt)
/-- from here the run goes well: pure facts of its end, and the machine's run -/
def Good (p : Program) (l : Launch) (e : Env) (R : Room) (s : State) (mi : MethodId) (args : Array Value) (below : List Frame) (meth : Method) (c : Code) (Q : State → Prop) (D : va_G) (dA : Nat → ClassId) (z : Nat) (sc md : Bool) (b m n0 : Nat) (ad0 : Nat → Nat → Nat) (r : XS) (Vf : XM) (V0 : XM) (pc : Nat) (ls st : List XS) (V : XM) : Prop :=
  ∀ n, cV V → Io md n V → n ≤ 155 → n0 ≤ n → ls.length = XML m → (∀ v ∈ ls, cS sc n v) → (∀ v ∈ st, cS sc n v) → (md = false → n = n0) → (V 1 = V0 1) →
    PEnd V0 sc md n r Vf ∧ ∀ ad H locs lsA, axt n0 ad0 ad → (sc = true → ad 1 0 = b) → world D dA z md n V ad H → va_S (fun q => z ≤ q) s.heap H locs → lv_has lsA (XML m) (lvl ad ls) →
      W p l e R s mi args below meth c H locs (n - n0) (Sl n - Sl n0) Q (F0 mi pc lsA (st.map (tv ad)))
