/-! soundness: runs -/
section
variable {p : Program} {l : Launch} {e : Env} {R : Room} {s : State} {mi : MethodId} {args : Array Value} {below : List Frame} {meth : Method} {c : Code} {Q : State → Prop} {D : va_G} {dA : Nat → ClassId} {z : Nat} {sc md : Bool} {b m n0 : Nat} {ad0 : Nat → Nat → Nat} {r : XS} {Vf V0 : XM} {pc : Nat} {ls st : List XS} {V : XM} {d : Nat} {F : Nat → List XS → List XS → XM → XR} {C : Nat → List XS → XM → XR}

theorem xrun_sound (hcx : Cx p D dA z sc b V0 s mi args meth c m) (hm : m < 311) (hcm : ckM m = true) (hR : nF md n0 Vf - n0 ≤ R.cells ∧ Sl (nF md n0 Vf) - Sl n0 ≤ R.slots) (hRf : d + 1 ≤ R.frames ∧ 60 * d + 60 ≤ R.locals) (hend : Hend p l e R s mi args below meth c Q D dA z sc md m n0 ad0 r Vf) (hF : ∀ t ls st V, F t ls st V = some (r, Vf) → Good p l e R s mi args below meth c Q D dA z sc md b m n0 ad0 r Vf V0 t ls st V) (hC : ∀ m' as V r1 V1, ClOk m' → xsum as ≤ XML m' → C m' as V = some (r1, V1) → Ctr l D dA z md d m' as V r1 V1) (nx : Nat) : ∀ (es : List XE) (pc : Nat) (ls st : List XS) (V : XM), ckC m pc es nx = true → xrun WW md F C nx es ls st V = some (r, Vf) → Good p l e R s mi args below meth c Q D dA z sc md b m n0 ad0 r Vf V0 pc ls st V := by
  intro es
  induction es with
  | nil =>
    intro pc ls st V hc h
    have hc : pc = nx := bq hc
    subst hc
    exact hF _ _ _ _ h
  | cons en es ih =>
    intro pc ls st V hc h
    simp only [ckC, Bool.and_eq_true] at hc
    obtain ⟨⟨⟨c1, c2⟩, c3⟩, c4⟩ := hc
    have c1 := bq c1
    subst c1
    simp only [xrun] at h
    exact xone_sound hcx hm hR hRf hend c2 c3 hF (fun ls st V hk => ih _ ls st V c4 hk) hC h
theorem xmac_sound (hcx : Cx p D dA z sc b V0 s mi args meth c m) (hm : m < 311) (hcm : ckM m = true) (hR : nF md n0 Vf - n0 ≤ R.cells ∧ Sl (nF md n0 Vf) - Sl n0 ≤ R.slots) (hRf : d + 1 ≤ R.frames ∧ 60 * d + 60 ≤ R.locals) (hend : Hend p l e R s mi args below meth c Q D dA z sc md m n0 ad0 r Vf) (hF : ∀ t ls st V, F t ls st V = some (r, Vf) → Good p l e R s mi args below meth c Q D dA z sc md b m n0 ad0 r Vf V0 t ls st V) (hC : ∀ m' as V r1 V1, ClOk m' → xsum as ≤ XML m' → C m' as V = some (r1, V1) → Ctr l D dA z md d m' as V r1 V1) {pc : Nat} {ls st : List XS} {V : XM} (h : xmac WW md (XP m) F C pc ls st V = some (r, Vf)) : Good p l e R s mi args below meth c Q D dA z sc md b m n0 ad0 r Vf V0 pc ls st V := by
  have hall := List.all_eq_true.mp (show (XP m).all (ckB m) = true from hcm)
  have hF2 : ∀ t ls st V, xmkK (XP m) t ls (fun ls => F t ls st V) = some (r, Vf) → Good p l e R s mi args below meth c Q D dA z sc md b m n0 ad0 r Vf V0 t ls st V := by
    intro t ls st V hh
    rw [xmkK_eq] at hh
    unfold xmk at hh
    cases hb : xblk (XP m) t with
    | none =>
      rw [hb] at hh
      exact hF _ _ _ _ hh
    | some bl =>
      rw [hb] at hh
      have h1 := hall bl (xblk_mem hb).1
      unfold ckB at h1
      simp only [Bool.and_eq_true] at h1
      exact G_mask bl.2.1 (bq h1.2) (hF _ _ _ _ hh)
  unfold xmac at h
  cases hb : xblk (XP m) pc with
  | none => rw [hb] at h; cases h
  | some bl =>
    rw [hb] at h
    obtain ⟨m3, m4⟩ := xblk_mem hb
    have h1 := hall bl m3
    unfold ckB at h1
    simp only [Bool.and_eq_true] at h1
    rw [m4] at h1
    exact xrun_sound hcx hm hcm hR hRf hend hF2 hC bl.2.2.2 bl.2.2.1 pc ls st V h1.1 h
theorem xex_sound (hcx : Cx p D dA z sc b V0 s mi args meth c m) (hm : m < 311) (hcm : ckM m = true) (hR : nF md n0 Vf - n0 ≤ R.cells ∧ Sl (nF md n0 Vf) - Sl n0 ≤ R.slots) (hRf : d + 1 ≤ R.frames ∧ 60 * d + 60 ≤ R.locals) (hend : Hend p l e R s mi args below meth c Q D dA z sc md m n0 ad0 r Vf) (hC : ∀ f, ∀ m' as V r1 V1, ClOk m' → xsum as ≤ XML m' → xdn (fun d m as V => xex WW XP XML md f d m 0 (xpad (XML m) (xsl as)) [] V) d m' as V = some (r1, V1) → Ctr l D dA z md d m' as V r1 V1) : ∀ (f pc : Nat) (ls st : List XS) (V : XM), xex WW XP XML md f d m pc ls st V = some (r, Vf) → Good p l e R s mi args below meth c Q D dA z sc md b m n0 ad0 r Vf V0 pc ls st V := by
  intro f
  induction f with
  | zero => intro pc ls st V h; simp only [xex] at h; cases h
  | succ f ih =>
    intro pc ls st V h
    exact xmac_sound hcx hm hcm hR hRf hend (fun t ls st V hh => ih t ls st V hh) (hC f) (show xmac WW md (XP m) _ _ pc ls st V = some (r, Vf) from h)
end
theorem lvl_entry {ad : Nat → Nat → Nat} {as : List XS} {N : Nat} (h : xsum as ≤ N) : lv_has ((lg_sl (as.map (tv ad)) ++ List.replicate (N - (lg_sl (as.map (tv ad))).length) Slot.unset).toArray) N (lvl ad (xpad N (xsl as))) := by
  have h0 := lv_entry (as.map (tv ad)) (n := N) (by rw [lg_len]; exact h)
  refine ⟨h0.1, h0.2.1, fun q hq => h0.2.2 q ?_⟩
  obtain ⟨a, b, c⟩ := lvl_mem.mp hq
  obtain ⟨h1, h2⟩ := xpad_get N (xsl as) q.1 b
  rw [h2] at b c
  have := xsl_args ad as 0 q.1 b
  rw [Nat.zero_add, ← c] at this
  exact this
theorem init_name {k : Nat} (hk : k < 310) (h : mN k = true) : (mY k).name = "<init>" := List.map_inj_left.mp nm_init k (List.mem_filter.mpr ⟨List.mem_range.mpr hk, h⟩)
/-- a state at hand somewhere: what the pure facts rest on -/
def Base (D : va_G) (dA : Nat → ClassId) (z : Nat) : Prop := ∃ (p : Program) (e : Env) (s : State) (args : Array Value), p.tables.exec = Jvm.exec ∧ (∀ w ∈ TW, w.before args s = true) ∧ NWs s ∧ va_K D vwCl (tysA dA) s ∧ z ≤ s.heap.size ∧ ∀ k, k < 14 → ∃ ci, s.vm.findClass (cN k) = some ci
theorem rt_2 {rt : Option FieldType} (h : rtag rt = 2) : ∃ nm, rt = some (.object nm) := by
  cases rt with
  | none => cases h
  | some t =>
    cases t with
    | object nm => exact ⟨nm, rfl⟩
    | _ => cases h
theorem met_step (l : Launch) (D : va_G) (dA : Nat → ClassId) (z : Nat) (md : Bool) (hbase : Base D dA z) (d f k : Nat) (as : List XS) (V : XM) (r : XS) (Vf : XM) (hcl : ClOk k) (hk14 : mK k < 14) (hck : ckM k = true) (hsum : xsum as ≤ XML k) (h : xex WW XP XML md f d k 0 (xpad (XML k) (xsl as)) [] V = some (r, Vf))
    (hC : ∀ f, ∀ m' as V r1 V1, ClOk m' → xsum as ≤ XML m' → xdn (fun d m as V => xex WW XP XML md f d m 0 (xpad (XML m) (xsl as)) [] V) d m' as V = some (r1, V1) → Ctr l D dA z md d m' as V r1 V1) : Ctr l D dA z md (d + 1) k as V r Vf := by
  intro n ad h1 h2 h3 has
  obtain ⟨⟨k1, k14⟩, k2, k3, k4, k5, k6⟩ := id hcl
  have hls : ∀ v ∈ xpad (XML k) (xsl as), cS false n v := fun v hv => by
    rcases xpad_mem _ _ hv with q | q
    · rw [q]; exact Or.inl rfl
    · rcases xsl_mem _ q with q | q
      · rw [q]; exact Or.inl rfl
      · exact has v q
  have good : ∀ (p : Program) (e : Env) (R : Room) (s : State) (mi : MethodId) (args : Array Value) (below : List Frame) (meth : Method) (c : Code) (Q : State → Prop), Cx p D dA z false 0 V s mi args meth c k → (nF md n Vf - n ≤ R.cells ∧ Sl (nF md n Vf) - Sl n ≤ R.slots) → (d + 1 ≤ R.frames ∧ 60 * d + 60 ≤ R.locals) → Hend p l e R s mi args below meth c Q D dA z false md k n ad r Vf → PEnd V false md n r Vf ∧ ∀ H locs lsA, world D dA z md n V ad H → va_S (fun q => z ≤ q) s.heap H locs → lv_has lsA (XML k) (lvl ad (xpad (XML k) (xsl as))) → W p l e R s mi args below meth c H locs (n - n) (Sl n - Sl n) Q (F0 mi 0 lsA []) := by
    intro p e R s mi args below meth c Q hcx hR hRf hend
    obtain ⟨a, bb⟩ := xex_sound (V0 := V) hcx (by omega) hck hR hRf hend hC f 0 _ [] V h n h1 h2 h3 (Nat.le_refl n) (xpad_len _ _) hls (fun v hv => by cases hv) (fun _ => rfl) rfl
    exact ⟨a, fun H locs lsA q1 q2 q3 => bb ad H locs lsA (fun _ _ _ => rfl) (fun q => by cases q) q1 q2 q3⟩
  have pend : PEnd V false md n r Vf := by
    obtain ⟨p, e, s, args, b1, b2, b3, b4, b5, b6⟩ := hbase
    obtain ⟨ci, hci⟩ := b6 (mK k) hk14
    let c : Code := { maxStack := 0, maxLocals := XML k, code := mC k, exceptionTable := #[], attributes := #[] }
    let meth : Method := { name := if mN k = true then "<init>" else "", desc := "", sig := { parameters := [], returnType := mR k }, accessFlags := 0, code := none }
    have hcx : Cx p D dA z false 0 V s ⟨ci, 0⟩ args meth c k := ⟨b1, rfl, rfl, rfl, hci, b2, b3, b4, (by show (hasFlag 0 Acc.synchronized && _) = false; rw [show hasFlag 0 Acc.synchronized = false by decide]; rfl), fun q => by show (if mN k = true then "<init>" else "") = "<init>"; rw [if_pos q], b5, fun q => by cases q⟩
    exact (good p e { frames := d + 1, cells := nF md n Vf - n, slots := Sl (nF md n Vf) - Sl n, locals := 60 * d + 60 } s ⟨ci, 0⟩ args [] meth c (fun _ => True) hcx ⟨Nat.le_refl _, Nat.le_refl _⟩ ⟨Nat.le_refl _, Nat.le_refl _⟩ (fun pc n' ad' H locs lsA _ _ _ _ _ _ => ⟨fun _ _ _ _ => fun T _ _ => ⟨_, Steps.refl _, trivial⟩, fun _ _ _ _ => fun T _ _ => ⟨_, Steps.refl _, trivial⟩, fun _ _ _ _ _ => fun T _ _ => ⟨_, Steps.refl _, trivial⟩, fun _ _ => fun T _ _ => ⟨_, Steps.refl _, trivial⟩⟩)).1
  refine ⟨pend, ?_⟩
  refine Met.ofW (cc := mC k) (maxL := XML k) (ret := mR k) k5 rfl ?_
  intro p e s mi args below meth c s₁ B hml hv
  obtain ⟨rfl, hsz, hw, hK, hN⟩ := hv
  have hts : ∀ w ∈ TW, w.before ((as.map (tv ad)).toArray) s = true := fun w hw => atoms_spec (ws := wsM k) B.pre w (List.mem_cons_of_mem _ hw)
  have hown : s.vm.findClass (cN (mK k)) = some mi.cls := by rw [← cls_eq k1]; exact findClass_of_methodNamed B.named
  have hcx : Cx p D dA z false 0 V s mi ((as.map (tv ad)).toArray) meth c k := ⟨B.exec, B.bytes, B.returns, hml, hown, hts, hN, hK, B.notSynchronized, fun q => ((name_of_methodNamed B.named B.method).1).trans (init_name k1 q), hsz, fun q => by cases q⟩
  have hlocks := B.notSynchronized
  have hx := B.exec
  have hb := B.bytes
  have hr := B.returns
  rw [lg_entry_eq]
  have hg := (good p e (rmD (d + 1) (nF md n Vf - n) (Sl (nF md n Vf) - Sl n)) s mi _ below meth c (MQ below (XPost D dA z md n ad (nF md n Vf) Vf r (mR k)) ((as.map (tv ad)).toArray) s (nF md n Vf - n) (Sl (nF md n Vf) - Sl n) (fun q => z ≤ q)) hcx ⟨Nat.le_refl _, Nat.le_refl _⟩ ⟨Nat.le_refl _, by show 60 * d + 60 ≤ 60 * (d + 1); omega⟩ ?_).2 s.heap [] _ hw va_S.rf (lvl_entry hsum)
  · rw [Nat.sub_self, Nat.sub_self] at hg
    exact hg
  · intro pc n' ad' H locs lsA en hn' hax hw' hS hcr
    have hq : ∀ v, v = rval (mR k) ad' r → ∀ t : State, t.heap = H → s.WarmedH t.vm → XPost D dA z md n ad (nF md n Vf) Vf r (mR k) ((as.map (tv ad)).toArray) s (.returned v) t := fun v hv t ht _ => ⟨ad', hax, by rw [ht, ← en]; exact hw', by rw [hv], hS.F ht⟩
    subst en
    refine ⟨fun x hx0 hrt hd => ?_, fun x hx0 hrt hd => ?_, fun g i hx0 hrt hd => ?_, fun hrt hd => ?_⟩
    · subst hx0
      rcases hrt with hrt | ⟨hrt, hx1⟩
      · exact W.iret hx hb (hr.trans hrt) (hq _ (by rw [hrt]; rfl)) hS.2.2 hd
      · refine W.zret (ty := .boolean) hx hb (hr.trans hrt) ?_ (hq _ (by rw [hrt]; rfl)) hS.2.2 hd
        rcases hx1 with q | q <;> subst q <;> rfl
    · subst hx0
      exact W.lret hx hb (hr.trans hrt) (hq _ (by rw [hrt]; rfl)) hS.2.2 hd
    · subst hx0
      obtain ⟨nm, hm⟩ := rt_2 hrt
      exact W.aret (v := .ref (ad' (g + 1) i)) hx hb (hr.trans hm) (Or.inl ⟨nm, rfl⟩) (Or.inr ⟨_, rfl⟩) (hq _ (by rw [hm]; rfl)) hS.2.2 hd
    · exact W.vret hx hb (hr.trans hrt) (hq _ (by rw [hrt]; rfl)) hS.2.2 hd
/-- A CALL that the abstract machine ends is a contract of the machine's -/
theorem met_all (l : Launch) (D : va_G) (dA : Nat → ClassId) (z : Nat) (md : Bool) (hbase : Base D dA z) (hck : ∀ k, k < 310 → ckM k = true) : ∀ (d f k : Nat) (as : List XS) (V : XM) (r : XS) (Vf : XM), ClOk k → mK k < 14 → xsum as ≤ XML k → xex WW XP XML md f d k 0 (xpad (XML k) (xsl as)) [] V = some (r, Vf) → Ctr l D dA z md (d + 1) k as V r Vf := by
  intro d
  induction d with
  | zero =>
    intro f k as V r Vf hcl hk14 hsum h
    exact met_step l D dA z md hbase _ f k as V r Vf hcl hk14 (hck k hcl.1.1) hsum h (fun f m' as V r1 V1 _ _ hh => by cases hh)
  | succ d ihd =>
    intro f k as V r Vf hcl hk14 hsum h
    exact met_step l D dA z md hbase _ f k as V r Vf hcl hk14 (hck k hcl.1.1) hsum h (fun f m' as V r1 V1 c1 c2 hh => ihd f m' as V r1 V1 c1 c1.1.2 c2 hh)
