/-! soundness: calls -/
def OXG : List Nat := [97, 7, 0, 750, 0]
theorem ox_mem {w : Cond} (h : w ∈ wpick OXG lw_tbl) (hg : goodWord w = true) : w ∈ TW := TW_of (wpick_mem _ _ h) hg
theorem oi_1 : Cond.instanceMethod Lib.objectInit ∈ TW := ox_mem (by rw [show wpick OXG lw_tbl = _ from sX2]; exact List.mem_of_getElem? (i := 1) rfl) rfl
theorem oi_2 : Cond.code Lib.objectInit ⟨#[0xb1]⟩ 1 none ∈ TW := ox_mem (by rw [show wpick OXG lw_tbl = _ from sX2]; exact List.mem_of_getElem? (i := 2) rfl) rfl
theorem mx_1 : Cond.static Lib.Math.max.name ∈ TW := ox_mem (by rw [show wpick OXG lw_tbl = _ from sX2]; exact List.mem_of_getElem? (i := 3) rfl) rfl
theorem mx_2 : Cond.initialized "java/lang/Math" ∈ TW := ox_mem (by rw [show wpick OXG lw_tbl = _ from sX2]; exact List.mem_of_getElem? (i := 0) rfl) rfl
theorem mx_3 : Cond.code Lib.Math.max.name Lib.Math.max.code 2 (some .int) ∈ TW := ox_mem (by rw [show wpick OXG lw_tbl = _ from sX2]; exact List.mem_of_getElem? (i := 4) rfl) rfl
theorem xtk_eq : ∀ (n : Nat) (l : List XS), xtk n l = l.take n := by
  intro n
  induction n with
  | zero => intro l; cases l <;> rfl
  | succ n ih => intro l; cases l with
    | nil => rfl
    | cons a l => simp [xtk, ih l]
theorem xdp_eq : ∀ (n : Nat) (l : List XS), xdp n l = l.drop n := by
  intro n
  induction n with
  | zero => intro l; cases l <;> rfl
  | succ n ih => intro l; cases l with
    | nil => rfl
    | cons a l => simp [xdp, ih l]
theorem xrv_eq : ∀ (l a : List XS), xrv l a = l.reverse ++ a := by
  intro l
  induction l with
  | nil => intro a; rfl
  | cons v l ih => intro a; simp [xrv, ih]
theorem xsum_eq (ad : Nat → Nat → Nat) : ∀ (l : List XS), ((l.map (tv ad)).map fun v => v.category).sum = xsum l := by
  intro l
  induction l with
  | nil => rfl
  | cons v l ih => simp only [List.map_cons, List.sum_cons, ih, tv_cat]; rfl
theorem xhas_le : ∀ (l : List XS) (n : Nat), xhas l n = true → n ≤ l.length := by
  intro l
  induction l with
  | nil => intro n h; cases n with
    | zero => exact Nat.le_refl _
    | succ n => cases h
  | cons a l ih => intro n h; cases n with
    | zero => exact Nat.zero_le _
    | succ n => exact Nat.succ_le_succ (ih n h)
theorem xnos_ok {sc : Bool} {n : Nat} : ∀ (l : List XS), xnos l = true → (∀ v ∈ l, cS sc n v) → ∀ v ∈ l, cS false n v := by
  intro l
  induction l with
  | nil => intro h hv v hm; cases hm
  | cons a l ih =>
    intro h hv
    have h0 := m1 hv
    have key : cS false n a ∧ xnos l = true := by
      match a, h, h0.1 with
      | .inl x, h, q => exact ⟨q, h⟩
      | .inr (.inl x), h, q => exact ⟨q, h⟩
      | .inr (.inr (.inl x)), h, q => exact ⟨q, h⟩
      | .inr (.inr (.inr (.inl x))), h, q => exact ⟨q, h⟩
      | .inr (.inr (.inr (.inr (0, i)))), h, q => exact ⟨Or.inl rfl, h⟩
      | .inr (.inr (.inr (.inr (1, i)))), h, q => cases h
      | .inr (.inr (.inr (.inr (g + 2, i)))), h, q =>
        refine ⟨?_, h⟩
        rcases q with q | q | q
        · omega
        · omega
        · exact Or.inr (Or.inr q)
    exact m2 key.1 (ih key.2 h0.2)
theorem take_rev {l : List XS} {k : Nat} {v : XS} (hk : k < l.length) (hv : xget l k = v) : l = l.take k ++ v :: l.drop (k + 1) := by
  have e : ∀ (l : List XS) (k : Nat), k < l.length → l = l.take k ++ xget l k :: l.drop (k + 1) := by
    intro l
    induction l with
    | nil => intro k h; simp at h
    | cons a l ih => intro k h; cases k with
      | zero => rfl
      | succ k =>
        show a :: l = a :: (l.take k ++ xget l k :: l.drop (k + 1))
        rw [← ih k (by simpa using h)]
  rw [← hv]
  exact e l k hk
theorem NWs_moved {u U : State} (hvm : u.WarmedH U.vm) (h : NWs u) : NWs U := by
  refine ⟨fun w hw hn => ?_, va_AO.moved hvm.alike h.2.1, va_AO.moved hvm.alike h.2.2⟩
  have h1 := h.1 w hw hn
  cases w with
  | methodLinkNest a i x b => exact va_Nw.warmM hvm h1
  | _ => cases hn
theorem NWs_same {u U : State} (hvm : u.vm = U.vm) (h : NWs u) : NWs U := by
  have ha : u.vm.Alike U.vm := by rw [hvm]; exact Vm.Alike.refl _
  refine ⟨fun w hw hn => ?_, va_AO.moved ha h.2.1, va_AO.moved ha h.2.2⟩
  have h1 := h.1 w hw hn
  cases w with
  | methodLinkNest a i x b => exact va_Nw.same rfl hvm h1
  | _ => cases hn
theorem XPre_blind (D : va_G) (dA : Nat → ClassId) (z : Nat) (md : Bool) (n : Nat) (V : XM) (ad : Nat → Nat → Nat) (as : List XS) : FrameBlind (XPre D dA z md n V ad as) := by
  intro a U g mk h
  obtain ⟨h1, h2, h3, h4, h5⟩ := h
  exact ⟨h1, h2, h3, va_K.moved (u := U) (U := U.calling g mk a) (Vm.Alike.refl U.vm) h4, NWs_same (u := U) (U := U.calling g mk a) rfl h5⟩
theorem mem_all {l : List Nat} {k : Nat} (h : l.elem k = true) : k ∈ l := by simpa using h
theorem code_TW {k : Nat} (h : k < 310) : Cond.code (mY k) (mC k) (XML k) (mR k) ∈ TW := by
  have h1 := List.all_eq_true.mp sI3 k (List.mem_range.mpr h)
  simp only [Bool.and_eq_true] at h1
  exact TW_of (wpick_map sI1 (mem_all h1.2)) (gw_cd _ _ _ _)
theorem cls_eq {k : Nat} (h : k < 310) : (mY k).cls = cN (mK k) := List.map_inj_left.mp sI2 k (List.mem_range.mpr h)
/-- what is asked of a callee -/
def ClOk (k : Nat) : Prop := (k < 310 ∧ mK k < 14) ∧ XML k ≤ 40 ∧ Cond.initialized (mY k).cls ∈ TW ∧ ((mY k).cls ≠ "java/lang/invoke/MethodHandle" ∧ (mY k).cls ≠ "java/lang/invoke/VarHandle") ∧ plainName (mY k).cls = true ∧ ∀ sig, parseMethodDescriptor (mY k).desc = some sig → npar (mY k) = sig.parameters.length
theorem cl_ok {k : Nat} (h : k < 310) (h2 : mK k < 14) : ClOk k := by
  have h1 := List.all_eq_true.mp sI3 k (List.mem_range.mpr h)
  simp only [Bool.and_eq_true] at h1
  have h3 := List.all_eq_true.mp sC1 (mK k) (List.mem_range.mpr h2)
  simp only [Bool.and_eq_true, decide_eq_true_eq] at h3
  have e := cls_eq h
  refine ⟨⟨h, h2⟩, Nat.le_of_ble_eq_true h1.1.1.1, ?_, ⟨by rw [e]; exact h3.1.1.1, by rw [e]; exact h3.1.1.2⟩, by rw [e]; exact h3.1.2, fun sig hs => by unfold npar; rw [hs]⟩
  rw [e]
  exact TW_of (wpick_map sN3 (mem_all h3.2)) (gw_in _)
section
variable {p : Program} {l : Launch} {e : Env} {R : Room} {s : State} {mi : MethodId} {args : Array Value} {below : List Frame} {meth : Method} {c : Code} {Q : State → Prop} {D : va_G} {dA : Nat → ClassId} {z : Nat} {sc md : Bool} {b m n0 : Nat} {ad0 : Nat → Nat → Nat} {r : XS} {Vf V0 : XM} {pc : Nat} {ls st : List XS} {V : XM}

theorem W_call {lsA : Array Slot} {st0 rest : List Value} {H : Heap} {locs : List Loc} {k1 k2 mc ms : Nat} {Qa : State → Outcome → State → Prop} {free : Addr → Prop} (hr : va_Run p l e R s mi args below meth c H locs k1 k2 mc ms (F0 mi pc lsA st0) rest Qa free) (kk : ∀ v t L st₀, st₀.heap = H → Qa st₀ (.returned v) t → (∀ q ∈ L, free q.base) → W p l e R s mi args below meth c t.heap (locs ++ L) (k1 + mc) (k2 + ms) Q (F0 mi (pc + 3) lsA (v.toList ++ rest))) : W p l e R s mi args below meth c H locs k1 k2 Q (F0 mi pc lsA st0) := by
  intro T hT X
  obtain ⟨v, st₀, t, T', L, h0, X', hL, e1, e2, hq, hst⟩ := hr T hT X
  obtain ⟨t2, a1, b1⟩ := kk v t L st₀ h0 hq hL T' e1 X'
  exact ⟨t2, hst t2 a1, b1⟩
theorem G_callC {d m' : Nat} {as rest : List XS} {r1 : XS} {V1 : XM} {st' : List XS} (hsz : z ≤ s.heap.size) (hR : nF md n0 Vf - n0 ≤ R.cells ∧ Sl (nF md n0 Vf) - Sl n0 ≤ R.slots) (hC : Ctr l D dA z md d m' as V r1 V1) (has : ∀ n, (∀ v ∈ st, cS sc n v) → (∀ v ∈ as, cS false n v) ∧ ∀ v ∈ rest, cS sc n v) (hg : Good p l e R s mi args below meth c Q D dA z sc md b m n0 ad0 r Vf V0 (pc + 3) ls st' V1) (hst' : st' = match mR m' with | none => rest | some _ => r1 :: rest)
    (hrun : ∀ n ad H locs lsA k1 k2 mc ms Qc, n ≤ 155 → (∀ v ∈ st, cS sc n v) → world D dA z md n V ad H → va_S (fun q => z ≤ q) s.heap H locs → lsA.size = XML m → Met l (mY m') (wsM m') (rmD d mc ms) (XPre D dA z md n V ad as) Qc mc ms (fun q => z ≤ q) → k1 + mc ≤ R.cells → k2 + ms ≤ R.slots → va_Run p l e R s mi args below meth c H locs k1 k2 mc ms (F0 mi pc lsA (st.map (tv ad))) (rest.map (tv ad)) (Qc (as.map (tv ad)).toArray) (fun q => z ≤ q)) : Good p l e R s mi args below meth c Q D dA z sc md b m n0 ad0 r Vf V0 pc ls st V := by
  intro n h1 h2 h3 h4 h5 h6 h7 h8 h9
  obtain ⟨ha1, ha2⟩ := has n h7
  obtain ⟨⟨p0, p1, p2, p3, p4, p5⟩, -⟩ := hC n ad0 h1 h2 h3 ha1
  have hst1 : ∀ v ∈ st', cS sc (nF md n V1) v := by
    rw [hst']
    cases mR m' with
    | none => exact fun v hv => cS_mono p3 (ha2 v hv)
    | some _ => exact m2 (cS_sc p5) (fun v hv => cS_mono p3 (ha2 v hv))
  obtain ⟨⟨e0, e1, e2, e3, e4, e5⟩, bb⟩ := hg (nF md n V1) p1 p2 p4 (by omega) h5 (fun v hv => cS_mono p3 (h6 v hv)) hst1 (fun q => by subst q; exact h8 rfl) (p0.trans h9)
  have hnn : nF md (nF md n V1) Vf = nF md n Vf := by cases md <;> rfl
  have hn0 : nF md n0 Vf = nF md (nF md n V1) Vf := by
    cases md with
    | false => exact (h8 rfl).symm
    | true => rfl
  rw [hnn] at e2 e3 e4 e5
  refine ⟨⟨e0, e1, e2, by omega, e4, e5⟩, fun ad H locs lsA q1 q2 q3 q4 q5 => ?_⟩
  obtain ⟨-, hM⟩ := hC n ad h1 h2 h3 ha1
  have s1 := Sl_mono h4
  have s2 := Sl_mono p3
  have s3 := Sl_mono e3
  rw [hn0, hnn] at hR
  have hrr := hrun n ad H locs lsA (n - n0) (Sl n - Sl n0) _ _ _ h3 h7 q3 q4 q5.1 hM (by omega) (by omega)
  refine W_call hrr (fun v t L st₀ hh hq hL => ?_)
  obtain ⟨ad', x1, x2, x3, x4⟩ := hq
  have hv : v = rval (mR m') ad' r1 := by
    injection x3
  have hx0 : axt n0 ad0 ad' := fun g i hgi => by
    rw [x1 g i (hgi.imp id (fun q => al_mono q h4))]
    exact q1 g i hgi
  have hS' : va_S (fun q => z ≤ q) s.heap t.heap (locs ++ L) := by
    obtain ⟨f1, f2⟩ := x4
    rw [hh] at f1 f2
    refine ⟨Nat.le_trans q4.1 f1, fun q u1 u2 => ?_, fun q hq => ?_⟩
    · rw [f2 q (Nat.lt_of_lt_of_le u1 q4.1) u2]
      exact q4.2.1 q u1 u2
    · rcases List.mem_append.mp hq with u | u
      · exact q4.2.2 q u
      · exact hL q u
  have hr := bb ad' t.heap (locs ++ L) lsA hx0 (fun hs => by rw [x1 1 0 (Or.inl rfl)]; exact q2 hs) x2 hS' (lvl_axt x1 h6 q5)
  have hsp : st'.map (tv ad') = v.toList ++ rest.map (tv ad) := by
    rw [hst', hv]
    cases hm : mR m' with
    | none =>
      show rest.map (tv ad') = [] ++ _
      rw [map_axt x1 ha2]
      rfl
    | some ty =>
      show tv ad' r1 :: rest.map (tv ad') = [tv ad' r1] ++ _
      rw [map_axt x1 ha2]
      rfl
  rw [hsp] at hr
  rw [show n - n0 + (nF md n V1 - n) = nF md n V1 - n0 by omega, show Sl n - Sl n0 + (Sl (nF md n V1) - Sl n) = Sl (nF md n V1) - Sl n0 by omega]
  exact hr
theorem ws_pay {k : Nat} (hk : k < 310) (hts : ∀ w ∈ TW, w.before args s = true) : ∀ w ∈ wsM k, ∀ (a' : Array Value) (U : State), s.WarmedH U.vm → w.before a' U = true := by
  intro w hw a' U hW
  have hw2 : w ∈ TW := by
    rcases List.mem_cons.mp hw with q | q
    · rw [q]; exact code_TW hk
    · exact q
  exact word_at hW (good_of_word (List.mem_filter.mp hw2).2) (hts w hw2)
theorem pre_of {n : Nat} {ad : Nat → Nat → Nat} {H : Heap} {locs : List Loc} {as : List XS} (hsz : z ≤ s.heap.size) (hK : va_K D vwCl (tysA dA) s) (hN : NWs s) (hw : world D dA z md n V ad H) (hS : va_S (fun q => z ≤ q) s.heap H locs) : ∀ U : State, U.heap = H → s.WarmedH U.vm → XPre D dA z md n V ad as (as.map (tv ad)).toArray U := by
  intro U hU hW
  refine ⟨rfl, by rw [hU]; exact Nat.le_trans hsz hS.1, by rw [hU]; exact hw, va_K.moved hW.alike hK, NWs_moved hW hN⟩
theorem G_virt {d m' idx k0 g i : Nat} {r1 : XS} {V1 : XM} {st' : List XS} (hx : p.tables.exec = Jvm.exec) (hb : c.code = mC m) (hml : c.maxLocals = XML m) (hown : s.vm.findClass (cN (mK m)) = some mi.cls) (hts : ∀ w ∈ TW, w.before args s = true) (hN : NWs s) (hK : va_K D vwCl (tysA dA) s) (hsz : z ≤ s.heap.size) (hR : nF md n0 Vf - n0 ≤ R.cells ∧ Sl (nF md n0 Vf) - Sl n0 ≤ R.slots) (hRf : d + 1 ≤ R.frames ∧ 60 * d + 60 ≤ R.locals) (hcl : ClOk m') (hk0 : k0 < st.length) (hrc : xget st k0 = xr g i) (hnp : npar (mY m') = k0) (hno : xnos (st.take (k0 + 1)) = true) (hrest : xsum (st.drop (k0 + 1)) ≤ 8) (hg : Good p l e R s mi args below meth c Q D dA z sc md b m n0 ad0 r Vf V0 (pc + 3) ls st' V1) (hst' : st' = match mR m' with | none => st.drop (k0 + 1) | some _ => r1 :: st.drop (k0 + 1)) (hC : Ctr l D dA z md d m' ((st.take (k0 + 1)).reverse) V r1 V1) (hci : mK m' < 13 ∧ WW.1 g = mK m' + 10) (hl : Cond.methodLink (cN (mK m)) idx (mY m') ∈ TW) (hi : Cond.instanceMethod (mY m') ∈ TW) (hse : Cond.selects (mY m').cls (mY m') (mY m') ∈ TW) (hd : decode (mC m) pc = .ok (.invokevirtual idx, 3)) : Good p l e R s mi args below meth c Q D dA z sc md b m n0 ad0 r Vf V0 pc ls st V := by
  have hsplit := take_rev hk0 hrc
  have has0 : (st.take (k0 + 1)).reverse = xr g i :: (st.take k0).reverse := by
    have : st.take (k0 + 1) = st.take k0 ++ [xr g i] := by
      conv => lhs; rw [hsplit]
      rw [List.take_append]
      simp [Nat.min_eq_left (Nat.le_of_lt hk0)]
      rw [List.take_take, Nat.min_eq_right (Nat.le_succ k0)]
    rw [this]
    simp
  have hgk : 10 ≤ WW.1 g := by omega
  refine G_callC hsz hR hC (fun n hs => ⟨fun v hv => xnos_ok _ hno (fun v hv => hs v (List.mem_of_mem_take hv)) v (by simpa using hv), fun v hv => hs v (List.mem_of_mem_drop hv)⟩) hg hst' (fun n ad H locs lsA k1 k2 mc ms Qc h3 hs hw hS hsA hM hc1 hc2 => ?_)
  have hgi : cS sc n (xr g i) := by rw [← hrc]; exact hs _ (xget_mem st k0 hk0)
  have ha : al n g i := cS_al hgi (by omega) (by omega)
  have hmap : (((st.take (k0 + 1)).reverse).map (tv ad)).toArray = (Value.ref (ad g i) :: ((st.take k0).reverse).map (tv ad)).toArray := by
    rw [has0, List.map_cons, tv_ref h3 ha]
  have hPre := pre_of (as := (st.take (k0 + 1)).reverse) hsz hK hN hw hS
  rw [hmap] at hPre ⊢
  obtain ⟨⟨c1, c14⟩, c2, c3, c4, c5, c6⟩ := hcl
  have hstk : st.map (tv ad) = (((st.take k0).reverse).map (tv ad)).reverse ++ Value.ref (ad g i) :: (st.drop (k0 + 1)).map (tv ad) := by
    conv => lhs; rw [hsplit]
    rw [List.map_append, List.map_cons, tv_ref h3 ha, List.map_reverse, List.reverse_reverse]
  have hlen : (((st.take k0).reverse).map (tv ad)).length = npar (mY m') := by
    rw [hnp]
    simp only [List.length_map, List.length_reverse, List.length_take]
    omega
  obtain ⟨q, hq, e9⟩ := ha
  have he := wof_get (md := md) (V := V) (ad := ad) (dA := dA) hq e9
  rw [ce_obj hgk, show WW.1 g - 10 = mK m' by omega] at he
  have hrv := va_recv hK hw.1 (vcl_get hci.1) he
  rw [show (vcl (mK m')).1 = (mY m').cls by rw [cls_eq c1]; exact (List.map_inj_left.mp sC2 (mK m') (List.mem_range.mpr hci.1)).symm] at hrv
  exact va_runV (C := (mY m').cls) (bytes := mC m') (maxL := XML m') (ret := mR m') (n := npar (mY m')) ⟨hx, hb, hml, hown, hts⟩ hM ⟨⟨rfl, rfl, by show d + 1 ≤ R.frames; omega, by show 8 + (XML m' + 11) + 60 * d ≤ R.locals; omega, ws_pay c1 hts, List.mem_cons_self, hts _ (code_TW c1), hts _ c3, c4, c6, hts _ hl⟩, hts _ hi, hts _ hse⟩ ⟨XPre_blind _ _ _ _ _ _ _ _, hrv, hPre⟩ rfl hlen hsA hstk (lv_room (by rw [xsum_eq]; exact hrest)) hd ⟨hc1, hc2⟩
theorem G_init {d m' idx k0 g i : Nat} {r1 : XS} {V1 : XM} {st' : List XS} (hx : p.tables.exec = Jvm.exec) (hb : c.code = mC m) (hml : c.maxLocals = XML m) (hown : s.vm.findClass (cN (mK m)) = some mi.cls) (hts : ∀ w ∈ TW, w.before args s = true) (hN : NWs s) (hK : va_K D vwCl (tysA dA) s) (hsz : z ≤ s.heap.size) (hR : nF md n0 Vf - n0 ≤ R.cells ∧ Sl (nF md n0 Vf) - Sl n0 ≤ R.slots) (hRf : d + 1 ≤ R.frames ∧ 60 * d + 60 ≤ R.locals) (hcl : ClOk m') (hk0 : k0 < st.length) (hrc : xget st k0 = xr g i) (hnp : npar (mY m') = k0) (hno : xnos (st.take (k0 + 1)) = true) (hrest : xsum (st.drop (k0 + 1)) ≤ 8) (hg : Good p l e R s mi args below meth c Q D dA z sc md b m n0 ad0 r Vf V0 (pc + 3) ls st' V1) (hst' : st' = match mR m' with | none => st.drop (k0 + 1) | some _ => r1 :: st.drop (k0 + 1)) (hC : Ctr l D dA z md d m' ((st.take (k0 + 1)).reverse) V r1 V1) (hkg : 10 ≤ WW.1 g) (hl : Cond.methodLink (cN (mK m)) idx (mY m') ∈ TW) (hi : Cond.instanceMethod (mY m') ∈ TW) (hnm : (mY m').name = "<init>") (hrt : mR m' = none) (hd : decode (mC m) pc = .ok (.invokespecial idx, 3)) : Good p l e R s mi args below meth c Q D dA z sc md b m n0 ad0 r Vf V0 pc ls st V := by
  have hsplit := take_rev hk0 hrc
  have has0 : (st.take (k0 + 1)).reverse = xr g i :: (st.take k0).reverse := by
    have : st.take (k0 + 1) = st.take k0 ++ [xr g i] := by
      conv => lhs; rw [hsplit]
      rw [List.take_append]
      simp [Nat.min_eq_left (Nat.le_of_lt hk0)]
      rw [List.take_take, Nat.min_eq_right (Nat.le_succ k0)]
    rw [this]
    simp
  have hgk : 10 ≤ WW.1 g := by omega
  refine G_callC hsz hR hC (fun n hs => ⟨fun v hv => xnos_ok _ hno (fun v hv => hs v (List.mem_of_mem_take hv)) v (by simpa using hv), fun v hv => hs v (List.mem_of_mem_drop hv)⟩) hg hst' (fun n ad H locs lsA k1 k2 mc ms Qc h3 hs hw hS hsA hM hc1 hc2 => ?_)
  have hgi : cS sc n (xr g i) := by rw [← hrc]; exact hs _ (xget_mem st k0 hk0)
  have ha : al n g i := cS_al hgi (by omega) (by omega)
  have hmap : (((st.take (k0 + 1)).reverse).map (tv ad)).toArray = (Value.ref (ad g i) :: ((st.take k0).reverse).map (tv ad)).toArray := by
    rw [has0, List.map_cons, tv_ref h3 ha]
  have hPre := pre_of (as := (st.take (k0 + 1)).reverse) hsz hK hN hw hS
  rw [hmap] at hPre ⊢
  obtain ⟨⟨c1, c14⟩, c2, c3, c4, c5, c6⟩ := hcl
  have hstk : st.map (tv ad) = (((st.take k0).reverse).map (tv ad)).reverse ++ Value.ref (ad g i) :: (st.drop (k0 + 1)).map (tv ad) := by
    conv => lhs; rw [hsplit]
    rw [List.map_append, List.map_cons, tv_ref h3 ha, List.map_reverse, List.reverse_reverse]
  have hlen : (((st.take k0).reverse).map (tv ad)).length = npar (mY m') := by
    rw [hnp]
    simp only [List.length_map, List.length_reverse, List.length_take]
    omega
  obtain ⟨q, hq, e9⟩ := ha
  have hcd := code_TW c1
  rw [hrt] at hcd
  have hw1 : Cond.code (mY m') (mC m') (XML m') none ∈ wsM m' := by unfold wsM; rw [hrt]; exact List.mem_cons_self
  exact va_runI (bytes := mC m') (maxL := XML m') (n := npar (mY m')) ⟨hx, hb, hml, hown, hts⟩ hM ⟨⟨rfl, rfl, by show d + 1 ≤ R.frames; omega, by show 8 + (XML m' + 11) + 60 * d ≤ R.locals; omega, ws_pay c1 hts, hw1, hts _ hcd, hts _ c3, c4, c6, hts _ hl⟩, hnm, hts _ hi⟩ ⟨XPre_blind _ _ _ _ _ _ _ _, hPre⟩ rfl hlen hsA hstk (lv_room (by rw [xsum_eq]; exact hrest)) hd ⟨hc1, hc2⟩
theorem G_initN {d m' idx k0 g i : Nat} {r1 : XS} {V1 : XM} {st' : List XS} (hx : p.tables.exec = Jvm.exec) (hb : c.code = mC m) (hml : c.maxLocals = XML m) (hown : s.vm.findClass (cN (mK m)) = some mi.cls) (hts : ∀ w ∈ TW, w.before args s = true) (hN : NWs s) (hK : va_K D vwCl (tysA dA) s) (hsz : z ≤ s.heap.size) (hR : nF md n0 Vf - n0 ≤ R.cells ∧ Sl (nF md n0 Vf) - Sl n0 ≤ R.slots) (hRf : d + 1 ≤ R.frames ∧ 60 * d + 60 ≤ R.locals) (hcl : ClOk m') (hk0 : k0 < st.length) (hrc : xget st k0 = xr g i) (hnp : npar (mY m') = k0) (hno : xnos (st.take (k0 + 1)) = true) (hrest : xsum (st.drop (k0 + 1)) ≤ 8) (hg : Good p l e R s mi args below meth c Q D dA z sc md b m n0 ad0 r Vf V0 (pc + 3) ls st' V1) (hst' : st' = match mR m' with | none => st.drop (k0 + 1) | some _ => r1 :: st.drop (k0 + 1)) (hC : Ctr l D dA z md d m' ((st.take (k0 + 1)).reverse) V r1 V1) (hkg : 10 ≤ WW.1 g) (hl : Cond.methodLinkNest (cN (mK m)) idx (mY m') "WorldMake" ∈ lw_tbl) (hi : Cond.instanceMethod (mY m') ∈ TW) (hnm : (mY m').name = "<init>") (hrt : mR m' = none) (hd : decode (mC m) pc = .ok (.invokespecial idx, 3)) : Good p l e R s mi args below meth c Q D dA z sc md b m n0 ad0 r Vf V0 pc ls st V := by
  have hsplit := take_rev hk0 hrc
  have has0 : (st.take (k0 + 1)).reverse = xr g i :: (st.take k0).reverse := by
    have : st.take (k0 + 1) = st.take k0 ++ [xr g i] := by
      conv => lhs; rw [hsplit]
      rw [List.take_append]
      simp [Nat.min_eq_left (Nat.le_of_lt hk0)]
      rw [List.take_take, Nat.min_eq_right (Nat.le_succ k0)]
    rw [this]
    simp
  have hgk : 10 ≤ WW.1 g := by omega
  refine G_callC hsz hR hC (fun n hs => ⟨fun v hv => xnos_ok _ hno (fun v hv => hs v (List.mem_of_mem_take hv)) v (by simpa using hv), fun v hv => hs v (List.mem_of_mem_drop hv)⟩) hg hst' (fun n ad H locs lsA k1 k2 mc ms Qc h3 hs hw hS hsA hM hc1 hc2 => ?_)
  have hgi : cS sc n (xr g i) := by rw [← hrc]; exact hs _ (xget_mem st k0 hk0)
  have ha : al n g i := cS_al hgi (by omega) (by omega)
  have hmap : (((st.take (k0 + 1)).reverse).map (tv ad)).toArray = (Value.ref (ad g i) :: ((st.take k0).reverse).map (tv ad)).toArray := by
    rw [has0, List.map_cons, tv_ref h3 ha]
  have hPre := pre_of (as := (st.take (k0 + 1)).reverse) hsz hK hN hw hS
  rw [hmap] at hPre ⊢
  obtain ⟨⟨c1, c14⟩, c2, c3, c4, c5, c6⟩ := hcl
  have hstk : st.map (tv ad) = (((st.take k0).reverse).map (tv ad)).reverse ++ Value.ref (ad g i) :: (st.drop (k0 + 1)).map (tv ad) := by
    conv => lhs; rw [hsplit]
    rw [List.map_append, List.map_cons, tv_ref h3 ha, List.map_reverse, List.reverse_reverse]
  have hlen : (((st.take k0).reverse).map (tv ad)).length = npar (mY m') := by
    rw [hnp]
    simp only [List.length_map, List.length_reverse, List.length_take]
    omega
  obtain ⟨q, hq, e9⟩ := ha
  have hcd := code_TW c1
  rw [hrt] at hcd
  have hw1 : Cond.code (mY m') (mC m') (XML m') none ∈ wsM m' := by unfold wsM; rw [hrt]; exact List.mem_cons_self
  exact va_runIN (bytes := mC m') (maxL := XML m') (n := npar (mY m')) (host := "WorldMake") ⟨hx, hb, hml, hown, hts⟩ hM ⟨⟨⟨rfl, rfl, by show d + 1 ≤ R.frames; omega, by show 8 + (XML m' + 11) + 60 * d ≤ R.locals; omega, ws_pay c1 hts, hw1⟩, hts _ hcd, hts _ c3, c4, c6, va_Nw.use rfl (hN.1 _ hl rfl)⟩, hnm, hts _ hi⟩ ⟨XPre_blind _ _ _ _ _ _ _ _, hPre⟩ rfl hlen hsA hstk (lv_room (by rw [xsum_eq]; exact hrest)) hd ⟨hc1, hc2⟩
theorem G_stat {d m' idx k0 : Nat} {r1 : XS} {V1 : XM} {st' : List XS} (hx : p.tables.exec = Jvm.exec) (hb : c.code = mC m) (hml : c.maxLocals = XML m) (hown : s.vm.findClass (cN (mK m)) = some mi.cls) (hts : ∀ w ∈ TW, w.before args s = true) (hN : NWs s) (hK : va_K D vwCl (tysA dA) s) (hsz : z ≤ s.heap.size) (hR : nF md n0 Vf - n0 ≤ R.cells ∧ Sl (nF md n0 Vf) - Sl n0 ≤ R.slots) (hRf : d + 1 ≤ R.frames ∧ 60 * d + 60 ≤ R.locals) (hcl : ClOk m') (hk0 : k0 ≤ st.length) (hnp : npar (mY m') = k0) (hno : xnos (st.take k0) = true) (hrest : xsum (st.drop k0) ≤ 8) (hg : Good p l e R s mi args below meth c Q D dA z sc md b m n0 ad0 r Vf V0 (pc + 3) ls st' V1) (hst' : st' = match mR m' with | none => st.drop k0 | some _ => r1 :: st.drop k0) (hC : Ctr l D dA z md d m' ((st.take k0).reverse) V r1 V1) (hl : Cond.methodLink (cN (mK m)) idx (mY m') ∈ TW) (hi : Cond.static (mY m') ∈ TW) (hd : decode (mC m) pc = .ok (.invokestatic idx, 3)) : Good p l e R s mi args below meth c Q D dA z sc md b m n0 ad0 r Vf V0 pc ls st V := by
  refine G_callC hsz hR hC (fun n hs => ⟨fun v hv => xnos_ok _ hno (fun v hv => hs v (List.mem_of_mem_take hv)) v (by simpa using hv), fun v hv => hs v (List.mem_of_mem_drop hv)⟩) hg hst' (fun n ad H locs lsA k1 k2 mc ms Qc h3 hs hw hS hsA hM hc1 hc2 => ?_)
  have hPre := pre_of (as := (st.take k0).reverse) hsz hK hN hw hS
  obtain ⟨⟨c1, c14⟩, c2, c3, c4, c5, c6⟩ := hcl
  have hstk : st.map (tv ad) = (((st.take k0).reverse).map (tv ad)).reverse ++ (st.drop k0).map (tv ad) := by
    rw [List.map_reverse, List.reverse_reverse, ← List.map_append, List.take_append_drop]
  have hlen : (((st.take k0).reverse).map (tv ad)).length = npar (mY m') := by
    rw [hnp]
    simp only [List.length_map, List.length_reverse, List.length_take]
    omega
  exact va_runS (bytes := mC m') (maxL := XML m') (ret := mR m') (n := npar (mY m')) ⟨hx, hb, hml, hown, hts⟩ hM ⟨⟨rfl, rfl, by show d + 1 ≤ R.frames; omega, by show 8 + (XML m' + 11) + 60 * d ≤ R.locals; omega, ws_pay c1 hts, List.mem_cons_self, hts _ (code_TW c1), hts _ c3, c4, c6, hts _ hl⟩, hts _ hi⟩ ⟨XPre_blind _ _ _ _ _ _ _ _, hPre⟩ rfl hlen hsA hstk (lv_room (by rw [xsum_eq]; exact hrest)) hd ⟨hc1, hc2⟩
theorem G_statN {d m' idx k0 : Nat} {r1 : XS} {V1 : XM} {st' : List XS} (hx : p.tables.exec = Jvm.exec) (hb : c.code = mC m) (hml : c.maxLocals = XML m) (hown : s.vm.findClass (cN (mK m)) = some mi.cls) (hts : ∀ w ∈ TW, w.before args s = true) (hN : NWs s) (hK : va_K D vwCl (tysA dA) s) (hsz : z ≤ s.heap.size) (hR : nF md n0 Vf - n0 ≤ R.cells ∧ Sl (nF md n0 Vf) - Sl n0 ≤ R.slots) (hRf : d + 1 ≤ R.frames ∧ 60 * d + 60 ≤ R.locals) (hcl : ClOk m') (hk0 : k0 ≤ st.length) (hnp : npar (mY m') = k0) (hno : xnos (st.take k0) = true) (hrest : xsum (st.drop k0) ≤ 8) (hg : Good p l e R s mi args below meth c Q D dA z sc md b m n0 ad0 r Vf V0 (pc + 3) ls st' V1) (hst' : st' = match mR m' with | none => st.drop k0 | some _ => r1 :: st.drop k0) (hC : Ctr l D dA z md d m' ((st.take k0).reverse) V r1 V1) (hl : Cond.methodLinkNest (cN (mK m)) idx (mY m') "WorldMake" ∈ lw_tbl) (hi : Cond.static (mY m') ∈ TW) (hd : decode (mC m) pc = .ok (.invokestatic idx, 3)) : Good p l e R s mi args below meth c Q D dA z sc md b m n0 ad0 r Vf V0 pc ls st V := by
  refine G_callC hsz hR hC (fun n hs => ⟨fun v hv => xnos_ok _ hno (fun v hv => hs v (List.mem_of_mem_take hv)) v (by simpa using hv), fun v hv => hs v (List.mem_of_mem_drop hv)⟩) hg hst' (fun n ad H locs lsA k1 k2 mc ms Qc h3 hs hw hS hsA hM hc1 hc2 => ?_)
  have hPre := pre_of (as := (st.take k0).reverse) hsz hK hN hw hS
  obtain ⟨⟨c1, c14⟩, c2, c3, c4, c5, c6⟩ := hcl
  have hstk : st.map (tv ad) = (((st.take k0).reverse).map (tv ad)).reverse ++ (st.drop k0).map (tv ad) := by
    rw [List.map_reverse, List.reverse_reverse, ← List.map_append, List.take_append_drop]
  have hlen : (((st.take k0).reverse).map (tv ad)).length = npar (mY m') := by
    rw [hnp]
    simp only [List.length_map, List.length_reverse, List.length_take]
    omega
  exact va_runSN (bytes := mC m') (maxL := XML m') (ret := mR m') (n := npar (mY m')) (host := "WorldMake") ⟨hx, hb, hml, hown, hts⟩ hM ⟨⟨⟨rfl, rfl, by show d + 1 ≤ R.frames; omega, by show 8 + (XML m' + 11) + 60 * d ≤ R.locals; omega, ws_pay c1 hts, List.mem_cons_self⟩, hts _ (code_TW c1), hts _ c3, c4, c6, va_Nw.use rfl (hN.1 _ hl rfl)⟩, hts _ hi, trivial⟩ ⟨XPre_blind _ _ _ _ _ _ _ _, hPre⟩ rfl hlen hsA hstk (lv_room (by rw [xsum_eq]; exact hrest)) hd ⟨hc1, hc2⟩
theorem G_obj {g i idx : Nat} (hx : p.tables.exec = Jvm.exec) (hb : c.code = mC m) (hml : c.maxLocals = XML m) (hown : s.vm.findClass (cN (mK m)) = some mi.cls) (hts : ∀ w ∈ TW, w.before args s = true) (hRf : 1 ≤ R.frames ∧ 60 ≤ R.locals) (hl : Cond.methodLink (cN (mK m)) idx Lib.objectInit ∈ TW) (hrest : xsum st ≤ 8) (hd : decode (mC m) pc = .ok (.invokespecial idx, 3)) (hg : Good p l e R s mi args below meth c Q D dA z sc md b m n0 ad0 r Vf V0 (pc + 3) ls st V) : Good p l e R s mi args below meth c Q D dA z sc md b m n0 ad0 r Vf V0 pc ls (xr (g + 1) i :: st) V := by
  refine G_pure hg (fun n hl hs => (m1 hs).2) (fun n ad H locs lsA k1 k2 hl2 hs hh hlen k => ?_)
  show W p l e R s mi args below meth c H locs k1 k2 Q (F0 mi pc lsA (.ref (ad (g + 1) i) :: st.map (tv ad)))
  refine W.objInit (g := F0 mi pc lsA (.ref (ad (g + 1) i) :: st.map (tv ad))) hx hb hown (hts _ hl) (hts _ oi_1) (hts _ oi_2) rfl (by rw [hml]; exact hh.1) rfl hd hRf.1 ?_ k
  show 2 * 0 + _ + 12 ≤ _
  rw [xsum_eq]
  omega
theorem G_max {idx : Nat} {x y : Int} (hx : p.tables.exec = Jvm.exec) (hb : c.code = mC m) (hml : c.maxLocals = XML m) (hown : s.vm.findClass (cN (mK m)) = some mi.cls) (hts : ∀ w ∈ TW, w.before args s = true) (hRf : 1 ≤ R.frames ∧ 60 ≤ R.locals) (hrest : xsum st ≤ 8) (hl : Cond.methodLink (cN (mK m)) idx Lib.Math.max.name ∈ TW) (hd : decode (mC m) pc = .ok (.invokestatic idx, 3)) (hR : nF md n0 Vf - n0 ≤ R.cells ∧ Sl (nF md n0 Vf) - Sl n0 ≤ R.slots) (hg : Good p l e R s mi args below meth c Q D dA z sc md b m n0 ad0 r Vf V0 (pc + 3) ls (xi (if x < y then y else x) :: st) V) : Good p l e R s mi args below meth c Q D dA z sc md b m n0 ad0 r Vf V0 pc ls (xi y :: xi x :: st) V := by
  intro n h1 h2 h3 h4 h5 h6 h7 h8 h9
  have hy : c32 y := (m1 h7).1
  have hx1 : c32 x := (m1 (m1 h7).2).1
  have hmx : cS sc n (xi (if x < y then y else x)) := by
    show c32 _
    split
    · exact hy
    · exact hx1
  obtain ⟨a, bb⟩ := hg n h1 h2 h3 h4 h5 h6 (m2 hmx (m1 (m1 h7).2).2) h8 h9
  obtain ⟨a0, a1, a2, a3, a4, a5⟩ := id a
  have hnn : nF md n0 Vf = nF md n Vf := by
    cases md with
    | false => exact (h8 rfl).symm
    | true => rfl
  rw [hnn] at hR
  have s1 := Sl_mono a3
  refine ⟨a, fun ad H locs lsA q1 q2 q3 q4 q5 => ?_⟩
  have hr := bb ad H locs lsA q1 q2 q3 q4 q5
  refine va_mmax hx hb (by rw [hml]; exact q5.1.symm) hown (hts _ hl) (hts _ mx_1) (hts _ mx_2) (hts _ mx_3) hRf.1 (by rw [xsum_eq]; omega) (by omega) (by omega) hd ?_
  have e1 : (if Int32.ofInt x < Int32.ofInt y then Int32.ofInt y else Int32.ofInt x) = Int32.ofInt (if x < y then y else x) := by
    by_cases q : x < y
    · rw [if_pos q, if_pos ((n32_lt hx1 hy).mpr q)]
    · rw [if_neg q, if_neg (fun t => q ((n32_lt hx1 hy).mp t))]
  rw [e1]
  exact hr
end
