/-! soundness: one instruction -/
theorem ckD_ok {m : Nat} {en : XE} (h : ckD m en = true) : decode (mC m) en.1 = .ok (en.2.1, en.2.2.1) := by
  unfold ckD at h
  split at h
  · rename_i i l hd
    simp only [Bool.and_eq_true, decide_eq_true_eq] at h
    rw [hd, h.1, Nat.eq_of_beq_eq_true h.2]
  · cases h
theorem bq {a b : Nat} (h : Nat.beq a b = true) : a = b := Nat.eq_of_beq_eq_true h
theorem hasF_ok {k idx r1 r2 r3 : Nat} (h : hasF k idx r1 r2 r3 = true) : FldOk k idx r1 r2 r3 := by
  unfold hasF at h
  obtain ⟨f, hf, h2⟩ := List.any_eq_true.mp h
  obtain ⟨a, b, c, d, e⟩ := f
  simp only [Bool.and_eq_true] at h2
  obtain ⟨⟨⟨⟨q1, q2⟩, q3⟩, q4⟩, q5⟩ := h2
  have := fld_ok hf
  rw [bq q1, bq q2, bq q3, bq q4, bq q5] at this
  exact this
/-- an entry of a call's table -/
theorem hasM_ok {L : List XC} {k idx r1 r2 r3 : Nat} {c : Int} (h : hasM L k idx c r1 r2 r3 = true) : ∃ f ∈ L, f.1 = k ∧ f.2.1 = idx ∧ ((f.2.2.1 : Nat) : Int) = c ∧ f.2.2.2.1 = r1 ∧ f.2.2.2.2.1 = r2 ∧ f.2.2.2.2.2.1 = r3 := by
  unfold hasM at h
  obtain ⟨f, hf, h2⟩ := List.any_eq_true.mp h
  refine ⟨f, hf, ?_⟩
  obtain ⟨a, b, c, d, e, g, i⟩ := f
  simp only [Bool.and_eq_true, decide_eq_true_eq] at h2
  obtain ⟨⟨⟨⟨⟨q1, q2⟩, q3⟩, q4⟩, q5⟩, q6⟩ := h2
  exact ⟨bq q2, bq q1, q3, bq q4, bq q5, bq q6⟩
theorem vOk {f : XC} (hf : f ∈ MT0_l) : ClOk f.2.2.2.1 ∧ npar (mY f.2.2.2.1) + 1 = f.2.2.2.2.1 ∧ rtag (mR f.2.2.2.1) = f.2.2.2.2.2.1 ∧ mK f.2.2.2.1 < 13 ∧ f.2.2.1 = mK f.2.2.2.1 + 10 ∧ Cond.methodLink (cN f.1) f.2.1 (mY f.2.2.2.1) ∈ TW ∧ Cond.instanceMethod (mY f.2.2.2.1) ∈ TW ∧ Cond.selects (mY f.2.2.2.1).cls (mY f.2.2.2.1) (mY f.2.2.2.1) ∈ TW := by
  have h1 := List.all_eq_true.mp sM05 f hf
  unfold okV at h1
  simp only [Bool.and_eq_true] at h1
  obtain ⟨⟨⟨⟨⟨⟨⟨a1, a2⟩, a3⟩, a4⟩, a5⟩, a6⟩, a7⟩, a8⟩ := h1
  have a1 : f.2.2.2.1 < 310 := Nat.le_of_ble_eq_true a1
  have a2 : mK f.2.2.2.1 < 14 := Nat.le_of_ble_eq_true a2
  have a6 := Nat.le_of_ble_eq_true a6
  have a7 : f.2.2.1 - 10 < 13 := Nat.le_of_ble_eq_true a7
  have a8 := bq a8
  have h2 := sI7
  simp only [Bool.and_eq_true] at h2
  have h3 := List.all_eq_true.mp h2.1.1 f hf
  simp only [Bool.and_eq_true] at h3
  have h4 := wpick_map sM01 hf
  unfold wL at h4
  rw [bq a5] at h4
  exact ⟨cl_ok a1 a2, bq a3, bq a4, by omega, by omega, TW_of h4 (gw_ml _ _ _), TW_of (wpick_map sI4 (mem_all h3.1)) (gw_im _), TW_of (wpick_map sI6 (mem_all h3.2)) (gw_se _ _ _)⟩
theorem sOk {f : XC} (hf : f ∈ MT1_l) : ClOk f.2.2.2.1 ∧ npar (mY f.2.2.2.1) + 1 = f.2.2.2.2.1 ∧ mR f.2.2.2.1 = none ∧ f.2.2.2.2.2.1 = 3 ∧ 10 ≤ f.2.2.1 ∧ Cond.instanceMethod (mY f.2.2.2.1) ∈ TW ∧ (mY f.2.2.2.1).name = "<init>" ∧ (Cond.methodLink (cN f.1) f.2.1 (mY f.2.2.2.1) ∈ TW ∨ Cond.methodLinkNest (cN f.1) f.2.1 (mY f.2.2.2.1) "WorldMake" ∈ lw_tbl) := by
  have h1 := List.all_eq_true.mp sM15 f hf
  unfold okS at h1
  simp only [Bool.and_eq_true] at h1
  obtain ⟨⟨⟨⟨⟨⟨a1, a2⟩, a3⟩, a4⟩, a5⟩, a6⟩, a7⟩ := h1
  have a1 : f.2.2.2.1 < 310 := Nat.le_of_ble_eq_true a1
  have a2 : mK f.2.2.2.1 < 14 := Nat.le_of_ble_eq_true a2
  have h2 := sI7
  simp only [Bool.and_eq_true] at h2
  have h3 := List.all_eq_true.mp h2.1.2 f hf
  have h4 := wpick_map sM11 hf
  have h5 := List.map_inj_left.mp sM16 f hf
  refine ⟨cl_ok a1 a2, bq a3, by simpa using a4, bq a5, Nat.le_of_ble_eq_true a6, TW_of (wpick_map sI4 (mem_all h3)) (gw_im _), h5, ?_⟩
  unfold wL at h4
  split at h4
  · exact Or.inl (TW_of h4 (gw_ml _ _ _))
  · exact Or.inr h4
theorem tOk {f : XC} (hf : f ∈ MT2_l) : ClOk f.2.2.2.1 ∧ npar (mY f.2.2.2.1) = f.2.2.2.2.1 ∧ rtag (mR f.2.2.2.1) = f.2.2.2.2.2.1 ∧ Cond.static (mY f.2.2.2.1) ∈ TW ∧ (Cond.methodLink (cN f.1) f.2.1 (mY f.2.2.2.1) ∈ TW ∨ Cond.methodLinkNest (cN f.1) f.2.1 (mY f.2.2.2.1) "WorldMake" ∈ lw_tbl) := by
  have h1 := List.all_eq_true.mp sM25 f hf
  unfold okT at h1
  simp only [Bool.and_eq_true] at h1
  obtain ⟨⟨⟨⟨a1, a2⟩, a3⟩, a4⟩, a5⟩ := h1
  have a1 : f.2.2.2.1 < 310 := Nat.le_of_ble_eq_true a1
  have a2 : mK f.2.2.2.1 < 14 := Nat.le_of_ble_eq_true a2
  have h2 := sI7
  simp only [Bool.and_eq_true] at h2
  have h3 := List.all_eq_true.mp (of_decide_eq_true h2.2) f hf
  have h4 := wpick_map sM21 hf
  refine ⟨cl_ok a1 a2, bq a3, bq a4, TW_of (wpick_map sI5 (mem_all h3)) (gw_st _), ?_⟩
  unfold wL at h4
  split at h4
  · exact Or.inl (TW_of h4 (gw_ml _ _ _))
  · exact Or.inr h4
theorem cK_hasK {k idx : Nat} {c : Int} (h : hasK k idx c = true) : Cond.constantLong (cN k) idx (Int64.ofInt c) ∈ TW ∧ c64 c := by
  unfold hasK at h
  obtain ⟨f, hf, h2⟩ := List.any_eq_true.mp h
  simp only [Bool.and_eq_true, decide_eq_true_eq] at h2
  obtain ⟨⟨q1, q2⟩, q3⟩ := h2
  have h3 := wpick_map sK1 hf
  have h4 := List.all_eq_true.mp sK2 f hf
  unfold ck64 at h4
  simp only [Bool.and_eq_true, decide_eq_true_eq] at h4
  rw [bq q1, bq q2, q3] at h3
  rw [q3] at h4
  exact ⟨TW_of h3 (gw_kl _ _ _), h4⟩
theorem hasN_ok {k idx r1 : Nat} (h : hasN k idx r1 = true) : (10 ≤ r1 ∧ r1 - 10 < 13) ∧ Cond.classLink (cN k) idx (vcl (r1 - 10)).1 ∈ TW ∧ Cond.instantiable (vcl (r1 - 10)).1 (vcl (r1 - 10)).2.2 ∈ TW ∧ Cond.initialized (vcl (r1 - 10)).1 ∈ TW := by
  unfold hasN at h
  obtain ⟨f, hf, h2⟩ := List.any_eq_true.mp h
  simp only [Bool.and_eq_true] at h2
  obtain ⟨⟨q1, q2⟩, q3⟩ := h2
  have h3 := wpick_map sN1 hf
  have h4 := List.all_eq_true.mp sN4 f hf
  simp only [Bool.and_eq_true] at h4
  rw [bq q1, bq q2, bq q3] at h3
  rw [bq q3] at h4
  have a1 := Nat.le_of_ble_eq_true h4.1
  have a2 : r1 - 10 < 13 := Nat.le_of_ble_eq_true h4.2
  have hc := List.all_eq_true.mp sC1 (r1 - 10) (List.mem_range.mpr (by omega))
  simp only [Bool.and_eq_true] at hc
  have h5 := wpick_map sN3 (mem_all hc.2)
  have e := List.map_inj_left.mp sC2 (r1 - 10) (List.mem_range.mpr a2)
  try dsimp only at h5 e
  rw [e] at h5
  have h6 : Cond.instantiable (vcl (r1 - 10)).1 (vcl (r1 - 10)).2.2 ∈ lw_tbl := wpick_map sN2 (a := r1 - 10) ((by decide : ∀ i, i < 13 → i ∈ ([11, 0, 8, 9, 4, 1, 5, 10, 2, 3, 6, 7, 12] : List Nat)) _ a2)
  exact ⟨⟨a1, a2⟩, TW_of h3 (gw_cl _ _ _), TW_of h6 (gw_it _ _), TW_of h5 (gw_in _)⟩
theorem xmx_ok {tg : List Nat} {k r1 : Nat} (h : xmx tg k = true) (h2 : isX r1 tg = true) : k ≤ XML r1 := by
  unfold isX at h2
  split at h2
  · rw [← bq h2]
    exact Nat.le_of_ble_eq_true h
  · cases h2
theorem xsum_app : ∀ (a b : List XS), xsum (a ++ b) = xsum a + xsum b := by
  intro a b
  induction a with
  | nil => simp [xsum]
  | cons v a ih => simp only [List.cons_append, xsum, ih]; omega
theorem xsum_rev (l : List XS) : xsum l.reverse = xsum l := by
  induction l with
  | nil => rfl
  | cons v l ih => rw [List.reverse_cons, xsum_app, ih]; simp only [xsum]; omega
theorem r3_s : (MT0_l.all fun f => Nat.ble f.2.2.2.2.2.1 3) = true ∧ (MT2_l.all fun f => Nat.ble f.2.2.2.2.2.1 3) = true := by decide +kernel
theorem r3_v {f : XC} (hf : f ∈ MT0_l) : f.2.2.2.2.2.1 ≤ 3 := Nat.le_of_ble_eq_true (List.all_eq_true.mp r3_s.1 f hf)
theorem r3_t {f : XC} (hf : f ∈ MT2_l) : f.2.2.2.2.2.1 ≤ 3 := Nat.le_of_ble_eq_true (List.all_eq_true.mp r3_s.2 f hf)
theorem rt_3 {rt : Option FieldType} (h : rtag rt = 3) : rt = none := by
  cases rt with
  | none => rfl
  | some t => cases t <;> cases h
theorem rt_n {rt : Option FieldType} {k : Nat} (h : rtag rt = k) (hk : k < 3) : ∃ ty, rt = some ty := by
  cases rt with
  | none => subst h; exact absurd hk (by decide)
  | some t => exact ⟨t, rfl⟩
theorem xrk_ok {st : List XS} {r2 rk : Nat} (h : xrk WW st r2 rk = true) (hrk : 10 ≤ rk) : ∃ k0 g i, r2 = k0 + 1 ∧ xget st k0 = xr g i ∧ WW.1 g = rk := by
  cases rk with
  | zero => omega
  | succ k =>
    cases r2 with
    | zero => cases h
    | succ j =>
      simp only [xrk] at h
      split at h
      · rename_i g i hv
        exact ⟨j, g, i, rfl, hv, bq h⟩
      · cases h
theorem hasO_ok {k idx : Nat} (h : hasO MT3_l k idx = true) : Cond.methodLink (cN k) idx Lib.objectInit ∈ TW := by
  unfold hasO at h
  obtain ⟨f, hf, h2⟩ := List.any_eq_true.mp h
  simp only [Bool.and_eq_true] at h2
  have h3 := wpick_map sO1 hf
  rw [bq h2.1, bq h2.2] at h3
  exact TW_of h3 (gw_ml _ _ _)
theorem hasX_ok {k idx : Nat} (h : hasO MT4_l k idx = true) : Cond.methodLink (cN k) idx Lib.Math.max.name ∈ TW := by
  unfold hasO at h
  obtain ⟨f, hf, h2⟩ := List.any_eq_true.mp h
  simp only [Bool.and_eq_true] at h2
  have h3 := wpick_map sX1 hf
  rw [bq h2.1, bq h2.2] at h3
  exact TW_of h3 (gw_ml _ _ _)
section
variable {p : Program} {l : Launch} {e : Env} {R : Room} {s : State} {mi : MethodId} {args : Array Value} {below : List Frame} {meth : Method} {c : Code} {Q : State → Prop} {D : va_G} {dA : Nat → ClassId} {z : Nat} {sc md : Bool} {b m n0 : Nat} {ad0 : Nat → Nat → Nat} {r : XS} {Vf V0 : XM} {pc : Nat} {ls st : List XS} {V : XM} {d : Nat} {F : Nat → List XS → List XS → XM → XR} {C : Nat → List XS → XM → XR} {K : List XS → List XS → XM → XR}

set_option maxHeartbeats 4000000 in
theorem xone_sound (hcx : Cx p D dA z sc b V0 s mi args meth c m) (hm : m < 311) (hR : nF md n0 Vf - n0 ≤ R.cells ∧ Sl (nF md n0 Vf) - Sl n0 ≤ R.slots) (hRf : d + 1 ≤ R.frames ∧ 60 * d + 60 ≤ R.locals) (hend : Hend p l e R s mi args below meth c Q D dA z sc md m n0 ad0 r Vf) {en : XE} (hck : ckD m en = true) (hce : ckE m en = true) (hF : ∀ t ls st V, F t ls st V = some (r, Vf) → Good p l e R s mi args below meth c Q D dA z sc md b m n0 ad0 r Vf V0 t ls st V) (hK : ∀ ls st V, K ls st V = some (r, Vf) → Good p l e R s mi args below meth c Q D dA z sc md b m n0 ad0 r Vf V0 (en.1 + en.2.2.1) ls st V) (hC : ∀ m' as V r1 V1, ClOk m' → xsum as ≤ XML m' → C m' as V = some (r1, V1) → Ctr l D dA z md d m' as V r1 V1) (h : xone WW md F C K en ls st V = some (r, Vf)) : Good p l e R s mi args below meth c Q D dA z sc md b m n0 ad0 r Vf V0 en.1 ls st V := by
  obtain ⟨hx, hb, hr, hml, hown, hts, hN, hKK, hlocks, hin, hsz, hsc⟩ := hcx
  have hd := ckD_ok hck
  obtain ⟨pc, ins, len, c0, r1, r2, r3, tg⟩ := en
  simp only [xone] at h
  dsimp only at hd hK ⊢
  cases ins
  case iadd =>
    have hl : len = 1 := bq hce
    subst hl
    simp only [xins, o_i2] at h
    split at h
    · exact G_iadd hx hb hd (hK _ _ _ h)
    · cases h
  case isub =>
    have hl : len = 1 := bq hce
    subst hl
    simp only [xins, o_i2] at h
    split at h
    · exact G_isub hx hb hd (hK _ _ _ h)
    · cases h
  case imul =>
    have hl : len = 1 := bq hce
    subst hl
    simp only [xins, o_i2] at h
    split at h
    · exact G_imul hx hb hd (hK _ _ _ h)
    · cases h
  case iand =>
    have hl : len = 1 := bq hce
    subst hl
    simp only [xins, o_i2] at h
    split at h
    · exact G_iand hx hb hd (hK _ _ _ h)
    · cases h
  case ior =>
    have hl : len = 1 := bq hce
    subst hl
    simp only [xins, o_i2] at h
    split at h
    · exact G_ior hx hb hd (hK _ _ _ h)
    · cases h
  case ixor =>
    have hl : len = 1 := bq hce
    subst hl
    simp only [xins, o_i2] at h
    split at h
    · exact G_ixor hx hb hd (hK _ _ _ h)
    · cases h
  case ladd =>
    have hl : len = 1 := bq hce
    subst hl
    simp only [xins, o_l2] at h
    split at h
    · exact G_ladd hx hb hd (hK _ _ _ h)
    · cases h
  case lsub =>
    have hl : len = 1 := bq hce
    subst hl
    simp only [xins, o_l2] at h
    split at h
    · exact G_lsub hx hb hd (hK _ _ _ h)
    · cases h
  case lmul =>
    have hl : len = 1 := bq hce
    subst hl
    simp only [xins, o_l2] at h
    split at h
    · exact G_lmul hx hb hd (hK _ _ _ h)
    · cases h
  case land =>
    have hl : len = 1 := bq hce
    subst hl
    simp only [xins, o_l2] at h
    split at h
    · exact G_land hx hb hd (hK _ _ _ h)
    · cases h
  case lor =>
    have hl : len = 1 := bq hce
    subst hl
    simp only [xins, o_l2] at h
    split at h
    · exact G_lor hx hb hd (hK _ _ _ h)
    · cases h
  case lxor =>
    have hl : len = 1 := bq hce
    subst hl
    simp only [xins, o_l2] at h
    split at h
    · exact G_lxor hx hb hd (hK _ _ _ h)
    · cases h
  case ineg =>
    have hl : len = 1 := bq hce
    subst hl
    simp only [xins, o_i1] at h
    split at h
    · exact G_ineg hx hb hd (hK _ _ _ h)
    · cases h
  case i2b =>
    have hl : len = 1 := bq hce
    subst hl
    simp only [xins, o_i1] at h
    split at h
    · exact G_i2b hx hb hd (hK _ _ _ h)
    · cases h
  case i2s =>
    have hl : len = 1 := bq hce
    subst hl
    simp only [xins, o_i1] at h
    split at h
    · exact G_i2s hx hb hd (hK _ _ _ h)
    · cases h
  case i2c =>
    have hl : len = 1 := bq hce
    subst hl
    simp only [xins, o_i1] at h
    split at h
    · exact G_i2c hx hb hd (hK _ _ _ h)
    · cases h
  case lshl =>
    have hl : len = 1 := bq hce
    subst hl
    simp only [xins, o_lsh] at h
    split at h
    · exact G_lshl hx hb hd (hK _ _ _ h)
    · cases h
  case lushr =>
    have hl : len = 1 := bq hce
    subst hl
    simp only [xins, o_lsh] at h
    split at h
    · exact G_lushr hx hb hd (hK _ _ _ h)
    · cases h
  case lcmp =>
    have hl : len = 1 := bq hce
    subst hl
    simp only [xins, o_lcmp] at h
    split at h
    · exact G_lcmp hx hb hd (hK _ _ _ h)
    · cases h
  case i2l =>
    have hl : len = 1 := bq hce
    subst hl
    simp only [xins, o_i2l] at h
    split at h
    · exact G_i2l hx hb hd (hK _ _ _ h)
    · cases h
  case l2i =>
    have hl : len = 1 := bq hce
    subst hl
    simp only [xins, o_l2i] at h
    split at h
    · exact G_l2i hx hb hd (hK _ _ _ h)
    · cases h
  case l2f =>
    have hl : len = 1 := bq hce
    subst hl
    simp only [xins, o_l2f] at h
    split at h
    · exact G_l2f hx hb hd (hK _ _ _ h)
    · cases h
  case l2d =>
    have hl : len = 1 := bq hce
    subst hl
    simp only [xins, o_l2d] at h
    split at h
    · exact G_l2d hx hb hd (hK _ _ _ h)
    · cases h
  case f2l =>
    have hl : len = 1 := bq hce
    subst hl
    simp only [xins, o_f2l] at h
    split at h
    · exact G_f2l hx hb hd (hK _ _ _ h)
    · cases h
  case d2l =>
    have hl : len = 1 := bq hce
    subst hl
    simp only [xins, o_d2l] at h
    split at h
    · exact G_d2l hx hb hd (hK _ _ _ h)
    · cases h
  case pop =>
    have hl : len = 1 := bq hce
    subst hl
    simp only [xins, o_pop] at h
    split at h
    · exact G_pop hx hb hd (hK _ _ _ h)
    · cases h
  case dup2 =>
    have hl : len = 1 := bq hce
    subst hl
    simp only [xins, o_dup2] at h
    split at h
    · exact G_dup2 hx hb hd (hK _ _ _ h)
    · cases h
  case dup_x1 =>
    have hl : len = 1 := bq hce
    subst hl
    simp only [xins, o_dupx] at h
    split at h
    · exact G_dup_x1 hx hb hd (hK _ _ _ h)
    · cases h
  case dcmp op =>
    have hl : len = 1 := bq hce
    subst hl
    simp only [xins, o_dcmp] at h
    split at h
    · exact G_dcmp hx hb hd (hK _ _ _ h)
    · cases h
  case idiv =>
    have hl : len = 1 := bq hce
    subst hl
    simp only [xins, o_div] at h
    split at h
    · split at h
      · cases h
      · rename_i hy
        exact G_idiv hx hb hy hd (hK _ _ _ h)
    · cases h
  case irem =>
    have hl : len = 1 := bq hce
    subst hl
    simp only [xins, o_div] at h
    split at h
    · split at h
      · cases h
      · rename_i hy
        exact G_irem hx hb hy hd (hK _ _ _ h)
    · cases h
  case ldiv =>
    have hl : len = 1 := bq hce
    subst hl
    simp only [xins, o_ldiv] at h
    split at h
    · split at h
      · cases h
      · rename_i hy
        exact G_ldiv hx hb hy hd (hK _ _ _ h)
    · cases h
  case f2d =>
    have hl : len = 1 := bq hce
    subst hl
    simp only [xins, o_f2d] at h
    split at h
    · split at h
      · rename_i hn
        exact G_f2d hx hb hn hd (hK _ _ _ h)
      · cases h
    · cases h
  case dup =>
    have hl : len = 1 := bq hce
    subst hl
    simp only [xins, o_dup] at h
    split at h
    · exact G_dup_i hx hb hd (hK _ _ _ h)
    · exact G_dup_r hx hb hd (hK _ _ _ h)
    · cases h
  case iconst k0 =>
    simp only [ckE, Bool.and_eq_true, decide_eq_true_eq] at hce
    obtain ⟨⟨q1, q2⟩, q3⟩ := hce
    have q3 := bq q3
    subst q3
    subst q1
    unfold ck32 at q2
    simp only [Bool.and_eq_true, decide_eq_true_eq] at q2
    exact G_iconst hx hb q2 hd (hK _ _ _ h)
  case bipush k0 =>
    simp only [ckE, Bool.and_eq_true, decide_eq_true_eq] at hce
    obtain ⟨⟨⟨q1, q2⟩, q4⟩, q3⟩ := hce
    have q3 := bq q3
    subst q3
    subst q1
    exact G_bipush hx hb ⟨q2, q4⟩ hd (hK _ _ _ h)
  case sipush k0 =>
    simp only [ckE, Bool.and_eq_true, decide_eq_true_eq] at hce
    obtain ⟨⟨⟨q1, q2⟩, q4⟩, q3⟩ := hce
    have q3 := bq q3
    subst q3
    subst q1
    exact G_sipush hx hb ⟨q2, q4⟩ hd (hK _ _ _ h)
  case lconst k0 =>
    simp only [ckE, Bool.and_eq_true, decide_eq_true_eq] at hce
    obtain ⟨q1, q3⟩ := hce
    have q3 := bq q3
    subst q3
    subst q1
    exact G_lconst hx hb hd (hK _ _ _ h)
  case dconst k0 =>
    simp only [ckE, Bool.and_eq_true, decide_eq_true_eq] at hce
    obtain ⟨⟨q1, q2⟩, q3⟩ := hce
    have q3 := bq q3
    subst q3
    subst q2
    have q1 : k0 = 0 := Fin.ext (bq q1)
    subst q1
    exact G_dconst hx hb hd (hK _ _ _ h)
  case ldc2_w idx =>
    simp only [ckE, Bool.and_eq_true] at hce
    obtain ⟨q1, q3⟩ := hce
    have q3 := bq q3
    subst q3
    obtain ⟨w1, w2⟩ := cK_hasK q1
    exact G_ldc2 hx hb hown (hts _ w1) w2 hd (hK _ _ _ h)
  case iload k0 =>
    simp only [ckE, Bool.and_eq_true] at hce
    obtain ⟨q1, q3⟩ := hce
    have q3 := bq q3
    subst q3
    have q1 := bq q1
    subst q1
    simp only [xins, o_il] at h
    split at h
    · rename_i hv
      exact G_iload hx hb hv hd (hK _ _ _ h)
    · cases h
  case iload_n k0 =>
    simp only [ckE, Bool.and_eq_true] at hce
    obtain ⟨q1, q3⟩ := hce
    have q3 := bq q3
    subst q3
    have q1 := bq q1
    simp only [xins, o_il] at h
    split at h
    · rename_i hv
      exact G_iload_n q1 hx hb hv hd (hK _ _ _ h)
    · cases h
  case lload k0 =>
    simp only [ckE, Bool.and_eq_true] at hce
    obtain ⟨q1, q3⟩ := hce
    have q3 := bq q3
    subst q3
    have q1 := bq q1
    subst q1
    simp only [xins, o_ll] at h
    split at h
    · rename_i hv
      exact G_lload hx hb hv hd (hK _ _ _ h)
    · cases h
  case lload_n k0 =>
    simp only [ckE, Bool.and_eq_true] at hce
    obtain ⟨q1, q3⟩ := hce
    have q3 := bq q3
    subst q3
    have q1 := bq q1
    simp only [xins, o_ll] at h
    split at h
    · rename_i hv
      exact G_lload_n q1 hx hb hv hd (hK _ _ _ h)
    · cases h
  case aload k0 =>
    simp only [ckE, Bool.and_eq_true] at hce
    obtain ⟨q1, q3⟩ := hce
    have q3 := bq q3
    subst q3
    have q1 := bq q1
    subst q1
    simp only [xins, o_al] at h
    split at h
    · rename_i g i hv
      split at h
      · cases h
      · exact G_aload hx hb hv hd (hK _ _ _ h)
    · cases h
  case aload_n k0 =>
    simp only [ckE, Bool.and_eq_true] at hce
    obtain ⟨q1, q3⟩ := hce
    have q3 := bq q3
    subst q3
    have q1 := bq q1
    simp only [xins, o_al] at h
    split at h
    · rename_i g i hv
      split at h
      · cases h
      · exact G_aload_n q1 hx hb hv hd (hK _ _ _ h)
    · cases h
  case istore k0 =>
    simp only [ckE, Bool.and_eq_true] at hce
    obtain ⟨⟨q1, q3⟩, q4⟩ := hce
    have q3 := bq q3
    subst q3
    have q1 := bq q1
    have q4 := Nat.le_of_ble_eq_true q4
    subst q1
    simp only [xins, o_is, xsetK_eq] at h
    split at h
    · obtain ⟨ok, h⟩ := xif_some h
      exact G_istore hx hb q4 ok hd (hK _ _ _ h)
    · cases h
  case istore_n k0 =>
    simp only [ckE, Bool.and_eq_true] at hce
    obtain ⟨⟨q1, q3⟩, q4⟩ := hce
    have q3 := bq q3
    subst q3
    have q1 := bq q1
    have q4 := Nat.le_of_ble_eq_true q4
    simp only [xins, o_is, xsetK_eq] at h
    split at h
    · obtain ⟨ok, h⟩ := xif_some h
      exact G_istore_n q1 hx hb q4 ok hd (hK _ _ _ h)
    · cases h
  case lstore k0 =>
    simp only [ckE, Bool.and_eq_true] at hce
    obtain ⟨⟨q1, q3⟩, q4⟩ := hce
    have q3 := bq q3
    subst q3
    have q1 := bq q1
    have q4 := Nat.le_of_ble_eq_true q4
    subst q1
    simp only [xins, o_ls, xsetK_eq] at h
    split at h
    · obtain ⟨ok, h⟩ := xif_some h
      exact G_lstore hx hb q4 ok hd (hK _ _ _ h)
    · cases h
  case lstore_n k0 =>
    simp only [ckE, Bool.and_eq_true] at hce
    obtain ⟨⟨q1, q3⟩, q4⟩ := hce
    have q3 := bq q3
    subst q3
    have q1 := bq q1
    have q4 := Nat.le_of_ble_eq_true q4
    simp only [xins, o_ls, xsetK_eq] at h
    split at h
    · obtain ⟨ok, h⟩ := xif_some h
      exact G_lstore_n q1 hx hb q4 ok hd (hK _ _ _ h)
    · cases h
  case astore k0 =>
    simp only [ckE, Bool.and_eq_true] at hce
    obtain ⟨⟨q1, q3⟩, q4⟩ := hce
    have q3 := bq q3
    subst q3
    have q1 := bq q1
    have q4 := Nat.le_of_ble_eq_true q4
    subst q1
    simp only [xins, o_as, xsetK_eq] at h
    split at h
    · split at h
      · cases h
      · obtain ⟨ok, h⟩ := xif_some h
        exact G_astore (by omega) hx hb q4 ok hd (hK _ _ _ h)
    · cases h
  case astore_n k0 =>
    simp only [ckE, Bool.and_eq_true] at hce
    obtain ⟨⟨q1, q3⟩, q4⟩ := hce
    have q3 := bq q3
    subst q3
    have q1 := bq q1
    have q4 := Nat.le_of_ble_eq_true q4
    simp only [xins, o_as, xsetK_eq] at h
    split at h
    · split at h
      · cases h
      · obtain ⟨ok, h⟩ := xif_some h
        exact G_astore_n q1 (by omega) hx hb q4 ok hd (hK _ _ _ h)
    · cases h
  case iinc k0 n =>
    simp only [ckE, Bool.and_eq_true, decide_eq_true_eq] at hce
    obtain ⟨⟨⟨q1, q2⟩, q3⟩, q4⟩ := hce
    have q3 := bq q3
    subst q3
    have q1 := bq q1
    subst q1
    subst q2
    have q4 := Nat.le_of_ble_eq_true q4
    simp only [xins, o_inc, xsetK_eq] at h
    split at h
    · rename_i hv
      obtain ⟨ok, h⟩ := xif_some h
      exact G_iinc hx hb q4 ok hv hd (hK _ _ _ h)
    · cases h
  case goto off =>
    simp only [ckE, Bool.and_eq_true, decide_eq_true_eq] at hce
    obtain ⟨q1, q3⟩ := hce
    have q3 := bq q3
    subst q3
    exact G_goto hx hb hd q1 (hF _ _ _ _ h)
  case ifCond cnd off =>
    simp only [ckE, Bool.and_eq_true, decide_eq_true_eq] at hce
    obtain ⟨q1, q3⟩ := hce
    have q3 := bq q3
    subst q3
    cases cnd
    case eq => 
      simp only [xins, o_ifeq] at h
      split at h
      · exact G_ifeq hx hb hd q1 (fun t => hF _ _ _ _ (by rw [if_pos t] at h; exact h)) (fun t => hK _ _ _ (by rw [if_neg t] at h; exact h))
      · cases h
    case ne => 
      simp only [xins, o_ifne] at h
      split at h
      · exact G_ifne hx hb hd q1 (fun t => hK _ _ _ (by rw [if_pos t] at h; exact h)) (fun t => hF _ _ _ _ (by rw [if_neg t] at h; exact h))
      · cases h
    case lt => 
      simp only [xins, o_iflt] at h
      split at h
      · exact G_iflt hx hb hd q1 (fun t => hF _ _ _ _ (by rw [if_pos t] at h; exact h)) (fun t => hK _ _ _ (by rw [if_neg t] at h; exact h))
      · cases h
    case ge => 
      simp only [xins, o_ifge] at h
      split at h
      · exact G_ifge hx hb hd q1 (fun t => hK _ _ _ (by rw [if_pos t] at h; exact h)) (fun t => hF _ _ _ _ (by rw [if_neg t] at h; exact h))
      · cases h
    case gt => 
      simp only [xins, o_ifgt] at h
      split at h
      · exact G_ifgt hx hb hd q1 (fun t => hF _ _ _ _ (by rw [if_pos t] at h; exact h)) (fun t => hK _ _ _ (by rw [if_neg t] at h; exact h))
      · cases h
    case le => 
      simp only [xins, o_ifle] at h
      split at h
      · exact G_ifle hx hb hd q1 (fun t => hK _ _ _ (by rw [if_pos t] at h; exact h)) (fun t => hF _ _ _ _ (by rw [if_neg t] at h; exact h))
      · cases h
  case if_icmp cnd off =>
    simp only [ckE, Bool.and_eq_true, decide_eq_true_eq] at hce
    obtain ⟨q1, q3⟩ := hce
    have q3 := bq q3
    subst q3
    cases cnd
    case eq => 
      simp only [xins, o_iceq] at h
      split at h
      · exact G_iceq hx hb hd q1 (fun t => hF _ _ _ _ (by rw [if_pos t] at h; exact h)) (fun t => hK _ _ _ (by rw [if_neg t] at h; exact h))
      · cases h
    case ne => 
      simp only [xins, o_icne] at h
      split at h
      · exact G_icne hx hb hd q1 (fun t => hK _ _ _ (by rw [if_pos t] at h; exact h)) (fun t => hF _ _ _ _ (by rw [if_neg t] at h; exact h))
      · cases h
    case lt => 
      simp only [xins, o_iclt] at h
      split at h
      · exact G_iclt hx hb hd q1 (fun t => hF _ _ _ _ (by rw [if_pos t] at h; exact h)) (fun t => hK _ _ _ (by rw [if_neg t] at h; exact h))
      · cases h
    case ge => 
      simp only [xins, o_icge] at h
      split at h
      · exact G_icge hx hb hd q1 (fun t => hK _ _ _ (by rw [if_pos t] at h; exact h)) (fun t => hF _ _ _ _ (by rw [if_neg t] at h; exact h))
      · cases h
    case gt => 
      simp only [xins, o_icgt] at h
      split at h
      · exact G_icgt hx hb hd q1 (fun t => hF _ _ _ _ (by rw [if_pos t] at h; exact h)) (fun t => hK _ _ _ (by rw [if_neg t] at h; exact h))
      · cases h
    case le => 
      simp only [xins, o_icle] at h
      split at h
      · exact G_icle hx hb hd q1 (fun t => hK _ _ _ (by rw [if_pos t] at h; exact h)) (fun t => hF _ _ _ _ (by rw [if_neg t] at h; exact h))
      · cases h
  case getfield idx =>
    simp only [ckE, Bool.and_eq_true] at hce
    obtain ⟨q1, q3⟩ := hce
    have q3 := bq q3
    subst q3
    have hf := hasF_ok q1
    simp only [xins, o_gf] at h
    split at h
    · obtain ⟨ok, h⟩ := xif_some h
      have ok := bq ok
      split at h
      · exact G_getI hx hb hown hts hKK hf ok hd (hK _ _ _ h)
      · split at h
        · split at h
          · rename_i hv
            exact G_getR hx hb hown hts hKK hf ok (Or.inr hv) hd (hK _ _ _ h)
          · cases h
        · exact G_getR hx hb hown hts hKK hf ok (Or.inl rfl) hd (hK _ _ _ h)
    · cases h
  case putfield idx =>
    simp only [ckE, Bool.and_eq_true, Bool.or_eq_true, Bool.not_eq_true'] at hce
    obtain ⟨⟨q1, q3⟩, q4⟩ := hce
    have q3 := bq q3
    subst q3
    have hf := hasF_ok q1
    simp only [xins, o_pf] at h
    split at h
    · split at h
      · obtain ⟨ok, h⟩ := xif_some h
        exact G_putI hx hb hown hts hKK hf (bq ok) hd (hK _ _ _ h)
      · cases h
    · split at h
      · obtain ⟨ok1, h⟩ := xif_some h
        obtain ⟨ok, h⟩ := xif_some h
        split at h
        · rename_i hv
          have q5 : mN m = true ∧ r1 - 10 = mK m := by
            rcases q4 with q4 | q4
            · have := hf.2.2.2.2.2.2.mp q4
              omega
            · exact ⟨q4.1, bq q4.2⟩
          exact G_putR hx hb ok1 (hin q5.1) hown hts hKK hf (by rw [q5.2]; exact (List.map_inj_left.mp sC2 (mK m) (List.mem_range.mpr (by rw [← q5.2]; exact hf.2.1))).symm) (bq ok) hv hd (hK _ _ _ h)
        · cases h
      · cases h
  case baload =>
    have hl : len = 1 := bq hce
    subst hl
    simp only [xins, o_bald, xload] at h
    split at h
    · obtain ⟨ok, h⟩ := xif_some h
      split at h
      · rename_i hj
        exact G_bald hx hb hKK (bq ok) hj hd (hK _ _ _ h)
      · cases h
    · cases h
  case laload =>
    have hl : len = 1 := bq hce
    subst hl
    simp only [xins, o_lald, xload] at h
    split at h
    · obtain ⟨ok, h⟩ := xif_some h
      split at h
      · rename_i hj
        exact G_lald hx hb hKK (bq ok) hj hd (hK _ _ _ h)
      · cases h
    · cases h
  case daload =>
    have hl : len = 1 := bq hce
    subst hl
    simp only [xins, o_dald, xload] at h
    split at h
    · obtain ⟨ok, h⟩ := xif_some h
      split at h
      · rename_i hj
        exact G_dald hx hb hKK (bq ok) hj hd (hK _ _ _ h)
      · cases h
    · cases h
  case iastore =>
    have hl : len = 1 := bq hce
    subst hl
    simp only [xins, o_iast, xload] at h
    split at h
    · obtain ⟨ok, h⟩ := xif_some h
      split at h
      · rename_i hj
        exact G_iast hx hb hKK (bq ok) hj hd (hK _ _ _ h)
      · cases h
    · cases h
  case bastore =>
    have hl : len = 1 := bq hce
    subst hl
    simp only [xins, o_bast, xload] at h
    split at h
    · obtain ⟨ok, h⟩ := xif_some h
      split at h
      · rename_i hj
        exact G_bast hx hb hKK (bq ok) hj hd (hK _ _ _ h)
      · cases h
    · cases h
  case lastore =>
    have hl : len = 1 := bq hce
    subst hl
    simp only [xins, o_last, xload] at h
    split at h
    · obtain ⟨ok, h⟩ := xif_some h
      split at h
      · rename_i hj
        exact G_last hx hb hKK (bq ok) hj hd (hK _ _ _ h)
      · cases h
    · cases h
  case dastore =>
    have hl : len = 1 := bq hce
    subst hl
    simp only [xins, o_dast, xload] at h
    split at h
    · obtain ⟨ok, h⟩ := xif_some h
      split at h
      · rename_i hj
        exact G_dast hx hb hKK (bq ok) hj hd (hK _ _ _ h)
      · cases h
    · cases h
  case iaload =>
    have hl : len = 1 := bq hce
    subst hl
    simp only [xins, o_iald, xload] at h
    split at h
    · split at h
      · split at h
        · rename_i hj
          exact G_sld hx hb hsz hsc hj hd (hK _ _ _ h)
        · cases h
      · obtain ⟨ok, h⟩ := xif_some h
        split at h
        · rename_i hj
          exact G_iald hx hb hKK (bq ok) hj hd (hK _ _ _ h)
        · cases h
    · cases h
  case arraylength =>
    have hl : len = 1 := bq hce
    subst hl
    simp only [xins, o_alen] at h
    split at h
    · exact G_slen hx hb hsz hsc hd (hK _ _ _ h)
    · cases h
  case aaload =>
    simp only [ckE, Bool.and_eq_true, Bool.or_eq_true] at hce
    obtain ⟨q1, q3⟩ := hce
    have q3 := bq q3
    subst q3
    rcases q1 with q1 | q1
    · skip
      have q1 := bq q1
      subst q1
      simp only [xins, o_aald, xload] at h
      split at h
      · obtain ⟨ok, h2⟩ := xif_some h
        have ok := bq ok
        split at h2
        · rename_i hj
          split at h2
          · split at h2
            · rename_i hv
              exact G_aald5 hx hb hKK ok hj (Or.inr hv) hd (hK _ _ _ h2)
            · cases h2
          · exact G_aald5 hx hb hKK ok hj (Or.inl rfl) hd (hK _ _ _ h2)
        · cases h2
      · cases h
    · skip
      have q1 := bq q1
      subst q1
      simp only [xins, o_aald, xload] at h
      split at h
      · obtain ⟨ok, h2⟩ := xif_some h
        have ok := bq ok
        split at h2
        · rename_i hj
          split at h2
          · split at h2
            · rename_i hv
              exact G_aald6 hx hb hKK ok hj (Or.inr hv) hd (hK _ _ _ h2)
            · cases h2
          · exact G_aald6 hx hb hKK ok hj (Or.inl rfl) hd (hK _ _ _ h2)
        · cases h2
      · cases h
  case aastore =>
    simp only [ckE, Bool.and_eq_true, Bool.or_eq_true] at hce
    obtain ⟨q1, q3⟩ := hce
    have q3 := bq q3
    subst q3
    rcases q1 with q1 | q1
    · skip
      obtain ⟨e1, e2⟩ := q1
      have e1 := bq e1
      have e2 := bq e2
      subst e1
      subst e2
      simp only [xins, o_aast, xload] at h
      split at h
      · obtain ⟨ok1, h2⟩ := xif_some h
        obtain ⟨ok, h3⟩ := xif_some h2
        have ok := bq ok
        split at h3
        · rename_i hj
          split at h3
          · rename_i hv
            exact G_aast5 hx hb ok1 hKK ok hj hv hd (hK _ _ _ h3)
          · cases h3
        · cases h3
      · cases h
    · skip
      obtain ⟨e1, e2⟩ := q1
      have e1 := bq e1
      have e2 := bq e2
      subst e1
      subst e2
      simp only [xins, o_aast, xload] at h
      split at h
      · obtain ⟨ok1, h2⟩ := xif_some h
        obtain ⟨ok, h3⟩ := xif_some h2
        have ok := bq ok
        split at h3
        · rename_i hj
          split at h3
          · rename_i hv
            exact G_aast6 hx hb ok1 hKK ok hj hv hd (hK _ _ _ h3)
          · cases h3
        · cases h3
      · cases h
  case new idx =>
    simp only [ckE, Bool.and_eq_true] at hce
    obtain ⟨q1, q3⟩ := hce
    have q3 := bq q3
    subst q3
    obtain ⟨w1, w2, w3, w4⟩ := hasN_ok q1
    simp only [xins, o_new] at h
    obtain ⟨ok1, h⟩ := xif_some h
    simp only [xnew] at h
    obtain ⟨n1, h⟩ := xif_some h
    obtain ⟨n2, h⟩ := xif_some h
    obtain ⟨n3, h⟩ := xif_some h
    have n1 : (V 0 0 0).toNat < 155 := Nat.le_of_ble_eq_true n1
    have n2 := bq n2
    have n3 := of_decide_eq_true n3
    exact G_new hx hb ok1 hR hown hts hKK hsz w1 w2 w3 w4 n1 rfl n2 hd (hK _ _ _ h)
  case newarray at0 =>
    cases at0
    case int =>
      simp only [ckE, Bool.and_eq_true] at hce
      obtain ⟨q1, q3⟩ := hce
      have q3 := bq q3
      subst q3
      have q1 := bq q1
      subst q1
      simp only [xins, o_newa] at h
      split at h
      · obtain ⟨ok1, h⟩ := xif_some h
        simp only [xnew] at h
        obtain ⟨n1, h⟩ := xif_some h
        obtain ⟨n2, h⟩ := xif_some h
        obtain ⟨n3, h⟩ := xif_some h
        have n1 : (V 0 0 0).toNat < 155 := Nat.le_of_ble_eq_true n1
        have n2 := bq n2
        have n3 := of_decide_eq_true n3
        exact G_newa_int hx hb ok1 hR hts hKK hsz n1 rfl n2 n3 hd (hK _ _ _ h)
      · cases h
    case long =>
      simp only [ckE, Bool.and_eq_true] at hce
      obtain ⟨q1, q3⟩ := hce
      have q3 := bq q3
      subst q3
      have q1 := bq q1
      subst q1
      simp only [xins, o_newa] at h
      split at h
      · obtain ⟨ok1, h⟩ := xif_some h
        simp only [xnew] at h
        obtain ⟨n1, h⟩ := xif_some h
        obtain ⟨n2, h⟩ := xif_some h
        obtain ⟨n3, h⟩ := xif_some h
        have n1 : (V 0 0 0).toNat < 155 := Nat.le_of_ble_eq_true n1
        have n2 := bq n2
        have n3 := of_decide_eq_true n3
        exact G_newa_long hx hb ok1 hR hts hKK hsz n1 rfl n2 n3 hd (hK _ _ _ h)
      · cases h
    case boolean =>
      simp only [ckE, Bool.and_eq_true] at hce
      obtain ⟨q1, q3⟩ := hce
      have q3 := bq q3
      subst q3
      have q1 := bq q1
      subst q1
      simp only [xins, o_newa] at h
      split at h
      · obtain ⟨ok1, h⟩ := xif_some h
        simp only [xnew] at h
        obtain ⟨n1, h⟩ := xif_some h
        obtain ⟨n2, h⟩ := xif_some h
        obtain ⟨n3, h⟩ := xif_some h
        have n1 : (V 0 0 0).toNat < 155 := Nat.le_of_ble_eq_true n1
        have n2 := bq n2
        have n3 := of_decide_eq_true n3
        exact G_newa_bool hx hb ok1 hR hts hKK hsz n1 rfl n2 n3 hd (hK _ _ _ h)
      · cases h
    case double =>
      simp only [ckE, Bool.and_eq_true] at hce
      obtain ⟨q1, q3⟩ := hce
      have q3 := bq q3
      subst q3
      have q1 := bq q1
      subst q1
      simp only [xins, o_newa] at h
      split at h
      · obtain ⟨ok1, h⟩ := xif_some h
        simp only [xnew] at h
        obtain ⟨n1, h⟩ := xif_some h
        obtain ⟨n2, h⟩ := xif_some h
        obtain ⟨n3, h⟩ := xif_some h
        have n1 : (V 0 0 0).toNat < 155 := Nat.le_of_ble_eq_true n1
        have n2 := bq n2
        have n3 := of_decide_eq_true n3
        exact G_newa_dbl hx hb ok1 hR hts hKK hsz n1 rfl n2 n3 hd (hK _ _ _ h)
      · cases h
    all_goals (simp only [ckE] at hce; cases hce)
  case anewarray idx =>
    simp only [ckE, Bool.and_eq_true, Bool.or_eq_true] at hce
    obtain ⟨q1, q3⟩ := hce
    have q3 := bq q3
    subst q3
    rcases q1 with q1 | q1
    · skip
      obtain ⟨e1, e2⟩ := q1
      have e1 := bq e1
      subst e1
      obtain ⟨w1, w2, w3, w4⟩ := hasN_ok e2
      simp only [xins, o_newa] at h
      split at h
      · obtain ⟨ok1, h⟩ := xif_some h
        simp only [xnew] at h
        obtain ⟨n1, h⟩ := xif_some h
        obtain ⟨n2, h⟩ := xif_some h
        obtain ⟨n3, h⟩ := xif_some h
        have n1 : (V 0 0 0).toNat < 155 := Nat.le_of_ble_eq_true n1
        have n2 := bq n2
        have n3 := of_decide_eq_true n3
        exact G_newq5 hx hb ok1 hR hown hts hN.2.1 hKK hsz w2 n1 rfl n2 n3 hd (hK _ _ _ h)
      · cases h
    · skip
      obtain ⟨e1, e2⟩ := q1
      have e1 := bq e1
      subst e1
      obtain ⟨w1, w2, w3, w4⟩ := hasN_ok e2
      simp only [xins, o_newa] at h
      split at h
      · obtain ⟨ok1, h⟩ := xif_some h
        simp only [xnew] at h
        obtain ⟨n1, h⟩ := xif_some h
        obtain ⟨n2, h⟩ := xif_some h
        obtain ⟨n3, h⟩ := xif_some h
        have n1 : (V 0 0 0).toNat < 155 := Nat.le_of_ble_eq_true n1
        have n2 := bq n2
        have n3 := of_decide_eq_true n3
        exact G_newq6 hx hb ok1 hR hown hts hN.2.2 hKK hsz w2 n1 rfl n2 n3 hd (hK _ _ _ h)
      · cases h
  case tableswitch dflt lo hi offs =>
    simp only [ckE, Bool.and_eq_true, decide_eq_true_eq] at hce
    obtain ⟨⟨⟨⟨q1, q2⟩, q3⟩, q4⟩, q5⟩ := hce
    subst q1
    simp only [xins, o_sw] at h
    split at h
    · rcases xsw_cases _ _ h with ⟨k0, t, h1, h2, h3⟩ | ⟨h1, h2⟩
      · have hlt : k0 < tg.length := (List.getElem?_eq_some_iff.mp h1).1
        have e1 : (offs.toList.map (fun o => (pc : Int) + o))[k0]? = (tg.map (fun (t : Nat) => (t : Int)))[k0]? := by rw [q5]
        rw [List.getElem?_map, List.getElem?_map, h1] at e1
        cases ho : offs.toList[k0]? with
        | none => rw [ho] at e1; cases e1
        | some off =>
          rw [ho] at e1
          simp only [Option.map_some, Option.some.injEq] at e1
          exact G_swIn hx hb hd h2 (by omega) (by rw [← Array.getElem?_toList]; exact ho) e1 (hF _ _ _ _ h3)
      · exact G_swOut hx hb hd (by omega) q3 (hF _ _ _ _ h2)
    · cases h
  case ireturn =>
    simp only [ckE, Bool.and_eq_true, Bool.or_eq_true, decide_eq_true_eq] at hce
    obtain ⟨q1, q3⟩ := hce
    have q3 := bq q3
    subst q3
    simp only [xins, o_iret] at h
    split at h
    · rename_i x
      split at h
      · cases h
        refine G_ret hend rfl (fun n hs => (m1 hs).1) (fun n ad H locs lsA hw => hw.1 x rfl (Or.inl ?_) hd)
        rcases q1 with q1 | q1
        · exact q1.2
        · exact absurd (bq q1.1) (by omega)
      · split at h
        · rename_i hx0
          cases h
          refine G_ret hend rfl (fun n hs => (m1 hs).1) (fun n ad H locs lsA hw => hw.1 x rfl (Or.inr ⟨?_, hx0⟩) hd)
          rcases q1 with q1 | q1
          · exact absurd (bq q1.1) (by omega)
          · exact q1.2
        · cases h
    · cases h
  case lreturn =>
    simp only [ckE, Bool.and_eq_true, decide_eq_true_eq] at hce
    obtain ⟨q1, q3⟩ := hce
    have q3 := bq q3
    subst q3
    simp only [xins, o_lret] at h
    split at h
    · cases h
      exact G_ret hend rfl (fun n hs => (m1 hs).1) (fun n ad H locs lsA hw => hw.2.1 _ rfl q1 hd)
    · cases h
  case areturn =>
    simp only [ckE, Bool.and_eq_true] at hce
    obtain ⟨q1, q3⟩ := hce
    have q3 := bq q3
    subst q3
    simp only [xins, o_aret] at h
    split at h
    · split at h
      · cases h
      · cases h
        exact G_ret hend rfl (fun n hs => (m1 hs).1) (fun n ad H locs lsA hw => hw.2.2.1 _ _ rfl (bq q1) hd)
    · cases h
  case return_ =>
    simp only [ckE, Bool.and_eq_true, decide_eq_true_eq] at hce
    obtain ⟨q1, q3⟩ := hce
    have q3 := bq q3
    subst q3
    simp only [xins, o_vret] at h
    split at h
    · cases h
      exact G_ret hend rfl (fun n hs => by show c32 0; unfold c32; omega) (fun n ad H locs lsA hw => hw.2.2.2 q1 hd)
    · cases h
  case invokevirtual idx =>
    simp only [ckE, Bool.and_eq_true] at hce
    obtain ⟨⟨q1, q3⟩, qX⟩ := hce
    have q3 := bq q3
    subst q3
    obtain ⟨f, hf, e1, e2, e3, e4, e5, e6⟩ := hasM_ok q1
    obtain ⟨v1, v2, v3, v4, v5, v6, v7, v8⟩ := vOk hf
    have r33 := r3_v hf
    rw [e4] at v1 v2 v3 v4 v5 v6 v7 v8
    rw [e5] at v2
    rw [e6] at v3 r33
    rw [e1, e2] at v6
    simp only [xins, o_inv, xtk_eq, xdp_eq, xrv_eq, List.append_nil] at h
    obtain ⟨cnd, h⟩ := xif_some h
    obtain ⟨cn2, h⟩ := xif_some h
    simp only [Bool.and_eq_true] at cnd
    obtain ⟨⟨⟨w1, w2⟩, w3⟩, w4⟩ := cnd
    have cn2 := Nat.le_of_ble_eq_true cn2
    obtain ⟨k0, g, i, z1, z2, z3⟩ := xrk_ok w1 (by omega)
    subst z1
    have hk0 : k0 < st.length := xhas_le st (k0 + 1) w4
    have hkk : WW.1 g = mK r1 + 10 := by omega
    split at h
    · obtain ⟨x, V1, u1, u2⟩ := ci_some h
      exact G_virt hx hb hml hown hts hN hKK hsz hR hRf v1 hk0 z2 (by omega) w2 cn2 (hK _ _ _ u2) (by obtain ⟨ty, ht⟩ := rt_n v3 (by omega); rw [ht]) (hC _ _ _ _ _ v1 (by rw [xsum_rev]; exact xmx_ok w3 qX) u1) ⟨v4, hkk⟩ v6 v7 v8 hd
    · obtain ⟨x, V1, u1, u2⟩ := cl_some h
      exact G_virt hx hb hml hown hts hN hKK hsz hR hRf v1 hk0 z2 (by omega) w2 cn2 (hK _ _ _ u2) (by obtain ⟨ty, ht⟩ := rt_n v3 (by omega); rw [ht]) (hC _ _ _ _ _ v1 (by rw [xsum_rev]; exact xmx_ok w3 qX) u1) ⟨v4, hkk⟩ v6 v7 v8 hd
    · obtain ⟨V1, u1, u2⟩ := cr_some h
      exact G_virt hx hb hml hown hts hN hKK hsz hR hRf v1 hk0 z2 (by omega) w2 cn2 (hK _ _ _ u2) (by obtain ⟨ty, ht⟩ := rt_n v3 (by omega); rw [ht]) (hC _ _ _ _ _ v1 (by rw [xsum_rev]; exact xmx_ok w3 qX) u1) ⟨v4, hkk⟩ v6 v7 v8 hd
    · obtain ⟨x, V1, u1, u2⟩ := cv_some h
      exact G_virt hx hb hml hown hts hN hKK hsz hR hRf v1 hk0 z2 (by omega) w2 cn2 (hK _ _ _ u2) (by rw [rt_3 v3]) (hC _ _ _ _ _ v1 (by rw [xsum_rev]; exact xmx_ok w3 qX) u1) ⟨v4, hkk⟩ v6 v7 v8 hd
    · omega
    · rename_i a0 a1 a2 a3 a8
      rcases (by omega : r3 = 0 ∨ r3 = 1 ∨ r3 = 2 ∨ r3 = 3) with q | q | q | q
      · exact (a0 q).elim
      · exact (a1 q).elim
      · exact (a2 q).elim
      · exact (a3 q).elim
  case invokespecial idx =>
    simp only [ckE, Bool.and_eq_true, Bool.or_eq_true, decide_eq_true_eq] at hce
    obtain ⟨q1, q3⟩ := hce
    have q3 := bq q3
    subst q3
    rcases q1 with ⟨⟨⟨q1, q2⟩, q4⟩, q5⟩ | ⟨q1, qX⟩
    · have q2 := bq q2
      have q4 := bq q4
      subst q2
      subst q4
      simp only [xins, o_inv, xtk_eq, xdp_eq, xrv_eq, List.append_nil] at h
      obtain ⟨cnd, h⟩ := xif_some h
      obtain ⟨cn2, h⟩ := xif_some h
      simp only [Bool.and_eq_true] at cnd
      obtain ⟨⟨⟨w1, w2⟩, w3⟩, w4⟩ := cnd
      have cn2 := Nat.le_of_ble_eq_true cn2
      split at h
      · split at h
        · cases h
        · exact G_obj hx hb hml hown hts ⟨by omega, by omega⟩ (hasO_ok q1) (by simpa using cn2) hd (hK _ _ _ h)
      · cases h
    · obtain ⟨f, hf, e1, e2, e3, e4, e5, e6⟩ := hasM_ok q1
      obtain ⟨v1, v2, v3, v4, v5, v6, v7, v8⟩ := sOk hf
      rw [e4] at v1 v2 v3 v6 v7 v8
      rw [e5] at v2
      rw [e6] at v4
      subst v4
      rw [e1, e2] at v8
      simp only [xins, o_inv, xtk_eq, xdp_eq, xrv_eq, List.append_nil] at h
      obtain ⟨cnd, h⟩ := xif_some h
      obtain ⟨cn2, h⟩ := xif_some h
      simp only [Bool.and_eq_true] at cnd
      obtain ⟨⟨⟨w1, w2⟩, w3⟩, w4⟩ := cnd
      have cn2 := Nat.le_of_ble_eq_true cn2
      obtain ⟨k0, g, i, z1, z2, z3⟩ := xrk_ok w1 (by omega)
      subst z1
      have hk0 : k0 < st.length := xhas_le st (k0 + 1) w4
      obtain ⟨x, V1, u1, u2⟩ := cv_some h
      rcases v8 with v8 | v8
      · exact G_init hx hb hml hown hts hN hKK hsz hR hRf v1 hk0 z2 (by omega) w2 cn2 (hK _ _ _ u2) (by rw [v3]) (hC _ _ _ _ _ v1 (by rw [xsum_rev]; exact xmx_ok w3 qX) u1) (by omega) v8 v6 v7 v3 hd
      · exact G_initN hx hb hml hown hts hN hKK hsz hR hRf v1 hk0 z2 (by omega) w2 cn2 (hK _ _ _ u2) (by rw [v3]) (hC _ _ _ _ _ v1 (by rw [xsum_rev]; exact xmx_ok w3 qX) u1) (by omega) v8 v6 v7 v3 hd
  case invokestatic idx =>
    simp only [ckE, Bool.and_eq_true, Bool.or_eq_true, decide_eq_true_eq] at hce
    obtain ⟨q1, q3⟩ := hce
    have q3 := bq q3
    subst q3
    rcases q1 with ⟨q1, qX⟩ | ⟨⟨⟨q1, q2⟩, q4⟩, q5⟩
    · obtain ⟨f, hf, e1, e2, e3, e4, e5, e6⟩ := hasM_ok q1
      obtain ⟨v1, v2, v3, v6, v8⟩ := tOk hf
      have r33 := r3_t hf
      rw [e4] at v1 v2 v3 v6 v8
      rw [e5] at v2
      rw [e6] at v3 r33
      rw [e1, e2] at v8
      simp only [xins, o_inv, xtk_eq, xdp_eq, xrv_eq, List.append_nil] at h
      obtain ⟨cnd, h⟩ := xif_some h
      obtain ⟨cn2, h⟩ := xif_some h
      simp only [Bool.and_eq_true] at cnd
      obtain ⟨⟨⟨w1, w2⟩, w3⟩, w4⟩ := cnd
      have cn2 := Nat.le_of_ble_eq_true cn2
      have hk0 : r2 ≤ st.length := xhas_le st r2 w4
      rcases v8 with v8 | v8
      · skip
        split at h
        · obtain ⟨x, V1, u1, u2⟩ := ci_some h
          exact G_stat hx hb hml hown hts hN hKK hsz hR hRf v1 hk0 v2 w2 cn2 (hK _ _ _ u2) (by obtain ⟨ty, ht⟩ := rt_n v3 (by omega); rw [ht]) (hC _ _ _ _ _ v1 (by rw [xsum_rev]; exact xmx_ok w3 qX) u1) v8 v6 hd
        · obtain ⟨x, V1, u1, u2⟩ := cl_some h
          exact G_stat hx hb hml hown hts hN hKK hsz hR hRf v1 hk0 v2 w2 cn2 (hK _ _ _ u2) (by obtain ⟨ty, ht⟩ := rt_n v3 (by omega); rw [ht]) (hC _ _ _ _ _ v1 (by rw [xsum_rev]; exact xmx_ok w3 qX) u1) v8 v6 hd
        · obtain ⟨V1, u1, u2⟩ := cr_some h
          exact G_stat hx hb hml hown hts hN hKK hsz hR hRf v1 hk0 v2 w2 cn2 (hK _ _ _ u2) (by obtain ⟨ty, ht⟩ := rt_n v3 (by omega); rw [ht]) (hC _ _ _ _ _ v1 (by rw [xsum_rev]; exact xmx_ok w3 qX) u1) v8 v6 hd
        · obtain ⟨x, V1, u1, u2⟩ := cv_some h
          exact G_stat hx hb hml hown hts hN hKK hsz hR hRf v1 hk0 v2 w2 cn2 (hK _ _ _ u2) (by rw [rt_3 v3]) (hC _ _ _ _ _ v1 (by rw [xsum_rev]; exact xmx_ok w3 qX) u1) v8 v6 hd
        · omega
        · rename_i a0 a1 a2 a3 a8
          rcases (by omega : r3 = 0 ∨ r3 = 1 ∨ r3 = 2 ∨ r3 = 3) with q | q | q | q
          · exact (a0 q).elim
          · exact (a1 q).elim
          · exact (a2 q).elim
          · exact (a3 q).elim
      · skip
        split at h
        · obtain ⟨x, V1, u1, u2⟩ := ci_some h
          exact G_statN hx hb hml hown hts hN hKK hsz hR hRf v1 hk0 v2 w2 cn2 (hK _ _ _ u2) (by obtain ⟨ty, ht⟩ := rt_n v3 (by omega); rw [ht]) (hC _ _ _ _ _ v1 (by rw [xsum_rev]; exact xmx_ok w3 qX) u1) v8 v6 hd
        · obtain ⟨x, V1, u1, u2⟩ := cl_some h
          exact G_statN hx hb hml hown hts hN hKK hsz hR hRf v1 hk0 v2 w2 cn2 (hK _ _ _ u2) (by obtain ⟨ty, ht⟩ := rt_n v3 (by omega); rw [ht]) (hC _ _ _ _ _ v1 (by rw [xsum_rev]; exact xmx_ok w3 qX) u1) v8 v6 hd
        · obtain ⟨V1, u1, u2⟩ := cr_some h
          exact G_statN hx hb hml hown hts hN hKK hsz hR hRf v1 hk0 v2 w2 cn2 (hK _ _ _ u2) (by obtain ⟨ty, ht⟩ := rt_n v3 (by omega); rw [ht]) (hC _ _ _ _ _ v1 (by rw [xsum_rev]; exact xmx_ok w3 qX) u1) v8 v6 hd
        · obtain ⟨x, V1, u1, u2⟩ := cv_some h
          exact G_statN hx hb hml hown hts hN hKK hsz hR hRf v1 hk0 v2 w2 cn2 (hK _ _ _ u2) (by rw [rt_3 v3]) (hC _ _ _ _ _ v1 (by rw [xsum_rev]; exact xmx_ok w3 qX) u1) v8 v6 hd
        · omega
        · rename_i a0 a1 a2 a3 a8
          rcases (by omega : r3 = 0 ∨ r3 = 1 ∨ r3 = 2 ∨ r3 = 3) with q | q | q | q
          · exact (a0 q).elim
          · exact (a1 q).elim
          · exact (a2 q).elim
          · exact (a3 q).elim
    · have q2 := bq q2
      have q4 := bq q4
      subst q2
      subst q4
      simp only [xins, o_inv, xtk_eq, xdp_eq, xrv_eq, List.append_nil] at h
      obtain ⟨cnd, h⟩ := xif_some h
      obtain ⟨cn2, h⟩ := xif_some h
      simp only [Bool.and_eq_true] at cnd
      obtain ⟨⟨⟨w1, w2⟩, w3⟩, w4⟩ := cnd
      have cn2 := Nat.le_of_ble_eq_true cn2
      split at h
      · exact G_max hx hb hml hown hts ⟨by omega, by omega⟩ (by simpa using cn2) (hasX_ok q1) hd hR (hK _ _ _ h)
      · cases h
  all_goals (first | (simp only [ckE] at hce; cases hce; done) | skip)

end
