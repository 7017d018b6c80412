/-! what the law's start gives: classes, rows' classes, words -/
set_option maxRecDepth 20000 in
theorem ao_sh : Cond.arrayOver (.object "WorldMake$Shelf") ∈ lw_tbl := wpick_mem [405] lw_tbl (by rw [show wpick [405] lw_tbl = [Cond.arrayOver (.object "WorldMake$Shelf")] from rfl]; exact List.mem_cons_self)
set_option maxRecDepth 20000 in
theorem ao_tb : Cond.arrayOver (.object "WorldMake$Table") ∈ lw_tbl := wpick_mem [425] lw_tbl (by rw [show wpick [425] lw_tbl = [Cond.arrayOver (.object "WorldMake$Table")] from rfl]; exact List.mem_cons_self)
theorem TW_sub {w : Cond} (h : w ∈ TW) : w ∈ lw_tbl := (List.mem_filter.mp h).1
theorem inst_in {c : Nat} (h : c < 13) : Cond.instantiable (vcl c).1 (vcl c).2.2 ∈ lw_tbl := wpick_map sN2 (a := c) ((by decide : ∀ c, c < 13 → c ∈ ([11, 0, 8, 9, 4, 1, 5, 10, 2, 3, 6, 7, 12] : List Nat)) c h)
theorem arr_one {s : State} {args : Array Value} {ty : FieldType} (h : (Cond.arrayClass ty).before args s = true) (ho : ∀ C, ty ≠ .object C) : ∃ cA, ArrOfT s cA ty ∧ va_RA s cA ty := by
  obtain ⟨c, k, comp, h1, h2, h3⟩ := Cond.arrayClass_spec h
  refine ⟨c, fun n z => ⟨fun k h => (by cases h), k, h2, comp, h3⟩, ?_⟩
  cases ty with
  | object C => exact absurd rfl (ho C)
  | _ => exact h1
theorem arr_obj {s : State} {args : Array Value} {C : String} (h : (Cond.arrayOver (.object C)).before args s = true) : ∃ cA, ArrOfT s cA (.object C) ∧ va_RA s cA (.object C) := by
  obtain ⟨comp, c, k, h1, _, h3, h4, h5⟩ := Cond.arrayOver_spec h
  exact ⟨c, fun n z => ⟨fun k h => (by cases h), k, h3, comp, h4⟩, k, comp, h3, h4, h1, h5⟩
theorem init_find {s : State} {args : Array Value} {C : String} (h : (Cond.initialized C).before args s = true) : ∃ ci, s.vm.findClass C = some ci := by
  cases hc : s.vm.findClass C with
  | none => simp [Cond.before, Cond.holds, Cond.value, hc] at h
  | some ci => exact ⟨ci, rfl⟩
theorem K_start {s : State} {args : Array Value} (hts : ∀ w ∈ lw_tbl, w.before args s = true) : ∃ (D : va_G) (dA : Nat → ClassId), va_K D vwCl (tysA dA) s := by
  have hc : ∀ c, ∃ X : ClassId × (Nat → Nat), c < 13 → u_Kn s (vcl c).1 (vcl c).2.1 (vcl c).2.2 X.1 X.2 := by
    intro c
    by_cases h : c < 13
    · obtain ⟨cC, iS, hk⟩ := u_known (ws := TW) (fun w hw => hts w (TW_sub hw)) (uws_in h) (hts _ (inst_in h))
      exact ⟨(cC, iS), fun _ => hk⟩
    · exact ⟨(0, fun _ => 0), fun q => absurd q h⟩
  obtain ⟨a1, p1⟩ := arr_one (hts _ (TW_sub ac_int)) (fun _ q => by cases q)
  obtain ⟨a2, p2⟩ := arr_one (hts _ (TW_sub ac_long)) (fun _ q => by cases q)
  obtain ⟨a3, p3⟩ := arr_one (hts _ (TW_sub ac_bool)) (fun _ q => by cases q)
  obtain ⟨a4, p4⟩ := arr_one (hts _ (TW_sub ac_dbl)) (fun _ q => by cases q)
  obtain ⟨a5, p5⟩ := arr_obj (hts _ ao_sh)
  obtain ⟨a6, p6⟩ := arr_obj (hts _ ao_tb)
  refine ⟨(fun c => (Classical.choose (hc c)).1, fun c => (Classical.choose (hc c)).2), fun k => match k with | 1 => a1 | 2 => a2 | 3 => a3 | 4 => a4 | 5 => a5 | _ => a6, ?_, ?_⟩
  · intro c q hq
    have hlt : c < 13 := (List.getElem?_eq_some_iff.mp hq).1
    rw [vcl_get hlt] at hq
    cases hq
    exact Classical.choose_spec (hc c) hlt
  · intro k q hq
    match k, hq with
    | 0, hq => cases hq; exact p1
    | 1, hq => cases hq; exact p2
    | 2, hq => cases hq; exact p3
    | 3, hq => cases hq; exact p4
    | 4, hq => cases hq; exact p5
    | 5, hq => cases hq; exact p6
    | k + 6, hq => simp [tysA] at hq
theorem NW_start {s : State} {args : Array Value} (hts : ∀ w ∈ lw_tbl, w.before args s = true) : NWs s := by
  refine ⟨fun w hw hn => ?_, va_AO.of (hts _ ao_sh), va_AO.of (hts _ ao_tb)⟩
  cases w with
  | methodLinkNest a i x b => exact va_Nw.of rfl (hts _ hw)
  | _ => cases hn
theorem Base_start {p : Program} (e : Env) {s : State} {args : Array Value} {D : va_G} {dA : Nat → ClassId} (hx : p.tables.exec = Jvm.exec) (hts : ∀ w ∈ lw_tbl, w.before args s = true) (hK : va_K D vwCl (tysA dA) s) : Base D dA s.heap.size :=
  ⟨p, e, s, args, hx, fun w hw => hts w (TW_sub hw), NW_start hts, hK, Nat.le_refl _, fun k hk => init_find (hts _ (wpick_map sN3 (a := k) ((by decide : ∀ k, k < 14 → k ∈ IC_l) k hk)))⟩
