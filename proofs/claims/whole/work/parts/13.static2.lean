/-! more of the static facts: the fields' layout words, and what an entry of the tables gives -/
def UL_l : List (Nat × Nat) := [(0, 0), (0, 1), (8, 0), (8, 1), (8, 2), (8, 3), (8, 4), (8, 5), (8, 6), (8, 7), (9, 0), (9, 1), (9, 2), (9, 3), (9, 4), (9, 5), (9, 6), (9, 7), (9, 8), (9, 9), (4, 0), (4, 1), (4, 2), (4, 3), (4, 4), (1, 0), (1, 1), (1, 2), (1, 3), (1, 4), (1, 5), (1, 6), (1, 7), (1, 8), (1, 9), (1, 10), (1, 11), (1, 12), (1, 13), (1, 14), (1, 15), (5, 0), (5, 1), (5, 2), (5, 3), (10, 0), (10, 1), (10, 2), (10, 3), (2, 0), (2, 1), (2, 2), (2, 3), (2, 4), (2, 5), (2, 6), (3, 0), (3, 1), (3, 2), (3, 3), (3, 4), (3, 5), (3, 6), (6, 0), (6, 1), (6, 2), (7, 0), (7, 1), (7, 2), (7, 3), (7, 4), (7, 5), (11, 0), (11, 1), (11, 2), (11, 3), (11, 4), (11, 5), (11, 6), (11, 7), (11, 8), (11, 9), (11, 10), (11, 11), (11, 12), (11, 13), (11, 14), (11, 15), (11, 16), (12, 0), (12, 1), (12, 2), (12, 3), (12, 4), (12, 5), (12, 6), (12, 7), (12, 8), (12, 9), (12, 10), (12, 11), (12, 12), (12, 13), (12, 14), (12, 15), (12, 16), (12, 17), (12, 18), (12, 19), (12, 20), (12, 21), (12, 22), (12, 23), (12, 24), (12, 25), (12, 26), (12, 27), (12, 28), (12, 29), (12, 30), (12, 31), (12, 32), (12, 33), (12, 34), (12, 35), (12, 36), (12, 37), (12, 38), (12, 39), (12, 40), (12, 41), (12, 42), (12, 43), (12, 44), (12, 45), (12, 46), (12, 47), (12, 48), (12, 49), (12, 50), (12, 51), (12, 52), (12, 53), (12, 54), (12, 55), (12, 56), (12, 57)]
set_option maxRecDepth 100000 in
theorem sU1 : wpick [117, 1, 32, 1, 1, 1, 1, 1, 1, 1, 22, 1, 1, 1, 1, 1, 1, 1, 1, 1, 27, 1, 1, 1, 1, 25, 1, 1, 1, 1, 1, 1, 1, 1, 1, 1, 1, 1, 1, 1, 1, 12, 1, 1, 1, 18, 1, 1, 1, 17, 1, 1, 1, 1, 1, 1, 15, 1, 1, 1, 1, 1, 1, 15, 1, 1, 16, 1, 1, 1, 1, 1, 31, 1, 1, 1, 1, 1, 1, 1, 1, 1, 1, 1, 1, 1, 1, 1, 1, 814, 1, 1, 1, 1, 1, 1, 1, 1, 1, 1, 1, 1, 1, 1, 1, 1, 1, 1, 1, 1, 1, 1, 1, 1, 1, 1, 1, 1, 1, 1, 1, 1, 1, 1, 1, 1, 1, 1, 1, 1, 1, 1, 1, 1, 1, 1, 1, 1, 1, 1, 1, 1, 1, 1, 1, 1, 1] lw_tbl = UL_l.map (fun f => u_lay (vcl f.1).1 (vcl f.1).2.1 f.2) := rfl
theorem sU2 : ((List.range 13).all fun ci => (List.range (vcl ci).2.2).all fun k => UL_l.any fun f => Nat.beq f.1 ci && Nat.beq f.2 k) = true := by decide +kernel
theorem sU3 : ((List.range 13).all fun ci => (List.range (vcl ci).2.2).all fun k => isI (vty ci k) == !((vcl ci).2.1 k).2.2.2) = true := by decide +kernel
def isRf : FieldType → Bool
  | .object _ => true
  | .array _ => true
  | _ => false
theorem sU4 : ((List.range 13).all fun ci => (List.range (vcl ci).2.2).all fun k => isI (vty ci k) || isRf (vty ci k)) = true := by decide +kernel
theorem vcl_get {ci : Nat} (h : ci < 13) : vwCl[ci]? = some (vcl ci) := by
  rcases (by omega : ci = 0 ∨ ci = 1 ∨ ci = 2 ∨ ci = 3 ∨ ci = 4 ∨ ci = 5 ∨ ci = 6 ∨ ci = 7 ∨ ci = 8 ∨ ci = 9 ∨ ci = 10 ∨ ci = 11 ∨ ci = 12) with rfl | rfl | rfl | rfl | rfl | rfl | rfl | rfl | rfl | rfl | rfl | rfl | rfl <;> rfl
theorem vty_ok {ci : Nat} (h : ci < 13) : ∀ k, k < (vcl ci).2.2 → parseFieldDescriptor ((vcl ci).2.1 k).2.2.1 = some (vty ci k) := by
  rcases (by omega : ci = 0 ∨ ci = 1 ∨ ci = 2 ∨ ci = 3 ∨ ci = 4 ∨ ci = 5 ∨ ci = 6 ∨ ci = 7 ∨ ci = 8 ∨ ci = 9 ∨ ci = 10 ∨ ci = 11 ∨ ci = 12) with rfl | rfl | rfl | rfl | rfl | rfl | rfl | rfl | rfl | rfl | rfl | rfl | rfl
  · exact tyX0_ok
  · exact tyX1_ok
  · exact tyX2_ok
  · exact tyX3_ok
  · exact tyX4_ok
  · exact tyX5_ok
  · exact tyX6_ok
  · exact tyX7_ok
  · exact tyX8_ok
  · exact tyX9_ok
  · exact tyX10_ok
  · exact tyX11_ok
  · exact tyX12_ok
theorem vnm_ok {ci : Nat} (h : ci < 13) : ∀ a, a < (vcl ci).2.2 → ∀ b, b < (vcl ci).2.2 → a ≠ b → ((vcl ci).2.1 a).2.1 ≠ ((vcl ci).2.1 b).2.1 := by
  rcases (by omega : ci = 0 ∨ ci = 1 ∨ ci = 2 ∨ ci = 3 ∨ ci = 4 ∨ ci = 5 ∨ ci = 6 ∨ ci = 7 ∨ ci = 8 ∨ ci = 9 ∨ ci = 10 ∨ ci = 11 ∨ ci = 12) with rfl | rfl | rfl | rfl | rfl | rfl | rfl | rfl | rfl | rfl | rfl | rfl | rfl
  · exact nmX0
  · exact nmX1
  · exact nmX2
  · exact nmX3
  · exact nmX4
  · exact nmX5
  · exact nmX6
  · exact nmX7
  · exact nmX8
  · exact nmX9
  · exact nmX10
  · exact nmX11
  · exact nmX12
theorem TW_of {w : Cond} (h : w ∈ lw_tbl) (hg : goodWord w = true) : w ∈ TW := List.mem_filter.mpr ⟨h, hg⟩
theorem gw_fl (a : String) (i : Nat) (b n d : String) : goodWord (.fieldLink a i b n d) = true := rfl
theorem gw_ml (a : String) (i : Nat) (y : MethodName) : goodWord (.methodLink a i y) = true := rfl
theorem gw_im (y : MethodName) : goodWord (.instanceMethod y) = true := rfl
theorem gw_st (y : MethodName) : goodWord (.static y) = true := rfl
theorem gw_se (a : String) (x y : MethodName) : goodWord (.selects a x y) = true := rfl
theorem gw_in (a : String) : goodWord (.initialized a) = true := rfl
theorem gw_it (a : String) (n : Nat) : goodWord (.instantiable a n) = true := rfl
theorem gw_cl (a : String) (i : Nat) (b : String) : goodWord (.classLink a i b) = true := rfl
theorem gw_cd (y : MethodName) (c : ByteArray) (n : Nat) (r : Option FieldType) : goodWord (.code y c n r) = true := rfl
theorem gw_kl (a : String) (i : Nat) (v : Int64) : goodWord (.constantLong a i v) = true := rfl
theorem gw_la (C : String) (T : u_T) (k : Nat) : goodWord (u_lay C T k) = true := by
  unfold u_lay
  split <;> rfl
theorem uws_in {ci : Nat} (h : ci < 13) : ∀ w ∈ u_ws (vcl ci).1 (vcl ci).2.1 (vcl ci).2.2, w ∈ TW := by
  intro w hw
  obtain ⟨k, hk, rfl⟩ := List.mem_map.mp hw
  have h1 := List.all_eq_true.mp (List.all_eq_true.mp sU2 ci (List.mem_range.mpr h)) k hk
  obtain ⟨f, hf, h2⟩ := List.any_eq_true.mp h1
  simp only [Bool.and_eq_true] at h2
  have e1 := Nat.eq_of_beq_eq_true h2.1
  have e2 := Nat.eq_of_beq_eq_true h2.2
  have h3 := wpick_map sU1 hf
  rw [e1, e2] at h3
  exact TW_of h3 (gw_la _ _ _)
/-- what a field's entry gives -/
def FldOk (k idx r1 r2 r3 : Nat) : Prop := 10 ≤ r1 ∧ r1 - 10 < 13 ∧ r2 < (vcl (r1 - 10)).2.2 ∧ Cond.fieldLink (cN k) idx (vcl (r1 - 10)).1 ((vcl (r1 - 10)).2.1 r2).2.1 ((vcl (r1 - 10)).2.1 r2).2.2.1 ∈ TW ∧ ((vcl (r1 - 10)).2.1 r2).1 = (vcl (r1 - 10)).1 ∧ (isI (vty (r1 - 10) r2) = true ↔ r3 = 0) ∧ (((vcl (r1 - 10)).2.1 r2).2.2.2 = false ↔ r3 = 0)
theorem fld_ok {f : XF} (hf : f ∈ FT_l) : FldOk f.1 f.2.1 f.2.2.1 f.2.2.2.1 f.2.2.2.2 := by
  have h1 := List.all_eq_true.mp sF3 f hf
  unfold okF at h1
  simp only [Bool.and_eq_true, beq_iff_eq] at h1
  obtain ⟨⟨⟨a1, a2⟩, a3⟩, a4⟩ := h1
  have a1 := Nat.le_of_ble_eq_true a1
  have a2 : f.2.2.1 - 10 < 13 := Nat.le_of_ble_eq_true a2
  have a3 : f.2.2.2.1 < (vcl (f.2.2.1 - 10)).2.2 := Nat.le_of_ble_eq_true a3
  have h2 := List.map_inj_left.mp sF2 f hf
  have h3 := List.all_eq_true.mp (List.all_eq_true.mp sU3 _ (List.mem_range.mpr a2)) _ (List.mem_range.mpr a3)
  simp only [beq_iff_eq] at h3
  have e0 : isI (vty (f.2.2.1 - 10) f.2.2.2.1) = true ↔ f.2.2.2.2 = 0 := by
    rw [← a4]
    exact ⟨fun q => Nat.eq_of_beq_eq_true q, fun q => by rw [q]; rfl⟩
  refine ⟨a1, a2, a3, TW_of (wpick_map sF1 hf) (gw_fl _ _ _ _ _), h2, e0, ?_⟩
  rw [← e0, h3]
  cases ((vcl (f.2.2.1 - 10)).2.1 f.2.2.2.1).2.2.2 <;> simp
