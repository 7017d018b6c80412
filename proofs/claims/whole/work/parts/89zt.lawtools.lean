/-! what a step of the law needs -/
def alb (n g i : Nat) : Bool := (List.range n).any fun k => Nat.beq (tau k).1 g && Nat.beq (tau k).2 i
theorem alb_al {n g i : Nat} (h : alb n g i = true) : al n g i := by
  obtain ⟨k, hk, e⟩ := List.any_eq_true.mp h
  simp only [Bool.and_eq_true] at e
  exact ⟨k, List.mem_range.mp hk, Prod.ext (Nat.eq_of_beq_eq_true e.1) (Nat.eq_of_beq_eq_true e.2)⟩
theorem al_2 : al 155 2 0 := alb_al (by decide +kernel)
theorem al_14 : al 155 14 0 := alb_al (by decide +kernel)
def iofA (k : Nat) : Bool := if Nat.beq (WW.1 (tau k).1) 5 || Nat.beq (WW.1 (tau k).1) 6 then (List.range (WW.2.1 (tau k).1).toNat).all fun j => alb 155 (WW.2.2.1 (tau k).1 0) (WW.2.2.2.1 (tau k).1 (tau k).2 j) else true
def iofB (k : Nat) : Bool := if Nat.ble 10 (WW.1 (tau k).1) then (List.range (vcl (WW.1 (tau k).1 - 10)).2.2).all fun j => isI (vty (WW.1 (tau k).1 - 10) j) || alb 155 (WW.2.2.1 (tau k).1 j) (WW.2.2.2.1 (tau k).1 (tau k).2 j) else true
theorem iofA_1 : ((List.range 155).all iofA) = true := by decide +kernel
theorem iofB_1 : ((List.range 155).all iofB) = true := by decide +kernel
theorem Iof_155 : Iof 155 := by
  constructor
  · rintro g i j ⟨k, hk, e⟩ hg hj
    have h := List.all_eq_true.mp iofA_1 k (List.mem_range.mpr hk)
    unfold iofA at h
    rw [e] at h
    rw [if_pos (by rcases hg with q | q <;> rw [q] <;> rfl)] at h
    exact alb_al (List.all_eq_true.mp h j (List.mem_range.mpr (by show j < (WW.2.1 g).toNat; omega)))
  · rintro g i j ⟨k, hk, e⟩ hg hj hi
    have h := List.all_eq_true.mp iofB_1 k (List.mem_range.mpr hk)
    unfold iofB at h
    rw [e] at h
    rw [if_pos (Nat.ble_eq_true_of_le hg)] at h
    have h2 := List.all_eq_true.mp h j (List.mem_range.mpr hj)
    rw [show isI (vty (WW.1 (g, i).1 - 10) j) = false from hi, Bool.false_or] at h2
    exact alb_al h2
theorem keep1 (l : Launch) {D : va_G} {dA : Nat → ClassId} {z : Nat} (hb : Base D dA z) (hk : ∀ k, k < 310 → ckM k = true) {d m : Nat} {as : List XS} {V : XM} {r : XS} {Vf : XM} (hm : m < 310) (hm2 : mK m < 14) (hs : xsum as ≤ XML m) (hc : cV V) (has : ∀ v ∈ as, cS false 155 v) (h : Yf (d + 1) m as V = some (r, Vf)) : Vf 1 = V 1 ∧ cV Vf := by
  obtain ⟨f, hf⟩ := Xx_some (show Xx WW XP XML false d m 0 _ [] V = some (r, Vf) from h)
  obtain ⟨p1, -⟩ := met_all l D dA z false hb hk d f m as V r Vf (cl_ok hm hm2) hm2 hs hf 155 (fun _ _ => 0) hc Iof_155 (Nat.le_refl _) has
  exact ⟨p1.1, p1.2.1⟩
def lok (g : Nat → Bool) (m1 m2 : Nat) : Bool := Nat.blt m1 310 && Nat.blt (mK m1) 14 && Nat.blt m2 310 && Nat.blt (mK m2) 14 && g m1 && g m2
theorem lok_s {g : Nat → Bool} {m1 m2 : Nat} (h : lok g m1 m2 = true) : m1 < 310 ∧ mK m1 < 14 ∧ m2 < 310 ∧ mK m2 < 14 ∧ g m1 = true ∧ g m2 = true := by
  unfold lok at h
  simp only [Bool.and_eq_true] at h
  exact ⟨Nat.le_of_ble_eq_true h.1.1.1.1.1, Nat.le_of_ble_eq_true h.1.1.1.1.2, Nat.le_of_ble_eq_true h.1.1.1.2, Nat.le_of_ble_eq_true h.1.1.2, h.1.2, h.2⟩
theorem law0 (l : Launch) {D : va_G} {dA : Nat → ClassId} {z : Nat} (hb : Base D dA z) (hk : ∀ k, k < 310 → ckM k = true) {g : Nat → Bool} {d m1 m2 : Nat} {as : List XS} {V : XM} (ag : AG d m1 m2 as V) (h : lok g m1 m2 = true) (s1 : Nat.ble (xsum (xr 2 0 :: as)) (XML m1) = true) (s2 : Nat.ble (xsum (xr 14 0 :: as)) (XML m2) = true) (hc : cV V) (has : ∀ v ∈ as, cS false 155 v) :
    ∃ x V1 V2, Yf (d + 30) m1 (xr 2 0 :: as) V = some (x, V1) ∧ V1 1 = V 1 ∧ Yf (d + 30) m2 (xr 14 0 :: as) V1 = some (x, V2) ∧ V2 1 = V 1 ∧ Inv V2 ∧ cV V2 := by
  obtain ⟨x, V1, V2, a1, a2, a3, a4⟩ := ag
  obtain ⟨b1, b2, b3, b4, _, _⟩ := lok_s h
  obtain ⟨k1, k2⟩ := keep1 l (d := d + 29) hb hk b1 b2 (Nat.le_of_ble_eq_true s1) hc (List.forall_mem_cons.mpr ⟨Or.inr (Or.inr al_2), has⟩) a1
  obtain ⟨k3, k4⟩ := keep1 l (d := d + 29) hb hk b3 b4 (Nat.le_of_ble_eq_true s2) k2 (List.forall_mem_cons.mpr ⟨Or.inr (Or.inr al_14), has⟩) a2
  exact ⟨x, V1, V2, a1, k1, a2, a4, a3, k4⟩
theorem lawI (l : Launch) {D : va_G} {dA : Nat → ClassId} {z : Nat} (hb : Base D dA z) (hk : ∀ k, k < 310 → ckM k = true) {d m1 m2 : Nat} {as : List XS} {V : XM} (ag : AG d m1 m2 as V) (h : lok gvI m1 m2 = true) (s1 : Nat.ble (xsum (xr 2 0 :: as)) (XML m1) = true) (s2 : Nat.ble (xsum (xr 14 0 :: as)) (XML m2) = true) (hc : cV V) (has : ∀ v ∈ as, cS false 155 v) :
    ∃ x V1 V2, Yf (d + 30) m1 (xr 2 0 :: as) V = some (xi x, V1) ∧ V1 1 = V 1 ∧ Yf (d + 30) m2 (xr 14 0 :: as) V1 = some (xi x, V2) ∧ V2 1 = V 1 ∧ Inv V2 ∧ cV V2 := by
  obtain ⟨x, V1, V2, a1, a2, a3, a4, a5, a6⟩ := law0 l hb hk ag h s1 s2 hc has
  obtain ⟨y, rfl⟩ := Y_I (d := d + 29) (lok_s h).2.2.2.2.1 a1
  exact ⟨y, V1, V2, a1, a2, a3, a4, a5, a6⟩
theorem lawL (l : Launch) {D : va_G} {dA : Nat → ClassId} {z : Nat} (hb : Base D dA z) (hk : ∀ k, k < 310 → ckM k = true) {d m1 m2 : Nat} {as : List XS} {V : XM} (ag : AG d m1 m2 as V) (h : lok gvL m1 m2 = true) (s1 : Nat.ble (xsum (xr 2 0 :: as)) (XML m1) = true) (s2 : Nat.ble (xsum (xr 14 0 :: as)) (XML m2) = true) (hc : cV V) (has : ∀ v ∈ as, cS false 155 v) :
    ∃ x V1 V2, Yf (d + 30) m1 (xr 2 0 :: as) V = some (xl x, V1) ∧ V1 1 = V 1 ∧ Yf (d + 30) m2 (xr 14 0 :: as) V1 = some (xl x, V2) ∧ V2 1 = V 1 ∧ Inv V2 ∧ cV V2 := by
  obtain ⟨x, V1, V2, a1, a2, a3, a4, a5, a6⟩ := law0 l hb hk ag h s1 s2 hc has
  obtain ⟨y, rfl⟩ := Y_L (d := d + 29) (lok_s h).2.2.2.2.1 a1
  exact ⟨y, V1, V2, a1, a2, a3, a4, a5, a6⟩
theorem law_w {i : Int} (h0 : 0 ≤ i) (h1 : i + 6 ≤ 3072) : w32 (i + 1) = i + 1 ∧ w32 (i + 2) = i + 2 ∧ w32 (i + 3) = i + 3 ∧ w32 (i + 4) = i + 4 ∧ w32 (i + 5) = i + 5 := by
  unfold w32; omega
theorem law_p {i L : Int} (h0 : 0 ≤ i) (h1 : i + 6 ≤ L) : (0 ≤ i + 1 ∧ i + 1 < L) = True ∧ (0 ≤ i + 2 ∧ i + 2 < L) = True ∧ (0 ≤ i + 3 ∧ i + 3 < L) = True ∧ (0 ≤ i + 4 ∧ i + 4 < L) = True ∧ (0 ≤ i + 5 ∧ i + 5 < L) = True :=
  ⟨eq_true (by omega), eq_true (by omega), eq_true (by omega), eq_true (by omega), eq_true (by omega)⟩
theorem cmp3_s (x : Int) : cmp3 x x = 0 := cmp3_eq.mpr rfl
/-- a case of the law: it goes on, and all is well -/
def LG (d pc : Nat) (i : Int) (V : XM) : Prop := ∃ V2, Xf (d + 30) 310 pc [xr 1 0, xr 2 0, xr 14 0, xi i] [] V = Xf (d + 30) 310 2403 [xr 1 0, xr 2 0, xr 14 0, xi i] [] V2 ∧ V2 1 = V 1 ∧ Inv V2 ∧ cV V2
