/-! the two memories agree on all cells that are there -/
theorem xu_pt {A B : XM} {a b c : Nat} {x : Int} {g i k : Nat} (h : A g i k = B g i k) : xu A a b c x g i k = xu B a b c x g i k := by
  unfold xu
  by_cases e : g = a ∧ i = b ∧ k = c
  · rw [if_pos e, if_pos e]
  · rw [if_neg e, if_neg e]; exact h
theorem xfl_pt {A B : XM} {a b : Nat} {lo hi x : Int} {g i k : Nat} (h : A g i k = B g i k) : xfl A a b lo hi x g i k = xfl B a b lo hi x g i k := by
  unfold xfl
  by_cases e : g = a ∧ i = b ∧ (lo ≤ (k : Int) ∧ (k : Int) < hi)
  · rw [if_pos e, if_pos e]
  · rw [if_neg e, if_neg e]; exact h
theorem rBeg_pt {A B : XM} {g i k : Nat} (h : A g i k = B g i k) : rBeg A g i k = rBeg B g i k := by
  unfold rBeg rB3 rB2 rB1
  repeat (first | exact h | (refine xfl_pt ?_) | (refine xu_pt ?_))
theorem VO_out (V : XM) {g i k : Nat} (h : rsl g k = false) : VO V g i k = VM V g i k := by
  rw [VM_Z]
  unfold VO
  refine rBeg_pt ?_
  unfold ov
  rw [if_neg (by rw [h]; decide)]
def rfA (c : Nat) : Bool := (List.range 60).all fun k => !rsl (tau c).1 k || RF_l.any fun q => Nat.beq q.1 (tau c).1 && Nat.beq q.2.1 (tau c).2 && Nat.beq q.2.2 k
def rfB (c : Nat) : Bool := (!(Nat.beq (WW.1 (tau c).1) 5 || Nat.beq (WW.1 (tau c).1) 6) || decide (WW.2.1 (tau c).1 ≤ 60)) && (!(Nat.ble 10 (WW.1 (tau c).1)) || Nat.ble (vcl (WW.1 (tau c).1 - 10)).2.2 60)
theorem rfA_1 : ((List.range 155).all rfA) = true := by decide +kernel
theorem rfB_1 : ((List.range 155).all rfB) = true := by decide +kernel
theorem VM_in (V : XM) {g i k : Nat} (ha : al 155 g i) (h : rsl g k = true) : VM V g i k = 1 := by
  obtain ⟨c, hc, e⟩ := ha
  have hA := List.all_eq_true.mp rfA_1 c (List.mem_range.mpr hc)
  have hB := List.all_eq_true.mp rfB_1 c (List.mem_range.mpr hc)
  have hk : k < 60 := by
    unfold rfB at hB
    rw [e] at hB
    simp only [Bool.and_eq_true, Bool.or_eq_true, Bool.not_eq_true', decide_eq_true_eq] at hB
    unfold rsl rsk at h
    simp only [Bool.and_eq_true, Bool.or_eq_true, decide_eq_true_eq] at h
    rcases h with ⟨h1, h2⟩ | ⟨h1, h2, _⟩
    · rcases hB.1 with q | q
      · rcases h1 with h1 | h1 <;> rw [h1] at q <;> simp at q
      · omega
    · rcases hB.2 with q | q
      · rw [h1] at q; cases q
      · have h2 := Nat.le_of_ble_eq_true h2
        have q := Nat.le_of_ble_eq_true q
        omega
  unfold rfA at hA
  rw [e] at hA
  have h1 := List.all_eq_true.mp hA k (List.mem_range.mpr hk)
  dsimp only at h1
  rw [h, Bool.not_true, Bool.false_or] at h1
  obtain ⟨q, hq, h2⟩ := List.any_eq_true.mp h1
  simp only [Bool.and_eq_true] at h2
  have e1 := Nat.eq_of_beq_eq_true h2.1.1
  have e2 := Nat.eq_of_beq_eq_true h2.1.2
  have e3 := Nat.eq_of_beq_eq_true h2.2
  have h3 := RF_ok V q hq
  rw [e1, e2, e3] at h3
  exact h3
theorem VO_row (V : XM) {g i : Nat} (ha : al 155 g i) : VO V g i = VM V g i := by
  funext k
  cases h : rsl g k with
  | false => exact VO_out V h
  | true => rw [VM_in V ha h]; exact (FC_VO V).2 g i k h
theorem wof_VO (V : XM) (ad : Nat → Nat → Nat) (dA : Nat → ClassId) : wof true 155 (VO V) ad dA = wof true 155 (VM V) ad dA := by
  unfold wof
  refine List.map_congr_left fun k hk => ?_
  rw [VO_row V (g := (tau k).1) (i := (tau k).2) ⟨k, List.mem_range.mp hk, rfl⟩]
theorem VA_c {V : XM} (h : cV V) : cV (VA V) := TW_z_c (TB_5_c (TB_4_c (TB_3_c (TB_2_c (TB_1_c (TB_0_c (TA_a_c (SH_9_c (SH_8_c (SH_7_c (SH_6_c (SH_5_c (SH_4_c (SH_3_c (SH_2_c (SH_1_c (SH_0_c (xu_c (B_10_c h) (cK_01 (Or.inr rfl))))))))))))))))))))
theorem VO_c {V : XM} (h : cV V) : cV (VO V) := rBeg_c (ov_c (ch_108_c (xz_c (cBeg_c (VA_c (xz_c h (by decide)))) (by decide))))
theorem Iot_VO {V : XM} (h : Iot 155 (VM V)) : Iot 155 (VO V) := by
  constructor
  · intro g i j ha hk hv
    rw [VO_row V ha] at hv
    exact h.1 g i j ha hk hv
  · intro g i k ha hk hi hv
    rw [VO_row V ha] at hv
    exact h.2 g i k ha hk hi hv
section
variable {p : Program} {l : Launch} {e : Env} {R : Room} {s : State} {mi : MethodId} {args : Array Value} {below : List Frame} {meth : Method} {c : Code} {Q : State → Prop} {D : va_G} {dA : Nat → ClassId} {z : Nat} {sc : Bool} {b m n0 : Nat} {ad0 : Nat → Nat → Nat} {r : XS} {Vf V0 : XM} {pc : Nat} {ls st : List XS}
/-- a run that goes well over the one memory goes well over the other -/
theorem Good_VM {V : XM} (hV : cV V) (G : Good p l e R s mi args below meth c Q D dA z sc true b m n0 ad0 r Vf V0 pc ls st (VO V)) : Good p l e R s mi args below meth c Q D dA z sc true b m n0 ad0 r Vf V0 pc ls st (VM V) := by
  intro n h1 h2 h3 h4 h5 h6 h7 h8 h9
  have en : n = 155 := by
    have h : VM V 0 0 0 = (n : Int) := h2.2
    rw [VM_0] at h
    omega
  subst en
  obtain ⟨a, w⟩ := G 155 (VO_c hV) ⟨Iot_VO h2.1, (FC_VO V).1⟩ h3 h4 h5 h6 h7 h8 ((VO_1 V).trans ((VM_1 V).symm.trans h9))
  refine ⟨a, fun ad H locs lsA q1 q2 q3 q4 q5 => w ad H locs lsA q1 q2 ?_ q4 q5⟩
  unfold world at q3 ⊢
  rw [wof_VO]
  exact q3
end
/-! the law's first block, whatever follows -/
def FLF (F : Nat → List XS → List XS → XM → XR) : Nat → List XS → List XS → XM → XR := fun t ls st V => xmkK K_L_law t ls (fun ls => F t ls st V)
set_option maxRecDepth 100000 in
theorem law_first (d : Nat) (F : Nat → List XS → List XS → XM → XR) (V : XM) (h : V 0 0 0 = 0) : xmac WW true (XP 310) F (Yt (d + 4)) 0 [xr 1 0, xr 0 0, xr 0 0, xr 0 0] [] V = F 18 [xr 1 0, xr 2 0, xr 14 0, xi 0] [] (VM V) := by
  refine Eq.trans (b := xnew WW V 21 0 (fun g j V => xrun WW true (FLF F) (Yt (d + 4)) 18 (EL 1) [xr 1 0, xr 0 0, xr 0 0, xr 0 0] [xr g j] V)) rfl ?_
  rw [xnew_at 0 2 0]
  · rw [show xrun WW true (FLF F) (Yt (d + 4)) 18 (EL 1) [xr 1 0, xr 0 0, xr 0 0, xr 0 0] [xr 2 0] (xz V 2 0 0) = cv (Yt (d + 4) 119 [xr 2 0] (xz V 2 0 0)) (fun V => xrun WW true (FLF F) (Yt (d + 4)) 18 (EL 3) [xr 1 0, xr 0 0, xr 0 0, xr 0 0] [xr 2 0] V) from rfl, ctorA d _ rfl, cv_r]
    refine Eq.trans (b := xnew WW (cBeg (VA (xz V 2 0 0))) 22 0 (fun g j V => xrun WW true (FLF F) (Yt (d + 4)) 18 (EL 5) [xr 1 0, xr 2 0, xr 0 0, xr 0 0] [xr g j] V)) rfl ?_
    rw [xnew_at 107 14 0]
    · rw [show xrun WW true (FLF F) (Yt (d + 4)) 18 (EL 5) [xr 1 0, xr 2 0, xr 0 0, xr 0 0] [xr 14 0] (xz (cBeg (VA (xz V 2 0 0))) 14 0 107) = cv (Yt (d + 4) 188 [xr 14 0] (xz (cBeg (VA (xz V 2 0 0))) 14 0 107)) (fun V => xrun WW true (FLF F) (Yt (d + 4)) 18 (EL 7) [xr 1 0, xr 2 0, xr 0 0, xr 0 0] [xr 14 0] V) from rfl, ctorB (d + 2) _ rfl, cv_r]
      rfl
    all_goals rfl
  all_goals first | exact h | rfl
