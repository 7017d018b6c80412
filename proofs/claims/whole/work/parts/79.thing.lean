/-! thing -/
def xfl4 (V : XM) (lo hi : Int) : XM := xfl (xfl (xfl (xfl V 57 0 lo hi 0) 58 0 lo hi (-9)) 59 0 lo hi (-9)) 60 0 lo hi (-9)
theorem xfl4_s (V : XM) {lo hi : Int} (h0 : 0 ≤ lo) (h1 : lo < hi) : xfl4 (cEx V lo 0 (-9) (-9) (-9)) (lo + 1) hi = xfl4 V lo hi := by
  unfold xfl4 cEx
  rw [xfl_xu (g := 57) (g' := 60) (by decide), xfl_xu (g := 57) (g' := 59) (by decide), xfl_xu (g := 57) (g' := 58) (by decide), xfl_s _ 57 0 _ _ _ h0 h1, xfl_xu (g := 58) (g' := 60) (by decide), xfl_xu (g := 58) (g' := 59) (by decide), xfl_s _ 58 0 _ _ _ h0 h1, xfl_xu (g := 59) (g' := 60) (by decide), xfl_s _ 59 0 _ _ _ h0 h1, xfl_s _ 60 0 _ _ _ h0 h1]
theorem xfl4_0 (V : XM) (lo : Int) : xfl4 V lo lo = V := by
  unfold xfl4; rw [xfl_0, xfl_0, xfl_0, xfl_0]
theorem x_rooms (d : Nat) : ∀ (m : Nat) (V : XM) (t l : Int), (8 - l).toNat ≤ m → 0 ≤ l → l ≤ 8 → 0 ≤ t → t < 64 → Xf (d + 1) 50 2 [xr 11 0, xi t, xi l] [] V = some (xi 0, xu (xfl4 V (8 * t + l) (8 * t + 8)) 61 0 t.toNat (-9)) := by
  intro m
  induction m with
  | zero =>
    intro V t l hm h0 h1 h2 h3
    have hl : l = 8 := by omega
    subst hl
    rw [s_X3_begin_2, if_neg (by omega), if_pos ⟨h2, h3⟩, xfl4_0]
  | succ m ih =>
    intro V t l hm h0 h1 h2 h3
    by_cases hl : l < 8
    · have e : w32 (w32 (t * 8) + l) = 8 * t + l := by rw [w32_add, w32_i (by omega) (by omega)]; omega
      rw [s_X3_begin_2, if_pos hl, e, y_cWrite _ _ _ _ _ _ (by omega) (by omega), cv_r, w32_i (by omega) (by omega), ih _ t (l + 1) (by omega) (by omega) (by omega) h2 h3, show 8 * t + (l + 1) = (8 * t + l) + 1 by omega, xfl4_s _ (by omega) (by omega)]
    · have hl : l = 8 := by omega
      subst hl
      rw [s_X3_begin_2, if_neg (by omega), if_pos ⟨h2, h3⟩, xfl4_0]
def cT1 (V : XM) (t a b x : Int) : XM := xu (xu (xu (xu (xu (xu (xu V 20 0 t.toNat a) 21 0 t.toNat x) 22 0 t.toNat b) 23 0 t.toNat b) 24 0 t.toNat b) 25 0 t.toNat 0) 4 0 7 (t + 1)
def cT2 (V : XM) (t : Int) : XM := xu (xu (xu (xu (xu (xu (xu (xu V 38 0 t.toNat 0) 39 0 t.toNat (-9)) 40 0 t.toNat 0) 41 0 t.toNat 0) 42 0 t.toNat (-9)) 43 0 t.toNat 0) 44 0 t.toNat 0) 45 0 t.toNat (-9)
def cThg (V : XM) (t a b x : Int) : XM := xu (xfl4 (cT2 (cT1 V t a b x) t) (8 * t) (8 * t + 8)) 61 0 t.toNat (-9)
def rThg (V : XM) (t a b : Int) : XM := xu (xu (xu (xu (xu (xu (xu (xu (xu V 14 0 9 (t + 1)) 73 0 t.toNat a) 74 0 t.toNat b) 75 0 t.toNat b) 76 0 t.toNat b) 77 0 t.toNat 0) 80 0 t.toNat 0) 81 0 t.toNat 0) 82 0 t.toNat (-9)
theorem c_thing (d : Nat) (V : XM) (h : Inv V) (a b : Int) : Yf (d + 30) 128 [xr 2 0, xi a, xi b] V = if ¬ (0 ≤ a ∧ a < (V 14 0 1)) then some (xi (-1), V) else if ¬ (0 ≤ b ∧ b ≤ 1000) then some (xi (-2), V) else if (V 14 0 9) = 64 then some (xi (-4), V) else some (xi (V 14 0 9), cThg V (V 14 0 9) a b (kbase (V 67 0) a)) := by
  obtain ⟨⟨ck1, ck2, ck3, cp1, cp2, cp3, ct1, ct2, ct3, cs1, cs2, cs3, cq1, cq2, cq3, cr1, cr2, cr3, cf1, cf2, cf3, cb1, cb2, cb3, cw1, cw2, cw3, clf, clc⟩, hkin, hpro, husu, hgiv, hthg, hhom, hput, hrin, hsen, hbar, hset, hmos, hpai, hrel, hmap, hdoo, hshe, htab, hwor⟩ := h
  clear cp1 cp2 cp3 cq1 cq2 cq3 cr1 cr2 cr3 cf1 cf2 cf3 cb1 cb2 cb3 cw1 cw2 cw3 clf clc cs1 cs2 cs3
  rw [s_X11_thing, y_kindsHas, ci_r, ite_b2]
  by_cases i1 : 0 ≤ a ∧ a < (V 14 0 1)
  · rw [if_pos (by omega), if_neg (c := ¬ (0 ≤ a ∧ a < (V 14 0 1))) (fun k => k i1)]
    by_cases i2 : 0 ≤ b ∧ b ≤ 1000
    · rw [if_neg (by omega), if_neg (by omega), if_neg (c := ¬ (0 ≤ b ∧ b ≤ 1000)) (fun k => k i2)]
      by_cases i3 : (V 14 0 9) = 64
      · rw [if_neg (by omega), if_pos i3]
      · have e1 : ∀ e, Yf (e + 2) 89 [xr 4 0, xi a, xi b] V = some (xi (V 14 0 9), cT1 V (V 14 0 9) a b (kbase (V 67 0) a)) := by
          intro e
          rw [s_X8_add, ct3, if_pos (by omega), y_baseOf _ _ (V 67 0) (N := (V 14 0 1)) (by exact hkin.1) (by exact hkin.2.1) _ i1.1 i1.2, ci_r]
          have e7 : (xu V 20 0 (V 14 0 9).toNat a) 4 0 7 = (V 14 0 9) := ct3
          rw [e7, if_pos (by omega), if_pos (by omega), if_pos (by omega), if_pos (by omega), if_pos (by omega), w32_i (by omega) (by omega)]
          rfl
        rw [if_pos (by omega), if_neg i3, e1, ci_r, s_X1_begin, if_pos (by omega), if_pos (by omega), if_pos (by omega), if_pos (by omega), if_pos (by omega), if_pos (by omega), if_pos (by omega), if_pos (by omega), cv_r, s_X3_begin, x_rooms _ 8 _ _ 0 (by omega) (by omega) (by omega) (by omega) (by omega), cv_r, show 8 * (V 14 0 9) + 0 = 8 * (V 14 0 9) by omega]
        rfl
    · rw [if_pos (c := ¬ (0 ≤ b ∧ b ≤ 1000)) i2]
      by_cases i3 : b < 0
      · rw [if_pos i3]
      · rw [if_neg i3, if_pos (by omega)]
  · rw [if_neg (by omega), if_pos (c := ¬ (0 ≤ a ∧ a < (V 14 0 1))) i1]
theorem r_thing (d : Nat) (V : XM) (a b : Int) (ck1 : 6 ≤ (V 14 0 1)) (ck2 : (V 14 0 1) ≤ 24) (ct1 : 0 ≤ (V 14 0 9)) (ct2 : (V 14 0 9) ≤ 64) : Yf (d + 30) 209 [xr 14 0, xi a, xi b] V = if ¬ (0 ≤ a ∧ a < (V 14 0 1)) then some (xi (-1), V) else if ¬ (0 ≤ b ∧ b ≤ 1000) then some (xi (-2), V) else if (V 14 0 9) = 64 then some (xi (-4), V) else some (xi (V 14 0 9), rThg V (V 14 0 9) a b) := by
  rw [s_X12_thing, y_isKind _ _ _ (by omega), ci_r, ite_b2]
  by_cases i1 : 0 ≤ a ∧ a < (V 14 0 1)
  · rw [if_pos i1, if_neg (c := ¬ (0 ≤ a ∧ a < (V 14 0 1))) (fun k => k i1), y_in, ci_r, ite_b2]
    by_cases i2 : 0 ≤ b ∧ b ≤ 1000
    · rw [if_pos i2, if_neg (c := ¬ (0 ≤ b ∧ b ≤ 1000)) (fun k => k i2)]
      by_cases i3 : (V 14 0 9) = 64
      · rw [if_pos i3, if_pos i3]
      · rw [if_neg i3, if_neg i3, if_pos (by omega), if_pos (by omega), if_pos (by omega), if_pos (by omega), if_pos (by omega), if_pos (by omega), if_pos (by omega), if_pos (by omega), w32_i (by omega) (by omega)]
        rfl
    · rw [if_neg i2, if_pos (c := ¬ (0 ≤ b ∧ b ≤ 1000)) i2]
  · rw [if_neg i1, if_pos (c := ¬ (0 ≤ a ∧ a < (V 14 0 1))) i1]
theorem Inv.thing {V : XM} (h : Inv V) {a b x : Int} (ha : 0 ≤ a ∧ a < (V 14 0 1)) (hb : 0 ≤ b ∧ b ≤ 1000) (hx : kbase (V 67 0) a = x) (hx5 : 0 ≤ x ∧ x ≤ 5) (h64 : (V 14 0 9) < 64) : Inv (rThg (cThg V (V 14 0 9) a b x) (V 14 0 9) a b) := by
  obtain ⟨⟨ck1, ck2, ck3, cp1, cp2, cp3, ct1, ct2, ct3, cs1, cs2, cs3, cq1, cq2, cq3, cr1, cr2, cr3, cf1, cf2, cf3, cb1, cb2, cb3, cw1, cw2, cw3, clf, clc⟩, hkin, hpro, husu, hgiv, hthg, hhom, hput, hrin, hsen, hbar, hset, hmos, hpai, hrel, hmap, hdoo, hshe, htab, hwor⟩ := h
  have hput2 : ∀ s : Int, 0 ≤ s → s < (V 14 0 22) → (V 85 0 (s.toNat)) = 0 → 0 ≤ (V 87 0 (s.toNat)) ∧ (V 87 0 (s.toNat)) < (V 14 0 9) := fun s k1 k2 k3 => by
    obtain ⟨z1, z2, k, z3, z4, z5⟩ := hput.2 s k1 k2 k3
    obtain ⟨_, _, _, _, y5⟩ := (hput.1 _ z1 z2).2 k z3 z4
    obtain ⟨_, q2, q3, _⟩ := (hhom _ z1 z2).2.2.2.2.2 k z3 z4
    rw [z5] at y5
    rw [y5]
    exact ⟨q2, q3⟩
  generalize hW : rThg (cThg V (V 14 0 9) a b x) (V 14 0 9) a b = W
  generalize ht : (V 14 0 9) = t at *
  have e : W = rThg (cThg V t a b x) t a b := hW.symm
  have en : (W 14 0 9) = t + 1 := by rw [e]; rfl
  have ek : (W 14 0 1) = (V 14 0 1) := by rw [e]; rfl
  have eq : (W 14 0 3) = (V 14 0 3) := by rw [e]; rfl
  have es : (W 14 0 22) = (V 14 0 22) := by rw [e]; rfl
  have ep : (W 14 0 27) = (V 14 0 27) := by rw [e]; rfl
  have er : (W 14 0 29) = (V 14 0 29) := by rw [e]; rfl
  have esh : (W 14 0 39) = (V 14 0 39) := by rw [e]; rfl
  have z20 : W 20 0 = zup (V 20 0) t.toNat a := by rw [e]; exact xu_rw V 20 0 _ _
  have z21 : W 21 0 = zup (V 21 0) t.toNat x := by rw [e]; exact xu_rw V 21 0 _ _
  have z22 : W 22 0 = zup (V 22 0) t.toNat b := by rw [e]; exact xu_rw V 22 0 _ _
  have z23 : W 23 0 = zup (V 23 0) t.toNat b := by rw [e]; exact xu_rw V 23 0 _ _
  have z24 : W 24 0 = zup (V 24 0) t.toNat b := by rw [e]; exact xu_rw V 24 0 _ _
  have z25 : W 25 0 = zup (V 25 0) t.toNat 0 := by rw [e]; exact xu_rw V 25 0 _ _
  have z38 : W 38 0 = zup (V 38 0) t.toNat 0 := by rw [e]; exact xu_rw V 38 0 _ _
  have z39 : W 39 0 = zup (V 39 0) t.toNat (-9) := by rw [e]; exact xu_rw V 39 0 _ _
  have z40 : W 40 0 = zup (V 40 0) t.toNat 0 := by rw [e]; exact xu_rw V 40 0 _ _
  have z41 : W 41 0 = zup (V 41 0) t.toNat 0 := by rw [e]; exact xu_rw V 41 0 _ _
  have z42 : W 42 0 = zup (V 42 0) t.toNat (-9) := by rw [e]; exact xu_rw V 42 0 _ _
  have z43 : W 43 0 = zup (V 43 0) t.toNat 0 := by rw [e]; exact xu_rw V 43 0 _ _
  have z44 : W 44 0 = zup (V 44 0) t.toNat 0 := by rw [e]; exact xu_rw V 44 0 _ _
  have z45 : W 45 0 = zup (V 45 0) t.toNat (-9) := by rw [e]; exact xu_rw V 45 0 _ _
  have z57 : W 57 0 = fil (V 57 0) (8 * t) (8 * t + 8) 0 := by rw [e]; exact xfl_rw V 57 0 _ _ _
  have z58 : W 58 0 = fil (V 58 0) (8 * t) (8 * t + 8) (-9) := by rw [e]; exact xfl_rw V 58 0 _ _ _
  have z59 : W 59 0 = fil (V 59 0) (8 * t) (8 * t + 8) (-9) := by rw [e]; exact xfl_rw V 59 0 _ _ _
  have z60 : W 60 0 = fil (V 60 0) (8 * t) (8 * t + 8) (-9) := by rw [e]; exact xfl_rw V 60 0 _ _ _
  have z61 : W 61 0 = zup (V 61 0) t.toNat (-9) := by rw [e]; exact xu_rw V 61 0 _ _
  have z73 : W 73 0 = zup (V 73 0) t.toNat a := by rw [e]; exact xu_rw V 73 0 _ _
  have z74 : W 74 0 = zup (V 74 0) t.toNat b := by rw [e]; exact xu_rw V 74 0 _ _
  have z75 : W 75 0 = zup (V 75 0) t.toNat b := by rw [e]; exact xu_rw V 75 0 _ _
  have z76 : W 76 0 = zup (V 76 0) t.toNat b := by rw [e]; exact xu_rw V 76 0 _ _
  have z77 : W 77 0 = zup (V 77 0) t.toNat 0 := by rw [e]; exact xu_rw V 77 0 _ _
  have z80 : W 80 0 = zup (V 80 0) t.toNat 0 := by rw [e]; exact xu_rw V 80 0 _ _
  have z81 : W 81 0 = zup (V 81 0) t.toNat 0 := by rw [e]; exact xu_rw V 81 0 _ _
  have z82 : W 82 0 = zup (V 82 0) t.toNat (-9) := by rw [e]; exact xu_rw V 82 0 _ _
  have zo : ∀ g, (g = 29 ∨ g = 30 ∨ g = 31 ∨ g = 32 ∨ g = 33 ∨ g = 34 ∨ g = 35 ∨ g = 36 ∨ g = 37 ∨ g = 46 ∨ g = 47 ∨ g = 48 ∨ g = 49 ∨ g = 54 ∨ g = 55 ∨ g = 67 ∨ g = 69 ∨ g = 71 ∨ g = 72 ∨ g = 78 ∨ g = 79 ∨ g = 83 ∨ g = 84 ∨ g = 85 ∨ g = 86 ∨ g = 87 ∨ g = 88 ∨ g = 90 ∨ g = 95 ∨ g = 96 ∨ g = 97 ∨ g = 98) → W g 0 = V g 0 := by
    intro g hg
    rw [e]
    rcases hg with hg | hg | hg | hg | hg | hg | hg | hg | hg | hg | hg | hg | hg | hg | hg | hg | hg | hg | hg | hg | hg | hg | hg | hg | hg | hg | hg | hg | hg | hg | hg | hg <;> subst hg <;> rfl
  have hcnt : I_cnt W := by
    rw [e]
    exact ⟨ck1, ck2, ck3, cp1, cp2, cp3, by show 0 ≤ t + 1; omega, by show t + 1 ≤ 64; omega, rfl, cs1, cs2, cs3, cq1, cq2, cq3, cr1, cr2, cr3, cf1, cf2, cf3, cb1, cb2, cb3, cw1, cw2, cw3, clf, clc⟩
  have hkin' : I_kin W := by rw [e]; exact hkin
  have hpro' : I_pro W := by rw [e]; exact hpro
  have htab' : I_tab W := by rw [e]; exact htab
  have hwor' : I_wor W := by rw [e]; exact hwor
  have hshe' : I_she W := by
    intro s k1 k2
    rw [esh] at k2
    obtain ⟨s1, s2, s3, s4, s5, s6, s7⟩ := hshe s k1 k2
    rw [en, e]
    refine ⟨s1, s2, s3, s4, s5, s6, fun i g1 g2 => ?_⟩
    obtain ⟨u1, u2⟩ := s7 i g1 g2
    refine ⟨u1, ?_⟩
    rcases u2 with u2 | u2
    · exact .inl u2
    · exact .inr ⟨u2.1, by have := u2.2; show (V 101 0 ((16 * s + i).toNat)) < t + 1; omega⟩
  clear e hW ck1 ck2 ck3 cp1 cp2 cp3 cq1 cq2 cq3 cr1 cr2 cr3 cf1 cf2 cf3 cb1 cb2 cb3 cw1 cw2 cw3 clf clc hpro htab hwor hshe esh ct3 cs3
  have hne : ∀ y : Int, 0 ≤ y → y < t → y.toNat ≠ t.toNat := fun y k1 k2 => by omega
  have husu' : I_usu W := by
    unfold I_usu
    rw [zo 29 (by omega), zo 30 (by omega), zo 69 (by omega), zo 71 (by omega), zo 72 (by omega), en, eq]
    refine ⟨fun q k k1 k2 k3 k4 => ?_, husu.2⟩
    obtain ⟨u1, u2⟩ := husu.1 q k k1 k2 k3 k4
    refine ⟨u1, fun g => ⟨(u2 g).1, fun g8 => ?_⟩⟩
    rcases (u2 g).2 g8 with c | c
    · exact .inl c
    · exact .inr ⟨c.1, by omega⟩
  have hgiv' : I_giv W := by
    unfold I_giv
    rw [zo 31 (by omega), zo 32 (by omega), zo 69 (by omega), zo 83 (by omega), zo 84 (by omega), en, eq]
    intro q k k1 k2 k3 k4
    obtain ⟨u1, u2, u3, u4⟩ := hgiv q k k1 k2 k3 k4
    refine ⟨u1, u2, u3, fun g => ⟨(u4 g).1, fun g8 => ?_⟩⟩
    rcases (u4 g).2 g8 with c | c
    · exact .inl c
    · exact .inr ⟨c.1, by omega⟩
  have hthg' : I_thg W := by
    unfold I_thg
    rw [z20, z21, z22, z23, z24, z25, z73, z74, z75, z76, z77, zo 67 (by omega), en, ek]
    intro y k1 k2
    by_cases hy : y = t
    · subst hy
      rw [zup_eq, zup_eq, zup_eq, zup_eq, zup_eq, zup_eq, zup_eq, zup_eq, zup_eq, zup_eq, zup_eq]
      exact ⟨rfl, ha.1, ha.2, hx, hx5.1, hx5.2, rfl, hb.1, hb.2, rfl, rfl, hb.1, hb.2, rfl, .inl rfl⟩
    · have n1 := hne y k1 (by omega)
      rw [zup_ne n1, zup_ne n1, zup_ne n1, zup_ne n1, zup_ne n1, zup_ne n1, zup_ne n1, zup_ne n1, zup_ne n1, zup_ne n1, zup_ne n1]
      exact hthg y k1 (by omega)
  have hhom' : I_hom W := by
    unfold I_hom
    rw [z21, z38, z80, zo 37 (by omega), zo 78 (by omega), en]
    intro y k1 k2
    by_cases hy : y = t
    · subst hy
      rw [zup_eq, zup_eq, zup_eq]
      exact ⟨rfl, by omega, by omega, fun _ => by omega, fun _ => rfl, fun k g1 g2 => by omega⟩
    · have n1 := hne y k1 (by omega)
      rw [zup_ne n1, zup_ne n1, zup_ne n1]
      obtain ⟨o1, o2, o3, o4, o5, o6⟩ := hhom y k1 (by omega)
      refine ⟨o1, o2, o3, o4, o5, fun k g1 g2 => ?_⟩
      obtain ⟨q1, q2, q3, q4, q5⟩ := o6 k g1 g2
      rw [zup_ne (hne _ q2 (by omega))]
      exact ⟨q1, q2, by omega, q4, q5⟩
  have hput' : I_put W := by
    unfold I_put
    rw [z21, z39, z80, zo 78 (by omega), zo 79 (by omega), zo 85 (by omega), zo 86 (by omega), zo 87 (by omega), en, es]
    refine ⟨fun y k1 k2 => ?_, fun s k1 k2 k3 => ?_⟩
    · by_cases hy : y = t
      · subst hy
        rw [zup_eq, zup_eq, zup_eq]
        exact ⟨fun _ k => by omega, fun k g1 g2 => by omega⟩
      · have n1 := hne y k1 (by omega)
        rw [zup_ne n1, zup_ne n1, zup_ne n1]
        exact hput.1 y k1 (by omega)
    · obtain ⟨z1, z2, k, z3, z4, z5⟩ := hput.2 s k1 k2 k3
      refine ⟨z1, by omega, k, z3, ?_, z5⟩
      rw [zup_ne (hne _ z1 (by omega))]
      exact z4
  have hrin' : I_rin W := by
    obtain ⟨r, hr⟩ := hrin
    unfold I_rin
    rw [z21, z80, zo 78 (by omega), en]
    refine ⟨r, fun y k1 k2 k3 k4 => ?_⟩
    by_cases hy : y = t
    · subst hy; rw [zup_eq] at k4; omega
    · have n1 := hne y k1 (by omega)
      rw [zup_ne n1] at k3 k4
      exact hr y k1 (by omega) k3 k4
  have hsen' : I_sen W := by
    unfold I_sen
    rw [zo 33 (by omega), zo 34 (by omega), zo 35 (by omega), zo 36 (by omega), zo 85 (by omega), zo 86 (by omega), zo 87 (by omega), zo 88 (by omega), en, es]
    intro s k1 k2
    obtain ⟨x1, x2, x3, x4, x5, x6, x7, x8⟩ := hsen s k1 k2
    exact ⟨x1, x2, x3, x4, x5, x6, x7, fun k => ⟨(x8 k).1, by have := (x8 k).2; omega⟩⟩
  have hbar' : I_bar W := by
    unfold I_bar
    rw [z40, zo 85 (by omega), zo 86 (by omega), zo 87 (by omega), en, es]
    refine ⟨fun s k1 k2 k3 => ?_, fun y w k1 k2 k3 k4 => ?_⟩
    · obtain ⟨a1, a2, a3, a4⟩ := hbar.1 s k1 k2 k3
      exact ⟨a1, by omega, a3, by omega⟩
    · by_cases hy : y = t
      · subst hy
        rw [zup_eq, bt_0]
        constructor
        · intro k; cases k
        · rintro ⟨s, g1, g2, g3, g4, _⟩
          have := (hbar.1 s g1 g2 g3).2.1
          omega
      · rw [zup_ne (hne y k1 (by omega))]
        exact hbar.2 y w k1 (by omega) k3 k4
  have hset' : I_set W := by
    unfold I_set
    rw [z21, z40, z41, z42, z81, zo 85 (by omega), zo 86 (by omega), en, es]
    intro y k1 k2
    by_cases hy : y = t
    · subst hy
      rw [zup_eq, zup_eq, zup_eq, zup_eq, zup_eq]
      refine ⟨rfl, c64_0, .inl ⟨rfl, rfl⟩, fun s g1 g2 g3 g4 g5 => ?_, fun w g1 g2 g3 => ?_⟩
      · have := ((hsen s g2 g3).2.2.2.2.2.2.2 (.inl g4)).2
        omega
      · rw [bt_0] at g3; cases g3
    · have n1 := hne y k1 (by omega)
      rw [zup_ne n1, zup_ne n1, zup_ne n1, zup_ne n1, zup_ne n1]
      obtain ⟨x1, x2, x3, x4, x5⟩ := hset y k1 (by omega)
      refine ⟨x1, x2, x3, x4, fun w g1 g2 g3 => ?_⟩
      obtain ⟨u1, u2, u3, u4⟩ := x5 w g1 g2 g3
      rw [zup_ne (hne w g1 (by omega))]
      exact ⟨by omega, u2, u3, u4⟩
  have hmos' : I_mos W := by
    unfold I_mos
    rw [z21, z43, z44, z45, z80, z82, zo 78 (by omega), zo 85 (by omega), zo 86 (by omega), zo 87 (by omega), en, es]
    have c1 : ∀ w : Int, cnt (fun y => decide (zup (V 21 0) t.toNat x y ≠ 3 ∧ 0 < zup (V 80 0) t.toNat 0 y ∧ V 78 0 (6 * y) = w)) (t + 1).toNat = cnt (fun y => decide (V 21 0 y ≠ 3 ∧ 0 < V 80 0 y ∧ V 78 0 (6 * y) = w)) t.toNat := fun w => by
      rw [cnt_s _ ct1, if_neg (by simp only [decide_eq_true_eq, zup_eq]; omega), Int.add_zero]
      refine cnt_congr (fun k hk => ?_)
      have n1 : k ≠ t.toNat := by omega
      rw [zup_ne n1, zup_ne n1]
    have c2 : ∀ w : Int, cnt (fun s => decide (V 85 0 s = 0 ∧ V 87 0 s = w ∧ zup (V 21 0) t.toNat x (V 86 0 s).toNat ≠ 3)) (V 14 0 22).toNat = cnt (fun s => decide (V 85 0 s = 0 ∧ V 87 0 s = w ∧ V 21 0 (V 86 0 s).toNat ≠ 3)) (V 14 0 22).toNat := fun w => by
      refine cnt_congr (fun k hk => ?_)
      by_cases h0 : V 85 0 k = 0
      · have := hput.2 k (by omega) (by omega) (by rw [Int.toNat_natCast]; exact h0)
        rw [Int.toNat_natCast] at this
        rw [zup_ne (hne _ this.1 (by omega))]
      · simp only [h0, false_and]
    intro w k1 k2
    rw [c1, c2]
    by_cases hy : w = t
    · subst hy
      rw [zup_eq, zup_eq, zup_eq, zup_eq]
      refine ⟨?_, ?_, rfl, .inl rfl⟩
      · refine (Eq.trans (cnt_congr (g := fun _ => false) (fun k hk => ?_)) ?_).symm
        · simp only [decide_eq_false_iff_not]
          rintro ⟨_, g2, g3⟩
          obtain ⟨_, q2, q3, _⟩ := (hhom k (by omega) (by omega)).2.2.2.2.2 0 (by omega) (by rw [Int.toNat_natCast]; exact g2)
          rw [show (6 * (k : Int) + 0).toNat = 6 * k by omega, g3] at q3
          omega
        · have : ∀ n, cnt (fun _ => false) n = 0 := fun n => by
            induction n with
            | zero => rfl
            | succ n ih => unfold cnt; rw [ih]; rfl
          exact this _
      · refine (Eq.trans (cnt_congr (g := fun _ => false) (fun k hk => ?_)) ?_).symm
        · simp only [decide_eq_false_iff_not]
          rintro ⟨g1, g2, _⟩
          have := hput2 k (by omega) (by omega) (by rw [Int.toNat_natCast]; exact g1)
          rw [Int.toNat_natCast, g2] at this
          omega
        · have : ∀ n, cnt (fun _ => false) n = 0 := fun n => by
            induction n with
            | zero => rfl
            | succ n ih => unfold cnt; rw [ih]; rfl
          exact this _
    · have n1 := hne w k1 (by omega)
      rw [zup_ne n1, zup_ne n1, zup_ne n1, zup_ne n1]
      have := hmos w k1 (by omega)
      rw [ht] at this
      exact this
  have hpai' : I_pai W := by
    unfold I_pai
    rw [z21, z80, zo 46 (by omega), zo 47 (by omega), zo 48 (by omega), zo 49 (by omega), zo 78 (by omega), zo 85 (by omega), zo 86 (by omega), zo 87 (by omega), zo 88 (by omega), en, es, ep]
    refine ⟨fun p k1 k2 => ?_, hpai.2⟩
    obtain ⟨y1, y2, y3, y4, y5, y6, y7, y8, y9, y10, y11, y12, y13, y14, y15, y16⟩ := hpai.1 p k1 k2
    have n1 := hne _ y8 (by omega)
    have n2 := hne _ y10 (by omega)
    rw [zup_ne n1, zup_ne n2, zup_ne n1, zup_ne n2]
    exact ⟨y1, y2, y3, y4, y5, y6, y7, y8, by omega, y10, by omega, y12, y13, y14, y15, y16⟩
  have hrel' : I_rel W := by
    unfold I_rel
    rw [zo 54 (by omega), zo 55 (by omega), zo 85 (by omega), zo 86 (by omega), zo 87 (by omega), zo 88 (by omega), zo 90 (by omega), en, es, er]
    refine ⟨fun s k1 k2 k3 => ?_, hrel.2⟩
    obtain ⟨y1, y2, y3, y4, y5, y6, y7⟩ := hrel.1 s k1 k2 k3
    exact ⟨y1, y2, y3, by omega, y5, by omega, y7⟩
  have hmap' : I_map W := by
    unfold I_map
    rw [z21, z57, z58, z59, z60, zo 95 (by omega), zo 96 (by omega), zo 97 (by omega), zo 98 (by omega), en]
    intro f k1 k2
    obtain ⟨m1, m2⟩ := hmap f k1 k2
    refine ⟨fun k => m1 (by omega), fun k => ?_⟩
    by_cases hf : f < 8 * t
    · rw [fil_out (by omega), fil_out (by omega), fil_out (by omega), fil_out (by omega)]
      obtain ⟨r1, r2, r3, r4, r5, r6, r7, r8, r9, r10⟩ := m2 (by omega)
      refine ⟨r1, r2, r3, r4, r5, r6, r7, r8, fun g => ?_, fun g => ⟨(r10 g).1, by have := (r10 g).2; omega⟩⟩
      obtain ⟨u1, u2, u3⟩ := r9 g
      rw [zup_ne (hne _ u1 (by omega))]
      exact ⟨u1, by omega, u3⟩
    · obtain ⟨r1, r2, r3⟩ := m1 (by omega)
      rw [fil_in (by omega), fil_in (by omega), fil_in (by omega), fil_in (by omega), r1, r2, r3]
      exact ⟨rfl, rfl, rfl, by rw [if_neg (by omega)], by omega, by omega, .inr ⟨by omega, rfl⟩, fun _ => rfl, fun g => by omega, fun g => by omega⟩
  have hdoo' : I_doo W := by
    unfold I_doo
    rw [z61, zo 85 (by omega), zo 86 (by omega), en, es]
    intro y k1 k2
    by_cases hy : y = t
    · subst hy
      rw [zup_eq]
      refine .inl ⟨rfl, fun s g1 g2 g3 g4 => ?_⟩
      have := ((hsen s g1 g2).2.2.2.2.2.2.2 (.inr g3)).2
      omega
    · rw [zup_ne (hne y k1 (by omega))]
      exact hdoo y k1 (by omega)
  exact ⟨hcnt, hkin', hpro', husu', hgiv', hthg', hhom', hput', hrin', hsen', hbar', hset', hmos', hpai', hrel', hmap', hdoo', hshe', htab', hwor'⟩
theorem g_thing (d : Nat) (V : XM) (h : Inv V) (a b : Int) : AG d 128 209 [xi a, xi b] V := by
  have h' := h
  obtain ⟨⟨ck1, ck2, ck3, cp1, cp2, cp3, ct1, ct2, ct3, cs1, cs2, cs3, cq1, cq2, cq3, cr1, cr2, cr3, cf1, cf2, cf3, cb1, cb2, cb3, cw1, cw2, cw3, clf, clc⟩, hkin, hpro, husu, hgiv, hthg, hhom, hput, hrin, hsen, hbar, hset, hmos, hpai, hrel, hmap, hdoo, hshe, htab, hwor⟩ := h'
  have hC := c_thing d V h a b
  have hR0 := r_thing d V a b ck1 ck2 ct1 ct2
  by_cases i1 : ¬ (0 ≤ a ∧ a < (V 14 0 1))
  · exact AG.no h (hC.trans (if_pos i1)) (hR0.trans (if_pos i1))
  rw [if_neg i1] at hC
  by_cases i2 : ¬ (0 ≤ b ∧ b ≤ 1000)
  · exact AG.no h (hC.trans (if_pos i2)) (hR0.trans ((if_neg i1).trans (if_pos i2)))
  rw [if_neg i2] at hC
  by_cases i3 : (V 14 0 9) = 64
  · exact AG.no h (hC.trans (if_pos i3)) (hR0.trans ((if_neg i1).trans ((if_neg i2).trans (if_pos i3))))
  rw [if_neg i3] at hC
  have hk := kbase_in hkin.1 a.toNat a (Nat.le_refl _) (by omega) (by omega)
  exact AG.mk hC ((r_thing d _ a b (by exact ck1) (by exact ck2) (by exact ct1) (by exact ct2)).trans ((if_neg (by exact i1)).trans ((if_neg (by exact i2)).trans (if_neg (by exact i3))))) (Inv.thing h (by omega) (by omega) rfl (by omega) (by omega)) rfl
