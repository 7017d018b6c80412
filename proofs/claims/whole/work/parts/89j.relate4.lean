/-! relate -/
theorem I_rel.relate {V V' : XM} (h : Inv V) {r a b : Int} {F : Nat → Int} (ir : 0 ≤ r ∧ r < (V 14 0 29)) (ia : 0 ≤ a ∧ a < (V 14 0 9)) (ib : 0 ≤ b ∧ b < (V 14 0 9)) (hab : a ≠ b) (hh : hbN V r a b = -9) (hF : JN V r a b F) (T : Told V V' 6 r a b b) (e54 : V' 54 = V 54) (e55 : V' 55 0 = fif (V 55 0) (64 * r) (64 * r + 64) F) (e90 : V' 90 = V 90) (et : (V' 14 0 9) = (V 14 0 9)) (er : (V' 14 0 29) = (V 14 0 29)) : I_rel V' := by
  have hI := hold_iff h ir ia ib hab
  obtain ⟨⟨ck1, ck2, ck3, cp1, cp2, cp3, ct1, ct2, ct3, cs1, cs2, cs3, cq1, cq2, cq3, cr1, cr2, cr3, cf1, cf2, cf3, cb1, cb2, cb3, cw1, cw2, cw3, clf, clc⟩, hkin, hpro, husu, hgiv, hthg, hhom, hput, hrin, hsen, hbar, hset, hmos, hpai, hrel, hmap, hdoo, hshe, htab, hwor⟩ := h
  clear ck1 ck2 ck3 cp1 cp2 cp3 cq1 cq2 cq3 cf1 cf2 cf3 cb1 cb2 cb3 cw1 cw2 cw3 clf clc hkin hpro husu hgiv hthg hhom hput hrin hsen hbar hset hmos hpai hmap hdoo hshe htab hwor
  obtain ⟨_, _, _, _, T5, T6, T7, T8, T9⟩ := T
  have hb : ¬ bt (V 55 0 ((64 * r + a).toNat)) b.toNat = true := fun k => hI.1.mp k hh
  have en : ((V 14 0 22) + 1).toNat = (V 14 0 22).toNat + 1 := by omega
  obtain ⟨f1, f2, f3, f4⟩ := hrel.2.1 r ir.1 ir.2
  unfold I_rel
  rw [e54, e55, e90, et, er, T5, T6, T7, T8, T9, en]
  refine ⟨fun u k1 k2 k3 => ?_, fun q k1 k2 => ?_, fun u w k1 k2 k3 k4 k5 k6 k7 k8 => ?_⟩
  · by_cases hu : u = (V 14 0 22)
    · subst hu
      rw [zup_eq, zup_eq, zup_eq]
      exact ⟨ir.1, ir.2, ia.1, ia.2, ib.1, ib.2, hab⟩
    · rw [zup_ne (by omega)] at k3
      rw [zup_ne (by omega), zup_ne (by omega), zup_ne (by omega)]
      exact hrel.1 u k1 (by omega) k3
  · obtain ⟨x1, x2, x3, x4⟩ := hrel.2.1 q k1 k2
    refine ⟨x1, x2, x3, fun x y g1 g2 g3 g4 => ?_⟩
    rw [glN_rel, glN_rel]
    by_cases hq : q = r
    · subst hq
      rw [fif_in (by omega)]
      by_cases c5 : (V 90 0 (q.toNat)) = 5
      · have G : isG (fun c => V 55 0 (64 * q + (c : Int)).toNat) (fun t => glN (V 85 0) (V 86 0) (V 87 0) (V 88 0) q (V 14 0 22).toNat (t : Int)) := by
          intro u w hu hw
          have := f4 u w (by omega) (by omega) (by omega) (by omega)
          rw [Int.toNat_natCast] at this
          refine this.trans ⟨fun k => ?_, fun k => .inl ⟨c5, k⟩⟩
          rcases k with k | k
          · exact k.2
          · exact absurd c5 k.1
        have G' := isG_mg G (a := a.toNat) (b := b.toNat) (by omega) (by omega) x.toNat y.toNat (by omega) (by omega)
        simp only [show ((a.toNat : Nat) : Int) = a by omega, show ((b.toNat : Nat) : Int) = b by omega, show ((x.toNat : Nat) : Int) = x by omega, show ((y.toNat : Nat) : Int) = y by omega] at G'
        have eF : F (64 * q + x).toNat = if bt (lOr (V 55 0 (64 * q + a).toNat) (V 55 0 (64 * q + b).toNat)) x.toNat = true then lOr (V 55 0 (64 * q + a).toNat) (V 55 0 (64 * q + b).toNat) else V 55 0 (64 * q + x).toNat := by
          rw [hF.1 (f1.trans c5)]
          unfold mgR
          rw [show (64 * q + x).toNat - (64 * q).toNat = x.toNat by omega]
        rw [eF, G']
        simp only [true_and]
        constructor
        · intro k; exact .inl ⟨c5, k⟩
        · rintro (k | k)
          · exact k.2
          · exact absurd c5 k.1
      · rw [hF.2 (fun k => c5 (f1.symm.trans k)) x y g1 g2 g3 g4, f4 x y g1 g2 g3 g4, f1]
        constructor
        · rintro ((k | ⟨_, u, y1, y2, y3, y4, y5⟩) | k | k)
          · exact absurd k.1 c5
          · refine .inr ⟨c5, u, y1, by omega, ?_⟩
            rw [zup_ne (by omega), zup_ne (by omega), zup_ne (by omega), zup_ne (by omega)]
            exact ⟨y3, y4, y5⟩
          · refine .inr ⟨c5, (V 14 0 22), cs1, by omega, ?_⟩
            rw [zup_eq, zup_eq, zup_eq, zup_eq]
            exact ⟨rfl, rfl, .inl ⟨k.1.symm, k.2.symm⟩⟩
          · refine .inr ⟨c5, (V 14 0 22), cs1, by omega, ?_⟩
            rw [zup_eq, zup_eq, zup_eq, zup_eq]
            exact ⟨rfl, rfl, .inr ⟨k.1, k.2.2.symm, k.2.1.symm⟩⟩
        · rintro (k | ⟨_, u, y1, y2, y3, y4, y5⟩)
          · exact absurd k.1 c5
          · by_cases hu : u = (V 14 0 22)
            · subst hu
              rw [zup_eq, zup_eq] at y5
              rcases y5 with y5 | y5
              · exact .inr (.inl ⟨y5.1.symm, y5.2.symm⟩)
              · exact .inr (.inr ⟨y5.1, y5.2.2.symm, y5.2.1.symm⟩)
            · rw [zup_ne (by omega)] at y3 y4 y5
              rw [zup_ne (by omega)] at y5
              exact .inl (.inr ⟨c5, u, y1, by omega, y3, y4, y5⟩)
    · rw [fif_out (by omega), if_neg (fun k => hq k.1.symm), if_neg (fun k => hq k.1.symm), x4 x y g1 g2 g3 g4]
      refine or_congr Iff.rfl (and_congr Iff.rfl ⟨fun ⟨u, y1, y2, y3, y4, y5⟩ => ⟨u, y1, by omega, ?_⟩, fun ⟨u, y1, y2, y3, y4, y5⟩ => ?_⟩)
      · rw [zup_ne (by omega), zup_ne (by omega), zup_ne (by omega), zup_ne (by omega)]
        exact ⟨y3, y4, y5⟩
      · by_cases hu : u = (V 14 0 22)
        · subst hu; rw [zup_eq] at y4; exact absurd y4.symm hq
        · rw [zup_ne (by omega)] at y3 y4 y5
          rw [zup_ne (by omega)] at y5
          exact ⟨u, y1, by omega, y3, y4, y5⟩
  · have old : ∀ z : Int, 0 ≤ z → z < (V 14 0 22) → (V 85 0 (z.toNat)) = 6 → (V 86 0 (z.toNat)) = r → (V 90 0 (r.toNat)) = 4 → ¬ ((V 87 0 (z.toNat)) = b ∧ (V 88 0 (z.toNat)) = a) := fun z z0 z1 z2 z3 z4 z5 =>
      hb ((f4 a b ia.1 (by omega) ib.1 (by omega)).mpr (.inr ⟨by omega, z, z0, z1, z2, z3, .inr ⟨z4, z5⟩⟩))
    by_cases hu : u = (V 14 0 22)
    · subst hu
      rw [zup_eq] at k7 k8
      by_cases hw : w = (V 14 0 22)
      · subst hw
        rw [zup_eq, zup_eq]
        exact fun k => hab k.1
      · rw [zup_ne (by omega)] at k6 k7
        rw [zup_eq, zup_eq, zup_ne (by omega), zup_ne (by omega)]
        exact fun k => old w k3 (by omega) k6 k7.symm k8 ⟨k.2.symm, k.1.symm⟩
    · rw [zup_ne (j := u.toNat) (by omega)] at k5 k7 k8
      by_cases hw : w = (V 14 0 22)
      · subst hw
        rw [zup_eq] at k7
        rw [zup_eq, zup_eq, zup_ne (by omega), zup_ne (by omega)]
        rw [k7] at k8
        exact fun k => old u k1 (by omega) k5 k7 k8 k
      · rw [zup_ne (by omega)] at k6 k7
        rw [zup_ne (j := u.toNat) (by omega), zup_ne (j := w.toNat) (by omega), zup_ne (j := u.toNat) (by omega), zup_ne (j := w.toNat) (by omega)]
        exact hrel.2.2 u w k1 (by omega) k3 (by omega) k5 k6 k7 k8
def cRlt (V : XM) (r a b : Int) (F : Nat → Int) : XM := cTell (xff V 55 0 (64 * r) (64 * r + 64) F) (V 14 0 22) 6 r a b
theorem Inv.relate {V : XM} (h : Inv V) {r a b : Int} {F : Nat → Int} (ir : 0 ≤ r ∧ r < (V 14 0 29)) (ia : 0 ≤ a ∧ a < (V 14 0 9)) (ib : 0 ≤ b ∧ b < (V 14 0 9)) (hab : a ≠ b) (hn : (V 14 0 22) < 300) (hh : hbN V r a b = -9) (hF : JN V r a b F) : Inv (rTell (cRlt V r a b F) (V 14 0 22) 6 r a b) := by
  have h' := h
  obtain ⟨⟨ck1, ck2, ck3, cp1, cp2, cp3, ct1, ct2, ct3, cs1, cs2, cs3, cq1, cq2, cq3, cr1, cr2, cr3, cf1, cf2, cf3, cb1, cb2, cb3, cw1, cw2, cw3, clf, clc⟩, hkin, hpro, husu, hgiv, hthg, hhom, hput, hrin, hsen, hbar, hset, hmos, hpai, hrel, hmap, hdoo, hshe, htab, hwor⟩ := h'
  have T : Told V (rTell (cRlt V r a b F) (V 14 0 22) 6 r a b) 6 (r) (a) (b) (b) := ⟨xu_rw V 33 0 _ _, xu_rw V 34 0 _ _, xu_rw V 35 0 _ _, xu_rw V 36 0 _ _, xu_rw V 85 0 _ _, xu_rw V 86 0 _ _, xu_rw V 87 0 _ _, xu_rw V 88 0 _ _, rfl⟩
  refine ⟨⟨ck1, ck2, ck3, cp1, cp2, cp3, ct1, ct2, ct3, by show 0 ≤ (V 14 0 22) + 1; omega, by show (V 14 0 22) + 1 ≤ 300; omega, rfl, cq1, cq2, cq3, cr1, cr2, cr3, cf1, cf2, cf3, cb1, cb2, cb3, cw1, cw2, cw3, clf, clc⟩, hkin, hpro, husu, hgiv, hthg, hhom, (I_put.tell hput T cs1 (by omega) rfl rfl rfl rfl rfl rfl), hrin, (I_sen.tell hsen T cs1 (by omega) (by omega) (by omega) (by omega) rfl), (I_bar.tell hbar T cs1 (by omega) rfl rfl), (I_set.tell hset T cs1 (by omega) rfl rfl rfl rfl rfl rfl), (I_mos.tell hmos T cs1 (by omega) rfl rfl rfl rfl rfl rfl rfl rfl), (I_pai.tell hpai T cs1 (by omega) rfl rfl rfl rfl rfl rfl rfl rfl rfl), ?_, hmap, (I_doo.tell hdoo T cs1 (by omega) rfl rfl), hshe, htab, hwor⟩
  exact I_rel.relate h ir ia ib hab hh hF T rfl (xff_rw V 55 0 _ _ _) rfl rfl rfl
def GW (V : XM) (r : Int) (W : XM) : Prop := W = V ∨ ∃ n, W = gS V r n
theorem GW.trans {V W X : XM} {r : Int} (h : GW V r W) (k : GW W r X) : GW V r X := by
  rcases h with h | ⟨n, h⟩
  · subst h; exact k
  · subst h
    rcases k with k | ⟨m, k⟩
    · subst k; exact .inr ⟨n, rfl⟩
    · subst k; exact .inr ⟨m, gs_gs V r n m⟩
theorem GW.inv {V W : XM} {r : Int} (h : GW V r W) (k : Inv V) : Inv W := by
  rcases h with h | ⟨n, h⟩
  · subst h; exact k
  · subst h; exact k.gs r n
theorem GW.one {V W : XM} {r : Int} (h : GW V r W) : W 1 = V 1 := by
  rcases h with h | ⟨n, h⟩
  · subst h; rfl
  · subst h; rfl
/-- the reference's relate -/
theorem r_relate (d : Nat) (V : XM) (h : GR V) {r a b : Int} (cr : (V 14 0 29) ≤ 8) (i : (0 ≤ r ∧ r < (V 14 0 29)) ∧ (0 ≤ a ∧ a < (V 14 0 9)) ∧ (0 ≤ b ∧ b < (V 14 0 9))) (hab : a ≠ b) (hf : 0 ≤ (V 90 0 (r.toNat))) : ∃ W W' : XM, GW V r W ∧ GW V r W' ∧ Yf (d + 30) 261 [xr 14 0, xi r, xi a, xi b] V = if hbN V r a b ≠ -9 then some (xi (-3), W) else if (V 14 0 22) = 300 then some (xi (-4), W) else if rlN V r a b ≠ -9 then some (xi (w32 (-100 - rlN V r a b)), W') else some (xi (V 14 0 22), rTell W' (V 14 0 22) 6 r a b) := by
  obtain ⟨t1, t2, s1, s2, _⟩ := id h
  obtain ⟨W, w1, w2⟩ := y_hasBy (d + 25) V h (r := r) (a := a) (b := b) (by omega) i.2.1 i.2.2 hab
  have w2 : GW V r W := w2
  have hW : GR W ∧ (W 14 0 22) = (V 14 0 22) ∧ dnN W r a b = dnN V r a b ∧ (W 14 0 9) = (V 14 0 9) := by
    rcases w2 with k | ⟨n, k⟩
    · subst k; exact ⟨h, rfl, rfl, rfl⟩
    · subst k; exact ⟨h, rfl, rfl, rfl⟩
  obtain ⟨X, u1, u2⟩ := y_rDenied (d + 26) W hW.1 (r := r) (a := a) (b := b) (by omega) (by rw [hW.2.2.2]; exact i.2.1) (by rw [hW.2.2.2]; exact i.2.2)
  have u3 : GW V r X := w2.trans u2
  have hX : (X 14 0 22) = (V 14 0 22) ∧ ooN X r a b = ooN V r a b ∧ (X 90 0 (r.toNat)) = (V 90 0 (r.toNat)) := by
    rcases u3 with k | ⟨n, k⟩
    · subst k; exact ⟨rfl, rfl, rfl⟩
    · subst k; exact ⟨rfl, rfl, rfl⟩
  have oo := fun e => y_rOne e X (r := r) (a := a) (b := b) (by rw [hX.1]; exact s1) (by rw [hX.1]; exact s2) (by omega) i.2.1.1 i.2.2.1 (by rw [hX.2.2]; exact hf)
  refine ⟨W, X, w2, u3, ?_⟩
  have hHas : Yf (d + 29) 256 [xr 14 0, xi r, xi a, xi b] V = some (xi (if hbN V r a b = -9 then 0 else 1), W) := by
    rw [s_X12_has, if_neg hab, w1, ci_r]
    by_cases c : hbN V r a b = -9
    · rw [if_pos c, if_pos c]
    · rw [if_neg c, if_neg c]
  rw [s_X12_relate, y_couple _ V _ _ _ (by omega) ⟨t1, t2⟩, ci_r, ite_b2, if_pos i, if_neg hab, hHas, ci_r]
  unfold rlN
  by_cases c1 : hbN V r a b = -9
  · rw [if_pos c1, if_pos rfl, if_neg (c := hbN V r a b ≠ -9) (fun k => k c1), hW.2.1]
    by_cases c2 : (V 14 0 22) = 300
    · rw [if_pos c2, if_pos c2]
    · rw [if_neg c2, if_neg c2, u1, ci_r, hW.2.2.1]
      by_cases c3 : dnN V r a b = -9
      · rw [if_pos c3, oo, ci_r, hX.2.1, if_neg (c := dnN V r a b ≠ -9) (fun k => k c3)]
        by_cases c4 : ooN V r a b = -9
        · rw [if_pos c4, if_neg (c := ooN V r a b ≠ -9) (fun k => k c4), y_tell _ X _ _ _ _ hX.1 s1 (by omega), ci_r]
        · rw [if_neg c4, if_pos c4, s_X12_against, ci_r]
      · rw [if_neg c3, if_neg c3, if_pos (c := dnN V r a b ≠ -9) c3, if_pos c3, s_X12_against, ci_r]
  · rw [if_neg c1, if_neg (by decide), if_pos c1]
theorem ooN_0 (V : XM) (r a b : Int) : ooN V r a b = -9 ∨ 0 ≤ ooN V r a b := by
  unfold ooN
  have e2 := ff_0 (erB V r a (-9)) (V 14 0 22).toNat
  have e3 := ff_0 (erB V r (-9) b) (V 14 0 22).toNat
  (repeat' split) <;> omega
theorem rlN_0 (V : XM) (r a b : Int) : rlN V r a b = -9 ∨ 0 ≤ rlN V r a b := by
  unfold rlN
  have e2 := dnN_0 V r a b
  have e3 := ooN_0 V r a b
  (repeat' split) <;> omega
theorem g_relate (d : Nat) (V : XM) (h : Inv V) (r a b : Int) : AG d 149 261 [xi r, xi a, xi b] V := by
  have h' := h
  obtain ⟨⟨ck1, ck2, ck3, cp1, cp2, cp3, ct1, ct2, ct3, cs1, cs2, cs3, cq1, cq2, cq3, cr1, cr2, cr3, cf1, cf2, cf3, cb1, cb2, cb3, cw1, cw2, cw3, clf, clc⟩, hkin, hpro, husu, hgiv, hthg, hhom, hput, hrin, hsen, hbar, hset, hmos, hpai, hrel, hmap, hdoo, hshe, htab, hwor⟩ := h'
  by_cases i : (0 ≤ r ∧ r < (V 14 0 29)) ∧ (0 ≤ a ∧ a < (V 14 0 9)) ∧ (0 ≤ b ∧ b < (V 14 0 9))
  · by_cases hab : a = b
    · exact AG.no (x := xi (-3)) h (by rw [s_X11_relate, y_relatable _ V h, ci_r, ite_b2, if_pos i, if_pos hab]) (by rw [s_X12_relate, y_couple _ V _ _ _ ⟨cr1, cr2⟩ ⟨ct1, ct2⟩, ci_r, ite_b2, if_pos i, if_pos hab])
    have hI := hold_iff h i.1 i.2.1 i.2.2 hab
    have hfm := (hrel.2.1 r i.1.1 i.1.2).2.1
    obtain ⟨W, W', q1, q2, q3⟩ := r_relate d V h.gr cr2 i hab hfm
    have r0 := rlN_0 V r a b
    have A := y_cAgRel (d + 26) V h i.1 i.2.1 i.2.2
    by_cases c1 : hbN V r a b ≠ -9
    · refine AG.mk (x := xi (-3)) (V1 := V) ?_ (q3.trans (if_pos c1)) (q1.inv h) q1.one
      rw [s_X11_relate, y_relatable _ V h, ci_r, ite_b2, if_pos i, if_neg hab, y_holds _ V (by omega) (by omega) (by omega), ci_r, ite_b2, if_pos (hI.1.mpr c1)]
    have hb : ¬ bt (V 55 0 ((64 * r + a).toNat)) b.toNat = true := fun k => c1 (hI.1.mp k)
    by_cases c2 : (V 14 0 22) = 300
    · refine AG.mk (x := xi (-4)) (V1 := V) ?_ (q3.trans ((if_neg c1).trans (if_pos c2))) (q1.inv h) q1.one
      rw [s_X11_relate, y_relatable _ V h, ci_r, ite_b2, if_pos i, if_neg hab, y_holds _ V (by omega) (by omega) (by omega), ci_r, ite_b2, if_neg hb, y_full, ci_r, ite_b2, if_pos (by omega)]
    by_cases c3 : rlN V r a b ≠ -9
    · refine AG.mk (x := xi (w32 (-100 - rlN V r a b))) (V1 := V) ?_ (q3.trans ((if_neg c1).trans ((if_neg c2).trans (if_pos c3)))) (q2.inv h) q2.one
      rw [s_X11_relate, y_relatable _ V h, ci_r, ite_b2, if_pos i, if_neg hab, y_holds _ V (by omega) (by omega) (by omega), ci_r, ite_b2, if_neg hb, y_full, ci_r, ite_b2, if_neg (by omega), A, ci_r, if_neg (by omega), s_X11_against, ci_r]
    have hh : hbN V r a b = -9 := by omega
    obtain ⟨F, f1, f2⟩ := y_join (d + 26) V (r := r) (a := a) (b := b) (by omega) (by omega) (by omega) hab
    obtain ⟨X, X', p1, p2, p3⟩ := r_relate d (cRlt V r a b F) (r := r) (a := a) (b := b) h.gr cr2 i hab hfm
    have hIn := Inv.relate h i.1 i.2.1 i.2.2 hab (by omega) hh f2
    have p4 := p3.trans ((if_neg (by exact c1)).trans ((if_neg (by exact c2)).trans (if_neg (by exact c3))))
    have hc : Yf (d + 30) 149 [xr 2 0, xi r, xi a, xi b] V = some (xi (V 14 0 22), cRlt V r a b F) := by
      rw [s_X11_relate, y_relatable _ V h, ci_r, ite_b2, if_pos i, if_neg hab, y_holds _ V (by omega) (by omega) (by omega), ci_r, ite_b2, if_neg hb, y_full, ci_r, ite_b2, if_neg (by omega), A, ci_r, if_pos (by omega), f1, cv_r, y_sadd _ _ _ _ _ _ (by exact cs3) cs1 (by omega), ci_r]
      rfl
    rcases p2 with k | ⟨n, k⟩
    · subst k; exact AG.mk hc p4 hIn rfl
    · subst k; exact AG.mk hc p4 (Inv.tgs hIn) rfl
  · exact AG.no (x := xi (-1)) h (by rw [s_X11_relate, y_relatable _ V h, ci_r, ite_b2, if_neg i]) (by rw [s_X12_relate, y_couple _ V _ _ _ ⟨cr1, cr2⟩ ⟨ct1, ct2⟩, ci_r, ite_b2, if_neg i])
