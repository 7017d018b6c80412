/-! deny -/
theorem Inv.deny {V : XM} (h : Inv V) {r a b : Int} (ir : 0 ≤ r ∧ r < (V 14 0 29)) (ia : 0 ≤ a ∧ a < (V 14 0 9)) (ib : 0 ≤ b ∧ b < (V 14 0 9)) (hab : a ≠ b) (hn : (V 14 0 22) < 300) : Inv (rTell (cTell V (V 14 0 22) 7 r a b) (V 14 0 22) 7 r a b) := by
  obtain ⟨⟨ck1, ck2, ck3, cp1, cp2, cp3, ct1, ct2, ct3, cs1, cs2, cs3, cq1, cq2, cq3, cr1, cr2, cr3, cf1, cf2, cf3, cb1, cb2, cb3, cw1, cw2, cw3, clf, clc⟩, hkin, hpro, husu, hgiv, hthg, hhom, hput, hrin, hsen, hbar, hset, hmos, hpai, hrel, hmap, hdoo, hshe, htab, hwor⟩ := h
  have T : Told V (rTell (cTell V (V 14 0 22) 7 r a b) (V 14 0 22) 7 r a b) 7 (r) (a) (b) (b) := ⟨xu_rw V 33 0 _ _, xu_rw V 34 0 _ _, xu_rw V 35 0 _ _, xu_rw V 36 0 _ _, xu_rw V 85 0 _ _, xu_rw V 86 0 _ _, xu_rw V 87 0 _ _, xu_rw V 88 0 _ _, rfl⟩
  refine ⟨⟨ck1, ck2, ck3, cp1, cp2, cp3, ct1, ct2, ct3, by show 0 ≤ (V 14 0 22) + 1; omega, by show (V 14 0 22) + 1 ≤ 300; omega, rfl, cq1, cq2, cq3, cr1, cr2, cr3, cf1, cf2, cf3, cb1, cb2, cb3, cw1, cw2, cw3, clf, clc⟩, hkin, hpro, husu, hgiv, hthg, hhom, (I_put.tell hput T cs1 (by omega) rfl rfl rfl rfl rfl rfl), hrin, (I_sen.tell hsen T cs1 (by omega) (by omega) (by omega) (by omega) rfl), (I_bar.tell hbar T cs1 (by omega) rfl rfl), (I_set.tell hset T cs1 (by omega) rfl rfl rfl rfl rfl rfl), (I_mos.tell hmos T cs1 (by omega) rfl rfl rfl rfl rfl rfl rfl rfl), (I_pai.tell hpai T cs1 (by omega) rfl rfl rfl rfl rfl rfl rfl rfl rfl), (I_rel.tell hrel T cs1 (by omega) (by omega) rfl rfl rfl rfl rfl), hmap, (I_doo.tell hdoo T cs1 (by omega) rfl rfl), hshe, htab, hwor⟩
theorem Inv.tgs {V : XM} {n s r a b q : Int} {m : Nat} (h : Inv (rTell V n s r a b)) : Inv (rTell (gS V q m) n s r a b) := by
  obtain ⟨h1, h2, h3, h4, h5, h6, h7, h8, h9, h10, h11, h12, h13, h14, h15, h16, h17, h18, h19, h20⟩ := h
  exact ⟨h1, h2, h3, h4, h5, h6, h7, h8, h9, h10, h11, h12, h13, h14, h15, h16, h17, h18, h19, h20⟩
theorem Inv.r56 {V : XM} (h : Inv V) (F : Nat → Int) : Inv (xff V 56 0 0 64 F) := by
  obtain ⟨h1, h2, h3, h4, h5, h6, h7, h8, h9, h10, h11, h12, h13, h14, h15, h16, h17, h18, h19, h20⟩ := h
  exact ⟨h1, h2, h3, h4, h5, h6, h7, h8, h9, h10, h11, h12, h13, h14, h15, h16, h17, h18, h19, h20⟩
/-- the reference's deny, on any memory whose rows of the reference are these -/
theorem r_deny (d : Nat) (V : XM) (h : GR V) {r a b : Int} (cr : (V 14 0 29) ≤ 8) (i : (0 ≤ r ∧ r < (V 14 0 29)) ∧ (0 ≤ a ∧ a < (V 14 0 9)) ∧ (0 ≤ b ∧ b < (V 14 0 9))) (hab : a ≠ b) : ∃ W : XM, (W = V ∨ ∃ n, W = gS V r n) ∧ Yf (d + 30) 262 [xr 14 0, xi r, xi a, xi b] V = if ff (senB3 V 7 r a b) (V 14 0 22).toNat 0 ≠ -9 then some (xi (-3), V) else if (V 14 0 22) = 300 then some (xi (-4), V) else if hbN V r a b ≠ -9 then some (xi (w32 (-100 - hbN V r a b)), W) else some (xi (V 14 0 22), rTell W (V 14 0 22) 7 r a b) := by
  obtain ⟨t1, t2, s1, s2, _⟩ := id h
  obtain ⟨W, w1, w2⟩ := y_hasBy (d + 26) V h (r := r) (a := a) (b := b) (by omega) i.2.1 i.2.2 hab
  refine ⟨W, w2, ?_⟩
  rw [s_X12_deny, y_couple _ V _ _ _ (by omega) ⟨t1, t2⟩, ci_r, ite_b2, if_pos i, if_neg hab, y_rTold _ V _ _ _ _ s1 s2, ci_r]
  by_cases c1 : ff (senB3 V 7 r a b) (V 14 0 22).toNat 0 = -9
  · rw [if_pos c1, if_neg (c := ff (senB3 V 7 r a b) (V 14 0 22).toNat 0 ≠ -9) (fun k => k c1)]
    by_cases c2 : (V 14 0 22) = 300
    · rw [if_pos c2, if_pos c2]
    · rw [if_neg c2, if_neg c2, w1, ci_r]
      have ws : (W 14 0 22) = (V 14 0 22) := by
        rcases w2 with w2 | ⟨n, w2⟩
        · rw [w2]
        · rw [w2]; rfl
      by_cases c3 : hbN V r a b = -9
      · rw [if_pos c3, if_neg (c := hbN V r a b ≠ -9) (fun k => k c3), y_tell _ W _ _ _ _ ws s1 (by omega), ci_r]
      · rw [if_neg c3, if_pos c3, s_X12_against, ci_r]
  · rw [if_neg c1, if_pos c1]
theorem g_deny (d : Nat) (V : XM) (h : Inv V) (r a b : Int) : AG d 150 262 [xi r, xi a, xi b] V := by
  have h' := h
  obtain ⟨⟨ck1, ck2, ck3, cp1, cp2, cp3, ct1, ct2, ct3, cs1, cs2, cs3, cq1, cq2, cq3, cr1, cr2, cr3, cf1, cf2, cf3, cb1, cb2, cb3, cw1, cw2, cw3, clf, clc⟩, hkin, hpro, husu, hgiv, hthg, hhom, hput, hrin, hsen, hbar, hset, hmos, hpai, hrel, hmap, hdoo, hshe, htab, hwor⟩ := h'
  by_cases i : (0 ≤ r ∧ r < (V 14 0 29)) ∧ (0 ≤ a ∧ a < (V 14 0 9)) ∧ (0 ≤ b ∧ b < (V 14 0 9))
  · by_cases hab : a = b
    · exact AG.no (x := xi (-3)) h (by rw [s_X11_deny, y_relatable _ V h, ci_r, ite_b2, if_pos i, if_pos hab]) (by rw [s_X12_deny, y_couple _ V _ _ _ ⟨cr1, cr2⟩ ⟨ct1, ct2⟩, ci_r, ite_b2, if_pos i, if_pos hab])
    have e7 := s3_ff (V := V) (s := 7) (r := r) (a := a) (b := b)
    have hI := hold_iff h i.1 i.2.1 i.2.2 hab
    obtain ⟨W0, q1, q2⟩ := r_deny d V h.gr cr2 i hab
    by_cases c1 : ff (senB3 V 7 r a b) (V 14 0 22).toNat 0 ≠ -9
    · refine AG.no (x := xi (-3)) h ?_ (q2.trans (if_pos c1))
      have : 0 ≤ ff (senB3 V 7 r a b) (V 14 0 22).toNat 0 := by
        rcases e7 with ⟨z, _⟩ | ⟨z, _⟩
        · exact absurd z c1
        · exact z
      clear e7
      rw [s_X11_deny, y_relatable _ V h, ci_r, ite_b2, if_pos i, if_neg hab, y_cTold3 _ V h _ _ _ _ (by omega), ci_r, if_neg (by omega)]
    clear e7
    have c1' : ff (senB3 V 7 r a b) (V 14 0 22).toNat 0 = -9 := by omega
    by_cases c2 : (V 14 0 22) = 300
    · refine AG.no (x := xi (-4)) h ?_ (q2.trans ((if_neg c1).trans (if_pos c2)))
      rw [s_X11_deny, y_relatable _ V h, ci_r, ite_b2, if_pos i, if_neg hab, y_cTold3 _ V h _ _ _ _ (by omega), ci_r, if_pos (by omega), y_full, ci_r, ite_b2, if_pos (by omega)]
    have hC : ∀ X, X = (ci (Yf (d + 29) 39 [xr 10 0, xi r, xi a, xi b] V) fun x8 V7 => if x8 = 0 then ci (Yf (d + 29) 64 [xr 6 0, xi 7, xi r, xi a, xi b] V7) fun x10 V9 => some (xi x10, V9) else ci (Yf (d + 29) 45 [xr 10 0, xi r, xi a, xi b] V7) fun x12 V11 => ci (Yf (d + 29) 122 [xi x12] V11) fun x14 V13 => some (xi x14, V13)) → Yf (d + 30) 150 [xr 2 0, xi r, xi a, xi b] V = X := by
      intro X hX
      rw [s_X11_deny, y_relatable _ V h, ci_r, ite_b2, if_pos i, if_neg hab, y_cTold3 _ V h _ _ _ _ (by omega), ci_r, if_pos (by omega), y_full, ci_r, ite_b2, if_neg (by omega), hX]
    by_cases c3 : hbN V r a b = -9
    · have hb : ¬ bt (V 55 0 ((64 * r + a).toNat)) b.toNat = true := fun k => hI.1.mp k c3
      have hc := hC (some (xi (V 14 0 22), cTell V (V 14 0 22) 7 r a b)) (by rw [y_holds _ V (by omega) (by omega) (by omega), ci_r, ite_b2, if_neg hb, y_sadd _ V _ _ _ _ cs3 cs1 (by omega), ci_r])
      obtain ⟨W, p1, p2⟩ := r_deny d (cTell V (V 14 0 22) 7 r a b) (r := r) (a := a) (b := b) h.gr cr2 i hab
      have p3 := p2.trans ((if_neg (by exact c1)).trans ((if_neg (by exact c2)).trans (if_neg (by exact fun k => k c3))))
      have hIn := Inv.deny h i.1 i.2.1 i.2.2 hab (by omega)
      rcases p1 with p1 | ⟨n, p1⟩
      · rw [p1] at p3
        exact AG.mk hc p3 hIn rfl
      · rw [p1] at p3
        exact AG.mk hc p3 (Inv.tgs hIn) rfl
    · have hb := hI.1.mpr c3
      obtain ⟨W, w1, w2⟩ := y_heldBy (d + 25) V h i.1 i.2.1 i.2.2 hab c3
      have hc := hC (some (xi (w32 (-100 - hbN V r a b)), W)) (by rw [y_holds _ V (by omega) (by omega) (by omega), ci_r, ite_b2, if_pos hb, w1, ci_r, s_X11_against, ci_r])
      rcases w2 with w2 | ⟨F, w2⟩
      · subst w2
        have p3 := q2.trans ((if_neg c1).trans ((if_neg c2).trans (if_pos c3)))
        rcases q1 with q1 | ⟨n, q1⟩
        · subst q1; exact AG.mk hc p3 h rfl
        · subst q1; exact AG.mk hc p3 (h.gs r n) rfl
      · subst w2
        obtain ⟨W, p1, p2⟩ := r_deny d (xff V 56 0 0 64 F) (r := r) (a := a) (b := b) h.gr cr2 i hab
        have p3 := p2.trans ((if_neg (by exact c1)).trans ((if_neg (by exact c2)).trans (if_pos (by exact c3))))
        rcases p1 with p1 | ⟨n, p1⟩
        · subst p1; exact AG.mk hc p3 (h.r56 F) rfl
        · subst p1; exact AG.mk hc p3 ((h.r56 F).gs r n) rfl
  · exact AG.no (x := xi (-1)) h (by rw [s_X11_deny, y_relatable _ V h, ci_r, ite_b2, if_neg i]) (by rw [s_X12_deny, y_couple _ V _ _ _ ⟨cr1, cr2⟩ ⟨ct1, ct2⟩, ci_r, ite_b2, if_neg i])
