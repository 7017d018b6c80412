/-! exit and door -/
theorem I_map.tell {V W : XM} (h : I_map V) (e : ∀ g, (g = 57 ∨ g = 58 ∨ g = 59 ∨ g = 60 ∨ g = 95 ∨ g = 96 ∨ g = 97 ∨ g = 98 ∨ g = 21) → W g 0 = V g 0) (et : (W 14 0 9) = (V 14 0 9)) : I_map W := by
  unfold I_map
  rw [e 57 (by omega), e 58 (by omega), e 59 (by omega), e 60 (by omega), e 95 (by omega), e 96 (by omega), e 97 (by omega), e 98 (by omega), e 21 (by omega), et]
  exact h
def exS (V : XM) (n a b c s : Int) : XM := rEx (rTell (cEx (cTell V n 8 a b c) (8 * a + b) s c (-9) n) n 8 a b c) (8 * a + b) s c n (-9)
def exT (V : XM) (n a b c f : Int) : XM := rEx (rEx (rTell (cEx (cEx (cTell V n 8 a b c) (8 * a + b) 2 c (-9) n) f 1 a (-9) (-9)) n 8 a b c) (8 * a + b) 2 c n (-9)) f 1 a (-9) (-9)
theorem Inv.mexS {V : XM} (h : Inv V) {a b c s : Int} (ia : 0 ≤ a ∧ a < (V 14 0 9)) (ib : 0 ≤ b ∧ b < 8) (hs : s = 2 ∨ s = 4) (hn : (V 14 0 22) < 300) (h4 : s = 4 → c = -9) (h2 : s = 2 → 0 ≤ c ∧ c < (V 14 0 9) ∧ (V 21 0 (c.toNat)) = 1) : Inv (exS V (V 14 0 22) a b c s) := by
  obtain ⟨⟨ck1, ck2, ck3, cp1, cp2, cp3, ct1, ct2, ct3, cs1, cs2, cs3, cq1, cq2, cq3, cr1, cr2, cr3, cf1, cf2, cf3, cb1, cb2, cb3, cw1, cw2, cw3, clf, clc⟩, hkin, hpro, husu, hgiv, hthg, hhom, hput, hrin, hsen, hbar, hset, hmos, hpai, hrel, hmap, hdoo, hshe, htab, hwor⟩ := h
  have T : Told V (exS V (V 14 0 22) a b c s) 8 (a) (b) (c) (c) := ⟨xu_rw V 33 0 _ _, xu_rw V 34 0 _ _, xu_rw V 35 0 _ _, xu_rw V 36 0 _ _, xu_rw V 85 0 _ _, xu_rw V 86 0 _ _, xu_rw V 87 0 _ _, xu_rw V 88 0 _ _, rfl⟩
  refine ⟨⟨ck1, ck2, ck3, cp1, cp2, cp3, ct1, ct2, ct3, by show 0 ≤ (V 14 0 22) + 1; omega, by show (V 14 0 22) + 1 ≤ 300; omega, rfl, cq1, cq2, cq3, cr1, cr2, cr3, cf1, cf2, cf3, cb1, cb2, cb3, cw1, cw2, cw3, clf, clc⟩, hkin, hpro, husu, hgiv, hthg, hhom, (I_put.tell hput T cs1 (by omega) rfl rfl rfl rfl rfl rfl), hrin, (I_sen.tell hsen T cs1 (by omega) (by omega) (by omega) (by omega) rfl), (I_bar.tell hbar T cs1 (by omega) rfl rfl), (I_set.tell hset T cs1 (by omega) rfl rfl rfl rfl rfl rfl), (I_mos.tell hmos T cs1 (by omega) rfl rfl rfl rfl rfl rfl rfl rfl), (I_pai.tell hpai T cs1 (by omega) rfl rfl rfl rfl rfl rfl rfl rfl rfl), (I_rel.tell hrel T cs1 (by omega) (by omega) rfl rfl rfl rfl rfl), ?_, (I_doo.tell hdoo T cs1 (by omega) rfl rfl), hshe, htab, hwor⟩
  exact I_map.set (W := exS V (V 14 0 22) a b c s) hmap (e := 8 * a + b) (s := s) (t := c) (n := (V 14 0 22)) (dd := -9) (dc := -9) (by omega) (by omega) (by omega) (by omega) (by omega) (by omega) (by rw [if_neg (by omega)]) (xu_rw V 57 0 _ _) (xu_rw V 58 0 _ _) (xu_rw V 59 0 _ _) (xu_rw V 60 0 _ _) (xu_rw V 95 0 _ _) (xu_rw V 96 0 _ _) (xu_rw V 97 0 _ _) (xu_rw V 98 0 _ _) rfl rfl
theorem Inv.mexT {V : XM} (h : Inv V) {a b c f : Int} (ia : 0 ≤ a ∧ a < (V 14 0 9)) (ib : 0 ≤ b ∧ b < 8) (hn : (V 14 0 22) < 300) (h2 : 0 ≤ c ∧ c < (V 14 0 9) ∧ (V 21 0 (c.toNat)) = 1) (ha : (V 21 0 (a.toNat)) = 1) (hf : 0 ≤ f ∧ f < 8 * (V 14 0 9)) : Inv (exT V (V 14 0 22) a b c f) := by
  obtain ⟨⟨ck1, ck2, ck3, cp1, cp2, cp3, ct1, ct2, ct3, cs1, cs2, cs3, cq1, cq2, cq3, cr1, cr2, cr3, cf1, cf2, cf3, cb1, cb2, cb3, cw1, cw2, cw3, clf, clc⟩, hkin, hpro, husu, hgiv, hthg, hhom, hput, hrin, hsen, hbar, hset, hmos, hpai, hrel, hmap, hdoo, hshe, htab, hwor⟩ := h
  have T : Told V (exT V (V 14 0 22) a b c f) 8 (a) (b) (c) (c) := ⟨xu_rw V 33 0 _ _, xu_rw V 34 0 _ _, xu_rw V 35 0 _ _, xu_rw V 36 0 _ _, xu_rw V 85 0 _ _, xu_rw V 86 0 _ _, xu_rw V 87 0 _ _, xu_rw V 88 0 _ _, rfl⟩
  refine ⟨⟨ck1, ck2, ck3, cp1, cp2, cp3, ct1, ct2, ct3, by show 0 ≤ (V 14 0 22) + 1; omega, by show (V 14 0 22) + 1 ≤ 300; omega, rfl, cq1, cq2, cq3, cr1, cr2, cr3, cf1, cf2, cf3, cb1, cb2, cb3, cw1, cw2, cw3, clf, clc⟩, hkin, hpro, husu, hgiv, hthg, hhom, (I_put.tell hput T cs1 (by omega) rfl rfl rfl rfl rfl rfl), hrin, (I_sen.tell hsen T cs1 (by omega) (by omega) (by omega) (by omega) rfl), (I_bar.tell hbar T cs1 (by omega) rfl rfl), (I_set.tell hset T cs1 (by omega) rfl rfl rfl rfl rfl rfl), (I_mos.tell hmos T cs1 (by omega) rfl rfl rfl rfl rfl rfl rfl rfl), (I_pai.tell hpai T cs1 (by omega) rfl rfl rfl rfl rfl rfl rfl rfl rfl), (I_rel.tell hrel T cs1 (by omega) (by omega) rfl rfl rfl rfl rfl), ?_, (I_doo.tell hdoo T cs1 (by omega) rfl rfl), hshe, htab, hwor⟩
  have h1 : I_map (exS V (V 14 0 22) a b c 2) := I_map.set (W := exS V (V 14 0 22) a b c 2) hmap (e := 8 * a + b) (s := 2) (t := c) (n := (V 14 0 22)) (dd := -9) (dc := -9) (by omega) (by omega) (by omega) (by omega) (by omega) (by omega) (by rw [if_neg (by omega)]) (xu_rw V 57 0 _ _) (xu_rw V 58 0 _ _) (xu_rw V 59 0 _ _) (xu_rw V 60 0 _ _) (xu_rw V 95 0 _ _) (xu_rw V 96 0 _ _) (xu_rw V 97 0 _ _) (xu_rw V 98 0 _ _) rfl rfl
  exact I_map.set (W := exT V (V 14 0 22) a b c f) h1 (e := f) (s := 1) (t := a) (n := -9) (dd := -9) (dc := -9) (by exact hf) (by omega) (by omega) (by omega) (by exact fun _ => ⟨ia.1, ia.2, ha⟩) (by omega) (by rw [if_neg (by omega)]) (xu_rw (exS V (V 14 0 22) a b c 2) 57 0 _ _) (xu_rw (exS V (V 14 0 22) a b c 2) 58 0 _ _) (xu_rw (exS V (V 14 0 22) a b c 2) 59 0 _ _) (xu_rw (exS V (V 14 0 22) a b c 2) 60 0 _ _) (xu_rw (exS V (V 14 0 22) a b c 2) 95 0 _ _) (xu_rw (exS V (V 14 0 22) a b c 2) 96 0 _ _) (xu_rw (exS V (V 14 0 22) a b c 2) 97 0 _ _) (xu_rw (exS V (V 14 0 22) a b c 2) 98 0 _ _) rfl rfl
theorem g_exit (d : Nat) (V : XM) (h : Inv V) (a b c : Int) : AG d 155 270 [xi a, xi b, xi c] V := by
  have h' := h
  obtain ⟨⟨ck1, ck2, ck3, cp1, cp2, cp3, ct1, ct2, ct3, cs1, cs2, cs3, cq1, cq2, cq3, cr1, cr2, cr3, cf1, cf2, cf3, cb1, cb2, cb3, cw1, cw2, cw3, clf, clc⟩, hkin, hpro, husu, hgiv, hthg, hhom, hput, hrin, hsen, hbar, hset, hmos, hpai, hrel, hmap, hdoo, hshe, htab, hwor⟩ := h'
  have hb := h.rb
  clear ck1 ck2 ck3 cp1 cp2 cp3 cq1 cq2 cq3 cr1 cr2 cr3 cf1 cf2 cf3 cb1 cb2 cb3 cw1 cw2 cw3 clf clc
  have A1 := fun e => y_cRoom e V a (by omega)
  have A2 := fun e => y_cRoom e V c (by omega)
  have B1 := fun e => y_rRoom e V hb a
  have B2 := fun e => y_rRoom e V hb c
  by_cases ia : 0 ≤ a ∧ a < (V 14 0 9) ∧ (V 21 0 (a.toNat)) = 1
  · by_cases ic : c = -9 ∨ (0 ≤ c ∧ c < (V 14 0 9) ∧ (V 21 0 (c.toNat)) = 1)
    · by_cases ib : 0 ≤ b ∧ b < 8
      · have hC := c_exit d V h ia ic ib
        have hR0 := r_exit d V h.rb cs1 cs2 ia ic ib
        obtain ⟨p1, p2, p3⟩ := opp ib.1 ib.2
        by_cases i1 : ((V 95 0 ((8 * a + b).toNat)) = 2 ∨ (V 95 0 ((8 * a + b).toNat)) = 4) ∧ (V 96 0 ((8 * a + b).toNat)) = c
        · exact AG.no h (hC.trans (if_pos i1)) (hR0.trans (if_pos i1))
        rw [if_neg i1] at hC hR0
        by_cases i2 : (V 14 0 22) = 300
        · exact AG.no h (hC.trans (if_pos i2)) (hR0.trans (if_pos i2))
        rw [if_neg i2] at hC hR0
        by_cases i3 : 2 ≤ (V 95 0 ((8 * a + b).toNat))
        · exact AG.no h (hC.trans (if_pos i3)) (hR0.trans (if_pos i3))
        rw [if_neg i3] at hC hR0
        by_cases i4 : c = -9
        · rw [if_pos i4] at hC
          exact AG.mk hC ((r_exit d _ (by exact h.rb) (by exact cs1) (by exact cs2) (by exact ia) (by exact ic) ib).trans ((if_neg (by exact i1)).trans ((if_neg (by exact i2)).trans ((if_neg (by exact i3)).trans (if_pos i4))))) (Inv.mexS h (s := 4) ⟨ia.1, ia.2.1⟩ ib (.inr rfl) (by omega) (fun _ => i4) (by omega)) rfl
        rw [if_neg i4] at hC
        have ic' : 0 ≤ c ∧ c < (V 14 0 9) ∧ (V 21 0 (c.toNat)) = 1 := ic.resolve_left i4
        by_cases i5 : (V 95 0 ((8 * c + iXor b 1).toNat)) = 0
        · rw [if_pos i5] at hC
          exact AG.mk hC ((r_exit d _ (by exact h.rb) (by exact cs1) (by exact cs2) (by exact ia) (by exact ic) ib).trans ((if_neg (by exact i1)).trans ((if_neg (by exact i2)).trans ((if_neg (by exact i3)).trans ((if_neg i4).trans (if_pos (by exact i5))))))) (Inv.mexT h ⟨ia.1, ia.2.1⟩ ib (by omega) ic' ia.2.2 (by omega)) rfl
        · rw [if_neg i5] at hC
          exact AG.mk hC ((r_exit d _ (by exact h.rb) (by exact cs1) (by exact cs2) (by exact ia) (by exact ic) ib).trans ((if_neg (by exact i1)).trans ((if_neg (by exact i2)).trans ((if_neg (by exact i3)).trans ((if_neg i4).trans (if_neg (by exact i5))))))) (Inv.mexS h (s := 2) ⟨ia.1, ia.2.1⟩ ib (.inl rfl) (by omega) (by omega) (fun _ => ic')) rfl
      · by_cases i4 : c = -9
        · exact AG.no (x := xi (-2)) h (by rw [s_X11_exit, A1, ci_r, ite_b2, if_pos (by omega), if_pos i4, y_inRange, ci_r, ite_b2, if_neg ib]) (by rw [s_X12_exit, B1, ci_r, ite_b2, if_pos ia, if_pos i4, y_in, ci_r, ite_b2, if_neg (by omega)])
        · exact AG.no (x := xi (-2)) h (by rw [s_X11_exit, A1, ci_r, ite_b2, if_pos (by omega), if_neg i4, A2, ci_r, ite_b2, if_pos (by omega), y_inRange, ci_r, ite_b2, if_neg ib]) (by rw [s_X12_exit, B1, ci_r, ite_b2, if_pos ia, if_neg i4, B2, ci_r, ite_b2, if_pos (ic.resolve_left i4), y_in, ci_r, ite_b2, if_neg (by omega)])
    · have i4 : ¬ c = -9 := fun e => ic (.inl e)
      exact AG.no (x := xi (-1)) h (by rw [s_X11_exit, A1, ci_r, ite_b2, if_pos (by omega), if_neg i4, A2, ci_r, ite_b2, if_neg (by omega)]) (by rw [s_X12_exit, B1, ci_r, ite_b2, if_pos ia, if_neg i4, B2, ci_r, ite_b2, if_neg (fun e => ic (.inr e))])
  · exact AG.no (x := xi (-1)) h (by rw [s_X11_exit, A1, ci_r, ite_b2, if_neg (by omega)]) (by rw [s_X12_exit, B1, ci_r, ite_b2, if_neg ia])
/-- the sentence of a door -/
def doB (V : XM) (t : Int) (s : Nat) : Bool := decide ((V 85 0 s) = 9 ∧ (V 86 0 s) = t)
theorem door_ff {V : XM} (h : Inv V) {t : Int} (h0 : 0 ≤ t) (h1 : t < (V 14 0 9)) : ff (doB V t) (V 14 0 22).toNat 0 = (V 61 0 (t.toNat)) := by
  obtain ⟨⟨ck1, ck2, ck3, cp1, cp2, cp3, ct1, ct2, ct3, cs1, cs2, cs3, cq1, cq2, cq3, cr1, cr2, cr3, cf1, cf2, cf3, cb1, cb2, cb3, cw1, cw2, cw3, clf, clc⟩, hkin, hpro, husu, hgiv, hthg, hhom, hput, hrin, hsen, hbar, hset, hmos, hpai, hrel, hmap, hdoo, hshe, htab, hwor⟩ := h
  rcases hdoo t h0 h1 with ⟨x1, x2⟩ | ⟨x1, x2, x3, x4, x5⟩
  · rcases ff_spec (doB V t) (V 14 0 22).toNat 0 with ⟨y1, _⟩ | ⟨s, y1, y2, y3, y4, _⟩
    · rw [y1, x1]
    · unfold doB at y4
      simp only [decide_eq_true_eq] at y4
      exact absurd y4.2 (by have := x2 s (by omega) (by omega) (by rw [Int.toNat_natCast]; exact y4.1); rw [Int.toNat_natCast] at this; exact this)
  · rw [ff_some (s := (V 61 0 (t.toNat)).toNat) (by omega)]
    · omega
    · unfold doB; simp only [decide_eq_true_eq]; exact ⟨x3, x4⟩
    · intro k hk hf
      unfold doB at hf
      simp only [decide_eq_true_eq] at hf
      have := x5 k (by omega) (by omega) (by rw [Int.toNat_natCast]; exact hf.1) (by rw [Int.toNat_natCast]; exact hf.2)
      omega
def cDoor (V : XM) (n a b c e f : Int) : XM := cEx (cEx (xu (cTell V n 9 a b c) 61 0 a.toNat n) (8 * b + c) 3 e a n) f 3 b a n
def rDoor (V : XM) (n a b c e f : Int) : XM := rEx (rEx (rTell V n 9 a b c) (8 * b + c) 3 e n a) f 3 b n a
theorem Inv.door {V : XM} (h : Inv V) {a b c e f : Int} (ia : 0 ≤ a ∧ a < (V 14 0 9)) (ib : 0 ≤ b ∧ b < (V 14 0 9) ∧ (V 21 0 (b.toNat)) = 1) (ie : 0 ≤ e ∧ e < (V 14 0 9) ∧ (V 21 0 (e.toNat)) = 1) (ic : 0 ≤ c ∧ c < 8) (hf : 0 ≤ f ∧ f < 8 * (V 14 0 9)) (hn : (V 14 0 22) < 300) (hd : (V 61 0 (a.toNat)) < 0) : Inv (rDoor (cDoor V (V 14 0 22) a b c e f) (V 14 0 22) a b c e f) := by
  obtain ⟨⟨ck1, ck2, ck3, cp1, cp2, cp3, ct1, ct2, ct3, cs1, cs2, cs3, cq1, cq2, cq3, cr1, cr2, cr3, cf1, cf2, cf3, cb1, cb2, cb3, cw1, cw2, cw3, clf, clc⟩, hkin, hpro, husu, hgiv, hthg, hhom, hput, hrin, hsen, hbar, hset, hmos, hpai, hrel, hmap, hdoo, hshe, htab, hwor⟩ := h
  have T : Told V (rDoor (cDoor V (V 14 0 22) a b c e f) (V 14 0 22) a b c e f) 9 (a) (b) (c) (c) := ⟨xu_rw V 33 0 _ _, xu_rw V 34 0 _ _, xu_rw V 35 0 _ _, xu_rw V 36 0 _ _, xu_rw V 85 0 _ _, xu_rw V 86 0 _ _, xu_rw V 87 0 _ _, xu_rw V 88 0 _ _, rfl⟩
  refine ⟨⟨ck1, ck2, ck3, cp1, cp2, cp3, ct1, ct2, ct3, by show 0 ≤ (V 14 0 22) + 1; omega, by show (V 14 0 22) + 1 ≤ 300; omega, rfl, cq1, cq2, cq3, cr1, cr2, cr3, cf1, cf2, cf3, cb1, cb2, cb3, cw1, cw2, cw3, clf, clc⟩, hkin, hpro, husu, hgiv, hthg, hhom, (I_put.tell hput T cs1 (by omega) rfl rfl rfl rfl rfl rfl), hrin, (I_sen.tell hsen T cs1 (by omega) (by omega) (by omega) (by omega) rfl), (I_bar.tell hbar T cs1 (by omega) rfl rfl), (I_set.tell hset T cs1 (by omega) rfl rfl rfl rfl rfl rfl), (I_mos.tell hmos T cs1 (by omega) rfl rfl rfl rfl rfl rfl rfl rfl), (I_pai.tell hpai T cs1 (by omega) rfl rfl rfl rfl rfl rfl rfl rfl rfl), (I_rel.tell hrel T cs1 (by omega) (by omega) rfl rfl rfl rfl rfl), ?_, ?_, hshe, htab, hwor⟩
  · have h1 : I_map (rEx (cEx V (8 * b + c) 3 e a (V 14 0 22)) (8 * b + c) 3 e (V 14 0 22) a) := I_map.set (W := rEx (cEx V (8 * b + c) 3 e a (V 14 0 22)) (8 * b + c) 3 e (V 14 0 22) a) hmap (e := 8 * b + c) (s := 3) (t := e) (n := (V 14 0 22)) (dd := a) (dc := a) (by omega) (by omega) (by omega) (by omega) (fun _ => ie) (fun _ => ia) rfl (xu_rw V 57 0 _ _) (xu_rw V 58 0 _ _) (xu_rw V 59 0 _ _) (xu_rw V 60 0 _ _) (xu_rw V 95 0 _ _) (xu_rw V 96 0 _ _) (xu_rw V 97 0 _ _) (xu_rw V 98 0 _ _) rfl rfl
    exact I_map.set (W := rDoor (cDoor V (V 14 0 22) a b c e f) (V 14 0 22) a b c e f) h1 (e := f) (s := 3) (t := b) (n := (V 14 0 22)) (dd := a) (dc := a) (by exact hf) (by omega) (by omega) (by omega) (by exact fun _ => ib) (by exact fun _ => ia) rfl (xu_rw (rEx (cEx V (8 * b + c) 3 e a (V 14 0 22)) (8 * b + c) 3 e (V 14 0 22) a) 57 0 _ _) (xu_rw (rEx (cEx V (8 * b + c) 3 e a (V 14 0 22)) (8 * b + c) 3 e (V 14 0 22) a) 58 0 _ _) (xu_rw (rEx (cEx V (8 * b + c) 3 e a (V 14 0 22)) (8 * b + c) 3 e (V 14 0 22) a) 59 0 _ _) (xu_rw (rEx (cEx V (8 * b + c) 3 e a (V 14 0 22)) (8 * b + c) 3 e (V 14 0 22) a) 60 0 _ _) (xu_rw (rEx (cEx V (8 * b + c) 3 e a (V 14 0 22)) (8 * b + c) 3 e (V 14 0 22) a) 95 0 _ _) (xu_rw (rEx (cEx V (8 * b + c) 3 e a (V 14 0 22)) (8 * b + c) 3 e (V 14 0 22) a) 96 0 _ _) (xu_rw (rEx (cEx V (8 * b + c) 3 e a (V 14 0 22)) (8 * b + c) 3 e (V 14 0 22) a) 97 0 _ _) (xu_rw (rEx (cEx V (8 * b + c) 3 e a (V 14 0 22)) (8 * b + c) 3 e (V 14 0 22) a) 98 0 _ _) rfl rfl
  · obtain ⟨_, _, _, _, T5, T6, T7, T8, T9⟩ := T
    have e61 : (rDoor (cDoor V (V 14 0 22) a b c e f) (V 14 0 22) a b c e f) 61 0 = zup (V 61 0) a.toNat (V 14 0 22) := xu_rw V 61 0 _ _
    have et : (rDoor (cDoor V (V 14 0 22) a b c e f) (V 14 0 22) a b c e f) 14 0 9 = V 14 0 9 := rfl
    unfold I_doo
    rw [e61, et, T5, T6, T9]
    intro t k1 k2
    by_cases ht : t = a
    · subst ht
      rw [zup_eq]
      refine .inr ⟨cs1, by omega, zup_eq _ _ _, zup_eq _ _ _, fun u g1 g2 g3 g4 => ?_⟩
      rcases hdoo t k1 k2 with ⟨x1, x2⟩ | ⟨x1, _⟩
      · by_cases hu : u = (V 14 0 22)
        · exact hu
        · rw [zup_ne (by omega)] at g3 g4
          exact absurd g4 (x2 u g1 (by omega) g3)
      · omega
    · rw [zup_ne (by omega)]
      rcases hdoo t k1 k2 with ⟨x1, x2⟩ | ⟨x1, x2, x3, x4, x5⟩
      · refine .inl ⟨x1, fun u g1 g2 g3 g4 => ?_⟩
        by_cases hu : u = (V 14 0 22)
        · subst hu; rw [zup_eq] at g4; exact ht g4.symm
        · rw [zup_ne (by omega)] at g3 g4
          exact x2 u g1 (by omega) g3 g4
      · have hn2 : (V 61 0 (t.toNat)).toNat ≠ (V 14 0 22).toNat := by omega
        refine .inr ⟨x1, by omega, ?_, ?_, fun u g1 g2 g3 g4 => ?_⟩
        · rw [zup_ne hn2]; exact x3
        · rw [zup_ne hn2]; exact x4
        · by_cases hu : u = (V 14 0 22)
          · subst hu; rw [zup_eq] at g4; exact absurd g4.symm ht
          · rw [zup_ne (by omega)] at g3 g4
            exact x5 u g1 (by omega) g3 g4
def dgF (V : XM) (a b c e : Int) : Int := if ff (doB V a) (V 14 0 22).toNat 0 ≠ -9 then ff (doB V a) (V 14 0 22).toNat 0 else if 2 ≤ (V 95 0 ((8 * b + c).toNat)) then (V 97 0 ((8 * b + c).toNat)) else if 2 ≤ (V 95 0 ((8 * e + iXor c 1).toNat)) then (V 97 0 ((8 * e + iXor c 1).toNat)) else -9
theorem x_rDoor (d : Nat) (V : XM) {a b c e : Int} (ib : 0 ≤ b ∧ b < 64) (ie : 0 ≤ e ∧ e < 64) (ic : 0 ≤ c ∧ c < 8) (cs1 : 0 ≤ (V 14 0 22)) (cs2 : (V 14 0 22) < 300) (h1 : 2 ≤ (V 95 0 ((8 * b + c).toNat)) → 0 ≤ (V 97 0 ((8 * b + c).toNat))) (h2 : 2 ≤ (V 95 0 ((8 * e + iXor c 1).toNat)) → 0 ≤ (V 97 0 ((8 * e + iXor c 1).toNat))) : Xf (d + 2) 271 77 [xr 14 0, xi a, xi b, xi c, xi e, xi 0, xr 0 0, xr 0 0] [] V = if dgF V a b c e ≠ -9 then some (xi (w32 (-100 - dgF V a b c e)), V) else some (xi (V 14 0 22), rDoor V (V 14 0 22) a b c e (8 * e + iXor c 1)) := by
  obtain ⟨p1, p2, p3⟩ := opp ic.1 ic.2
  have w1 : w32 (w32 (8 * b) + c) = 8 * b + c := by rw [w32_add, w32_i (by omega) (by omega)]
  have w2 : w32 (w32 (8 * e) + iXor c 1) = 8 * e + iXor c 1 := by rw [w32_add, w32_i (by omega) (by omega)]
  have := loop_find (F := fun l => Xf (d + 2) 271 77 [xr 14 0, xi a, xi b, xi c, xi e, xi l, xr 0 0, xr 0 0] [] V) (f := doB V a) (A := fun l => some (xi (w32 (-100 - l)), V)) (Z := if 2 ≤ (V 95 0 ((8 * b + c).toNat)) then some (xi (w32 (-100 - (V 97 0 ((8 * b + c).toNat)))), V) else if 2 ≤ (V 95 0 ((8 * e + iXor c 1).toNat)) then some (xi (w32 (-100 - (V 97 0 ((8 * e + iXor c 1).toNat)))), V) else some (xi (V 14 0 22), rDoor V (V 14 0 22) a b c e (8 * e + iXor c 1))) (N := (V 14 0 22)) (fun l g2 g3 => by
    show Xf (d + 2) 271 77 [xr 14 0, xi a, xi b, xi c, xi e, xi l, xr 0 0, xr 0 0] [] V = if _ then (if _ then _ else Xf (d + 2) 271 77 [xr 14 0, xi a, xi b, xi c, xi e, xi (l + 1), xr 0 0, xr 0 0] [] V) else _
    rw [s_X12_door_77, w1, w2]
    by_cases hl : l < (V 14 0 22)
    · unfold doB
      simp only [decide_eq_true_eq]
      clear h1 h2
      by_cases c0 : (V 85 0 (l.toNat)) = 9 <;> by_cases c1 : (V 86 0 (l.toNat)) = a
      all_goals (repeat (first | rw [ci_r] | rw [cl_r] | rw [cv_r] | rw [ite_b2] | rw [ite_b21] | rw [if_pos (by omega)] | rw [if_neg (by omega)] | rw [y_kindsHas] | rw [y_isKind _ _ _ (by omega)] | rw [y_valHas] | rw [y_isProp _ _ _ (by omega)] | rw [y_thgHas] | rw [y_isThing _ _ _ (by omega)] | rw [y_inRange] | rw [y_in] | rw [s_X11_faulted] | rw [s_X12_faulty] | rw [s_X11_against] | rw [s_X12_against] | simp (disch := omega) only [w32_i, Int.add_sub_cancel, mc64, mc24, mc6, mc8, mc5] | fail))
    · rw [if_neg hl, if_neg hl, if_pos (by omega)]
      by_cases c1 : 2 ≤ (V 95 0 ((8 * b + c).toNat))
      · rw [if_pos (by omega), if_pos (by omega), if_pos c1, s_X12_against, ci_r]
      · rw [if_neg (by omega), if_neg c1, if_pos (by omega)]
        by_cases c2 : 2 ≤ (V 95 0 ((8 * e + iXor c 1).toNat))
        · rw [if_pos (by omega), if_pos (by omega), if_pos c2, s_X12_against, ci_r]
        · rw [if_neg (by omega), if_neg c2, y_tell _ V _ _ _ _ rfl cs1 cs2, ci_r, y_rLead _ _ _ _ _ _ (by omega) (by omega), cv_r, y_rLead _ _ _ _ _ _ (by omega) (by omega), cv_r]
          rfl) (V 14 0 22).toNat 0 (by omega) (by omega) cs1
  refine this.trans ?_
  show (if ff (doB V a) (V 14 0 22).toNat 0 = -9 then _ else some (xi (w32 (-100 - ff (doB V a) (V 14 0 22).toNat 0)), V) : XR) = _
  unfold dgF
  by_cases c1 : ff (doB V a) (V 14 0 22).toNat 0 = -9
  · rw [if_pos c1, if_neg (c := ff (doB V a) (V 14 0 22).toNat 0 ≠ -9) (fun k => k c1)]
    by_cases c2 : 2 ≤ (V 95 0 ((8 * b + c).toNat))
    · have := h1 c2
      rw [if_pos c2, if_pos c2, if_pos (by omega)]
    · rw [if_neg c2, if_neg c2]
      by_cases c3 : 2 ≤ (V 95 0 ((8 * e + iXor c 1).toNat))
      · have := h2 c3
        rw [if_pos c3, if_pos c3, if_pos (by omega)]
      · rw [if_neg c3, if_neg c3, if_neg (fun k => k rfl)]
  · rw [if_neg c1, if_pos (c := ff (doB V a) (V 14 0 22).toNat 0 ≠ -9) c1, if_pos c1]
