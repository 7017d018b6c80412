/-! among, all of it -/
theorem le_eq {V : XM} (h : Inv V) {a b : Int} (ia : 0 ≤ a ∧ a < (V 14 0 9)) (hb : c64 b) : lfN V a (if (V 81 0 (a.toNat)) = 0 then b else lAnd (V 81 0 (a.toNat)) b) (V 14 0 22).toNat 0 = leF V a b := by
  obtain ⟨⟨ck1, ck2, ck3, cp1, cp2, cp3, ct1, ct2, ct3, cs1, cs2, cs3, cq1, cq2, cq3, cr1, cr2, cr3, cf1, cf2, cf3, cb1, cb2, cb3, cw1, cw2, cw3, clf, clc⟩, hkin, hpro, husu, hgiv, hthg, hhom, hput, hrin, hsen, hbar, hset, hmos, hpai, hrel, hmap, hdoo, hshe, htab, hwor⟩ := h
  have h2 : ∀ s : Nat, (s : Int) < (V 14 0 22) → (V 85 0 s) = 1 → 0 ≤ (V 87 0 s) ∧ (V 87 0 s) < 64 := fun s k1 k2 => by
    have := hbar.1 s (by omega) k1 (by rw [Int.toNat_natCast]; exact k2)
    rw [Int.toNat_natCast] at this
    omega
  have hxc : c64 (if (V 81 0 (a.toNat)) = 0 then b else lAnd (V 81 0 (a.toNat)) b) := by
    split
    · exact hb
    · exact lAnd_c _ _
  refine bt_ext (lfN_c V a hxc _ _) (lAnd_c _ _) (fun i hi => ?_)
  have hbits := lfN_bt (t := a) (x := if (V 81 0 (a.toNat)) = 0 then b else lAnd (V 81 0 (a.toNat)) b) h2 hi (V 14 0 22).toNat 0 (by omega)
  have hx : bt (if (V 81 0 (a.toNat)) = 0 then b else lAnd (V 81 0 (a.toNat)) b) i = (bt b i && bt (hadF V a) i) := by
    unfold hadF
    split
    · rw [bt_m1 hi, Bool.and_true]
    · rw [bt_and, Bool.and_comm]
  have hbb := hbar.2 a i ia.1 ia.2 (by omega) (by omega)
  rw [Int.toNat_natCast] at hbb
  have e2 := leF_bt V a b hi
  rw [Bool.eq_iff_iff, hbits, e2, hx, Bool.and_eq_true (bt b i && bt (hadF V a) i)]
  refine and_congr Iff.rfl ?_
  rw [Bool.not_eq_true', ← Bool.not_eq_true, hbb]
  constructor
  · rintro k ⟨s, s1, s2, s3, s4, s5⟩
    exact k s.toNat (by omega) (by omega) ⟨s3, s4, s5⟩
  · intro k s s1 s2 s3
    exact k ⟨s, by omega, by omega, by rw [Int.toNat_natCast]; exact s3⟩
theorem le_0 {V : XM} (h : Inv V) {a b : Int} (ia : 0 ≤ a ∧ a < (V 14 0 9)) (hn : ¬ ((V 81 0 (a.toNat)) ≠ 0 ∧ lAnd b (V 81 0 (a.toNat)) = 0)) : leF V a b = 0 ↔ lAnd b (lXor (V 40 0 (a.toNat)) (-1)) = 0 := by
  obtain ⟨⟨ck1, ck2, ck3, cp1, cp2, cp3, ct1, ct2, ct3, cs1, cs2, cs3, cq1, cq2, cq3, cr1, cr2, cr3, cf1, cf2, cf3, cb1, cb2, cb3, cw1, cw2, cw3, clf, clc⟩, hkin, hpro, husu, hgiv, hthg, hhom, hput, hrin, hsen, hbar, hset, hmos, hpai, hrel, hmap, hdoo, hshe, htab, hwor⟩ := h
  obtain ⟨s1, s2, s3, s4, s5⟩ := hset a ia.1 ia.2
  by_cases c : (V 81 0 (a.toNat)) = 0
  · unfold leF
    rw [bt_eq0 (lAnd_c _ _), bt_eq0 (lAnd_c _ _)]
    refine forall_congr' (fun i => forall_congr' (fun hi => ?_))
    rw [bt_and, bt_and, bt_not _ hi]
    unfold hadF
    rw [if_pos c, bt_m1 hi, Bool.and_true, bt_and, bt_not _ hi]
  · have hne : ¬ lAnd b (V 81 0 (a.toNat)) = 0 := fun k => hn ⟨c, k⟩
    rw [bt_eq0 (lAnd_c _ _)] at hne
    have : ∃ i, i < 64 ∧ bt b i = true ∧ bt (V 81 0 (a.toNat)) i = true := by
      apply Classical.byContradiction
      intro k
      refine hne (fun i hi => ?_)
      rw [bt_and]
      cases h1 : bt b i <;> cases h2 : bt (V 81 0 (a.toNat)) i <;> first | rfl | exact absurd ⟨i, hi, h1, h2⟩ k
    obtain ⟨i, hi, h1, h2⟩ := this
    have h3 := (s5 i (by omega) (by omega) (by rw [Int.toNat_natCast]; exact h2)).2.2.2
    rw [Int.toNat_natCast] at h3
    constructor
    · intro k
      have := (bt_eq0 (lAnd_c _ _)).mp k i hi
      rw [bt_and, bt_and, bt_not _ hi] at this
      unfold hadF at this
      rw [if_neg c, h1, h2, h3] at this
      cases this
    · intro k
      have := (bt_eq0 (lAnd_c _ _)).mp k i hi
      rw [bt_and, bt_not _ hi, h1, h3] at this
      cases this
theorem ag_eq {V : XM} (h : Inv V) {a b : Int} (ia : 0 ≤ a ∧ a < (V 14 0 9)) (hb : c64 b) : agF V a b = ag3 V a b := by
  unfold agF ag3
  rw [le_eq h ia hb]
  split
  · rfl
  · split
    · rfl
    · rename_i k
      by_cases c : leF V a b = 0
      · rw [if_pos c, if_pos ((le_0 h ia k).mp c)]
      · rw [if_neg c, if_neg (fun g => c ((le_0 h ia k).mpr g))]
def cAm (V : XM) (n a b x : Int) : XM := xu (xu (cTell V n 3 a (w32 b) (-9)) 41 0 a.toNat x) 42 0 a.toNat n
def rAm (V : XM) (n a b x : Int) : XM := rTell (xu V 81 0 a.toNat x) n 3 a (w32 b) 0
theorem Inv.among {V : XM} (h : Inv V) {a b : Int} (ia : 0 ≤ a ∧ a < (V 14 0 9)) (ho : isO (V 21 0 (a.toNat))) (hn : (V 14 0 22) < 300) (hl : leF V a b ≠ 0) (hH : ∀ i : Nat, i < 64 → bt b i = true → (i : Int) < (V 14 0 9) ∧ (i : Int) ≠ a ∧ isH (V 21 0 i)) : Inv (rAm (cAm V (V 14 0 22) a b (leF V a b)) (V 14 0 22) a b (leF V a b)) := by
  have hlc : c64 (leF V a b) := lAnd_c _ _
  have hlb := fun i hi => leF_bt V a b (i := i) hi
  obtain ⟨⟨ck1, ck2, ck3, cp1, cp2, cp3, ct1, ct2, ct3, cs1, cs2, cs3, cq1, cq2, cq3, cr1, cr2, cr3, cf1, cf2, cf3, cb1, cb2, cb3, cw1, cw2, cw3, clf, clc⟩, hkin, hpro, husu, hgiv, hthg, hhom, hput, hrin, hsen, hbar, hset, hmos, hpai, hrel, hmap, hdoo, hshe, htab, hwor⟩ := h
  generalize leF V a b = x at *
  have T : Told V (rAm (cAm V (V 14 0 22) a b x) (V 14 0 22) a b x) 3 (a) (w32 b) (-9) (0) := ⟨xu_rw V 33 0 _ _, xu_rw V 34 0 _ _, xu_rw V 35 0 _ _, xu_rw V 36 0 _ _, xu_rw V 85 0 _ _, xu_rw V 86 0 _ _, xu_rw V 87 0 _ _, xu_rw V 88 0 _ _, rfl⟩
  refine ⟨⟨ck1, ck2, ck3, cp1, cp2, cp3, ct1, ct2, ct3, by show 0 ≤ (V 14 0 22) + 1; omega, by show (V 14 0 22) + 1 ≤ 300; omega, rfl, cq1, cq2, cq3, cr1, cr2, cr3, cf1, cf2, cf3, cb1, cb2, cb3, cw1, cw2, cw3, clf, clc⟩, hkin, hpro, husu, hgiv, hthg, hhom, (I_put.tell hput T cs1 (by omega) rfl rfl rfl rfl rfl rfl), hrin, (I_sen.tell hsen T cs1 (by omega) (by omega) (by omega) (by omega) rfl), (I_bar.tell hbar T cs1 (by omega) rfl rfl), ?_, (I_mos.tell hmos T cs1 (by omega) rfl rfl rfl rfl rfl rfl rfl rfl), (I_pai.tell hpai T cs1 (by omega) rfl rfl rfl rfl rfl rfl rfl rfl rfl), (I_rel.tell hrel T cs1 (by omega) (by omega) rfl rfl rfl rfl rfl), hmap, (I_doo.tell hdoo T cs1 (by omega) rfl rfl), hshe, htab, hwor⟩
  clear ck1 ck2 ck3 cp1 cp2 cp3 cq1 cq2 cq3 cr1 cr2 cr3 cf1 cf2 cf3 cb1 cb2 cb3 cw1 cw2 cw3 clf clc
  obtain ⟨_, _, _, _, T5, T6, T7, _, T9⟩ := T
  have e41 : (rAm (cAm V (V 14 0 22) a b x) (V 14 0 22) a b x) 41 0 = zup (V 41 0) a.toNat x := xu_rw V 41 0 _ _
  have e42 : (rAm (cAm V (V 14 0 22) a b x) (V 14 0 22) a b x) 42 0 = zup (V 42 0) a.toNat (V 14 0 22) := xu_rw V 42 0 _ _
  have e81 : (rAm (cAm V (V 14 0 22) a b x) (V 14 0 22) a b x) 81 0 = zup (V 81 0) a.toNat x := xu_rw V 81 0 _ _
  have e40 : (rAm (cAm V (V 14 0 22) a b x) (V 14 0 22) a b x) 40 0 = V 40 0 := rfl
  have e21 : (rAm (cAm V (V 14 0 22) a b x) (V 14 0 22) a b x) 21 0 = V 21 0 := rfl
  have et : (rAm (cAm V (V 14 0 22) a b x) (V 14 0 22) a b x) 14 0 9 = V 14 0 9 := rfl
  unfold I_set
  rw [e40, e41, e42, e81, e21, et, T5, T6, T9]
  intro t k1 k2
  by_cases ht : t = a
  · subst ht
    rw [zup_eq, zup_eq, zup_eq]
    refine ⟨rfl, hlc, .inr ⟨hl, cs1, by omega, zup_eq _ _ _, zup_eq _ _ _, ho⟩, fun u g1 g2 g3 g4 => by omega, fun w g1 g2 g3 => ?_⟩
    rw [hlb w.toNat (by omega)] at g3
    simp only [Bool.and_eq_true, Bool.not_eq_true'] at g3
    have := hH w.toNat (by omega) g3.1.1
    rw [show ((w.toNat : Nat) : Int) = w by omega] at this
    exact ⟨this.1, this.2.1, this.2.2, g3.2⟩
  · have hne : t.toNat ≠ a.toNat := by omega
    rw [zup_ne hne, zup_ne hne, zup_ne hne]
    obtain ⟨x1, x2, x3, x4, x5⟩ := hset t k1 k2
    refine ⟨x1, x2, ?_, fun u g1 g2 g3 g4 => ?_, x5⟩
    · rcases x3 with x3 | ⟨y1, y2, y3, y4, y5, y6⟩
      · exact .inl x3
      · have hn2 : (V 42 0 (t.toNat)).toNat ≠ (V 14 0 22).toNat := by omega
        refine .inr ⟨y1, y2, by omega, ?_, ?_, y6⟩
        · rw [zup_ne hn2]; exact y4
        · rw [zup_ne hn2]; exact y5
    · by_cases hu : u = (V 14 0 22)
      · subst hu; rw [zup_eq]; exact fun e => ht e.symm
      · rw [zup_ne (by omega)] at g4
        rw [zup_ne (by omega)]
        exact x4 u g1 g2 (by omega) g4
theorem c_among (d : Nat) (V : XM) (h : Inv V) {a b : Int} (ia : 0 ≤ a ∧ a < (V 14 0 9)) (hb : c64 b) (hag : agF V a b = -9 ∨ 0 ≤ agF V a b) : Yf (d + 30) 143 [xr 2 0, xi a, xl b] V =
    if knB (V 14 0 9) b 64 = false then some (xi (-1), V) else if b = 0 then some (xi (-2), V) else if (V 21 0 (a.toNat)) = 1 ∨ (V 21 0 (a.toNat)) = 2 ∨ (V 21 0 (a.toNat)) = 3 ∨ hdB (V 21 0) (V 14 0 9) a b 64 = false then some (xi (-3), V) else if (V 14 0 22) = 300 then some (xi (-4), V) else
    if agF V a b ≠ -9 then some (xi (w32 (-100 - agF V a b)), V) else some (xi (V 14 0 22), cAm V (V 14 0 22) a b (leF V a b)) := by
  have hA := fun k => y_cAmong (d + 25) V h b ia.1 ia.2 k
  obtain ⟨⟨ck1, ck2, ck3, cp1, cp2, cp3, ct1, ct2, ct3, cs1, cs2, cs3, cq1, cq2, cq3, cr1, cr2, cr3, cf1, cf2, cf3, cb1, cb2, cb3, cw1, cw2, cw3, clf, clc⟩, hkin, hpro, husu, hgiv, hthg, hhom, hput, hrin, hsen, hbar, hset, hmos, hpai, hrel, hmap, hdoo, hshe, htab, hwor⟩ := h
  obtain ⟨s1, s2, s3, s4, s5⟩ := hset a ia.1 ia.2
  obtain ⟨x, hx1, hx2⟩ := y_all (d + 27) V (by omega) (by omega)
  have hho := y_holders (d + 26) V (by omega) (by omega)
  have h1 := y_cOne (d + 27) V ia.1 (show a < 64 by omega)
  clear ck1 ck2 ck3 cp1 cp2 cp3 cq1 cq2 cq3 cr1 cr2 cr3 cf1 cf2 cf3 cb1 cb2 cb3 cw1 cw2 cw3 clf clc
  have K : lAnd b (lXor x (-1)) = 0 ↔ knB (V 14 0 9) b 64 = true := by
    rw [bt_sub, knB_t]
    refine forall_congr' (fun i => forall_congr' (fun hi => ?_))
    rw [hx2 i hi, decide_eq_true_eq, ct3]
  have btA := bt_test b ia.1 (show a < 64 by omega)
  have HD : knB (V 14 0 9) b 64 = true → ((lAnd b (lShl 1 a) = 0 ∧ lAnd b (lXor (hoN (V 21 0) (V 4 0 7).toNat) (-1)) = 0) ↔ hdB (V 21 0) (V 14 0 9) a b 64 = true) := by
    intro hk
    rw [knB_t] at hk
    rw [btA, bt_sub, hdB_t, ct3]
    constructor
    · rintro ⟨g1, g2⟩ i hi g3
      refine ⟨hk i hi g3, fun e => ?_, ?_⟩
      · rw [← e, Int.toNat_natCast, g3] at g1; cases g1
      · exact ((hoN_bt _ (V 14 0 9).toNat (by omega) i hi).mp (g2 i hi g3)).2
    · intro g
      refine ⟨?_, fun i hi g3 => ?_⟩
      · cases hz : bt b a.toNat with
        | false => rfl
        | true => have := (g a.toNat (by omega) hz).2.1; omega
      · have := g i hi g3
        exact (hoN_bt _ (V 14 0 9).toNat (by omega) i hi).mpr ⟨by omega, this.2.2⟩
  rw [s_X11_among, y_thgHas, ci_r, ite_b2, if_pos (by omega), hx1, cl_r]
  simp only [cmp3_eq]
  cases hk : knB (V 14 0 9) b 64 with
  | false => rw [if_neg (fun g => by have := K.mp g; rw [hk] at this; cases this), if_pos rfl]
  | true =>
    have HD := HD hk
    rw [if_pos (K.mpr hk), if_neg (c := true = false) (by simp)]
    by_cases c0 : b = 0
    · rw [if_pos c0, if_pos c0]
    rw [if_neg c0, if_neg c0, h1, ci_r, ite_b2]
    by_cases c1 : ¬ ((V 21 0 (a.toNat)) = 1 ∨ (V 21 0 (a.toNat)) = 2) ∧ (V 21 0 (a.toNat)) ≠ 3
    · rw [if_pos c1, s_X11_bit, cl_r]
      cases hd : hdB (V 21 0) (V 14 0 9) a b 64 with
      | false =>
        rw [if_pos (c := (V 21 0 (a.toNat)) = 1 ∨ (V 21 0 (a.toNat)) = 2 ∨ (V 21 0 (a.toNat)) = 3 ∨ false = false) (.inr (.inr (.inr rfl)))]
        by_cases c2 : lAnd b (lShl 1 a) = 0
        · rw [if_pos c2, hho, cl_r, if_neg (fun g => by have := HD.mp ⟨c2, g⟩; rw [hd] at this; cases this)]
        · rw [if_neg c2]
      | true =>
        obtain ⟨c2, c3⟩ := HD.mpr hd
        rw [if_neg (c := (V 21 0 (a.toNat)) = 1 ∨ (V 21 0 (a.toNat)) = 2 ∨ (V 21 0 (a.toNat)) = 3 ∨ true = false) (by simp; omega), if_pos c2, hho, cl_r, if_pos c3, y_full, ci_r, ite_b2]
        by_cases c4 : (V 14 0 22) = 300
        · rw [if_pos (by omega), if_pos c4]
        rw [if_neg (by omega), if_neg c4, hA c1.2, ci_r]
        by_cases c5 : agF V a b = -9
        · rw [if_pos (by omega), if_neg (fun k => k c5), y_sadd _ V _ _ _ _ cs3 cs1 (by omega), ci_r, s_X1_narrow, if_pos (by omega)]
          have e42 : (cTell V (V 14 0 22) 3 a (w32 b) (-9)) 42 0 a.toNat = V 42 0 a.toNat := rfl
          have e41 : (cTell V (V 14 0 22) 3 a (w32 b) (-9)) 41 0 a.toNat = V 41 0 a.toNat := rfl
          have e40 : (cTell V (V 14 0 22) 3 a (w32 b) (-9)) 40 0 a.toNat = V 40 0 a.toNat := rfl
          rw [e42, e41, e40]
          by_cases c6 : (V 81 0 (a.toNat)) = 0
          · rw [if_pos (by omega), if_pos (by omega), if_pos (by omega), if_pos (by omega), cv_r]
            unfold cAm leF hadF
            rw [if_pos c6]
          · rw [if_neg (by omega), if_pos (by omega), if_pos (by omega), if_pos (by omega), if_pos (by omega), cv_r, s1]
            unfold cAm leF hadF
            rw [if_neg c6]
        · rw [if_neg (by omega), if_pos c5, s_X11_against, ci_r]
    · rw [if_neg c1, if_pos (by omega)]
theorem g_among (d : Nat) (V : XM) (h : Inv V) (a b : Int) (hb : c64 b) : AG d 143 240 [xi a, xl b] V := by
  have h' := h
  obtain ⟨⟨ck1, ck2, ck3, cp1, cp2, cp3, ct1, ct2, ct3, cs1, cs2, cs3, cq1, cq2, cq3, cr1, cr2, cr3, cf1, cf2, cf3, cb1, cb2, cb3, cw1, cw2, cw3, clf, clc⟩, hkin, hpro, husu, hgiv, hthg, hhom, hput, hrin, hsen, hbar, hset, hmos, hpai, hrel, hmap, hdoo, hshe, htab, hwor⟩ := h'
  by_cases ia : 0 ≤ a ∧ a < (V 14 0 9)
  · have hho := h.ho
    have hla := fun k => among_la h ia.1 ia.2 k
    have hge := ag_eq h ia hb
    have hle := le_eq h ia hb
    have hl0 := fun k => le_0 h (b := b) ia k
    obtain ⟨s1, s2, s3, s4, s5⟩ := hset a ia.1 ia.2
    have h2 : ∀ s : Nat, (s : Int) < (V 14 0 22) → (V 85 0 s) = 1 → 0 ≤ (V 87 0 s) ∧ (V 87 0 s) < 64 := fun s k1 k2 => by
      have := hbar.1 s (by omega) k1 (by rw [Int.toNat_natCast]; exact k2)
      rw [Int.toNat_natCast] at this
      omega
    have hh : 0 < (V 80 0 (a.toNat)) → 0 ≤ (V 78 0 ((6 * a).toNat)) ∧ (V 78 0 ((6 * a).toNat)) < 64 := fun k => by
      have := (hho.2 a ia.1 ia.2).2 k
      omega
    have hx1 : 0 < (V 80 0 (a.toNat)) → 0 ≤ (V 79 0 ((6 * a).toNat)) := fun k => by
      have := ((hput.1 a ia.1 ia.2).2 0 (by omega) k).1
      rw [show 6 * a + 0 = 6 * a by omega] at this
      exact this
    have hx2 : (V 81 0 (a.toNat)) ≠ 0 → 0 ≤ la (fun k => decide ((V 85 0 k) = 3 ∧ (V 86 0 k) = a)) (V 14 0 22).toNat := fun k => by
      rw [hla k]; omega
    have hx3 : lfN V a (if (V 81 0 (a.toNat)) = 0 then b else lAnd (V 81 0 (a.toNat)) b) (V 14 0 22).toNat 0 = 0 → ¬ ((V 81 0 (a.toNat)) ≠ 0 ∧ lAnd b (V 81 0 (a.toNat)) = 0) → b ≠ 0 → 0 ≤ ff (biB V a b) (V 14 0 22).toNat 0 := by
      intro k1 k2 k3
      rw [hle] at k1
      have k4 := (hl0 k2).mp k1
      rw [bt_sub] at k4
      have : ∃ i, i < 64 ∧ bt b i = true := by
        apply Classical.byContradiction
        intro g
        refine k3 ((bt_eq0 hb).mpr (fun i hi => ?_))
        cases hz : bt b i with
        | false => rfl
        | true => exact absurd ⟨i, hi, hz⟩ g
      obtain ⟨i, hi, hbi⟩ := this
      have hbr := (hbar.2 a i ia.1 ia.2 (by omega) (by omega)).mp (by rw [Int.toNat_natCast]; exact k4 i hi hbi)
      obtain ⟨s, g1, g2, g3, g4, g5⟩ := hbr
      rcases ff_spec (biB V a b) (V 14 0 22).toNat 0 with ⟨_, y2⟩ | ⟨s', y1, _⟩
      · have := y2 s.toNat (by omega) (by omega)
        unfold biB at this
        simp only [decide_eq_false_iff_not] at this
        exact absurd ⟨g3, g4, by rw [g5, Int.toNat_natCast]; exact hbi⟩ this
      · omega
    have hag : b ≠ 0 → agF V a b = -9 ∨ 0 ≤ agF V a b := by
      intro k3
      rw [hge]
      unfold ag3
      by_cases q1 : 0 < (V 80 0 (a.toNat)) ∧ bt b (V 78 0 ((6 * a).toNat)).toNat = false
      · rw [if_pos q1]; exact .inr (hx1 q1.1)
      rw [if_neg q1]
      by_cases q2 : (V 81 0 (a.toNat)) ≠ 0 ∧ lAnd b (V 81 0 (a.toNat)) = 0
      · rw [if_pos q2]; exact .inr (hx2 q2.1)
      rw [if_neg q2]
      by_cases q3 : lfN V a (if (V 81 0 (a.toNat)) = 0 then b else lAnd (V 81 0 (a.toNat)) b) (V 14 0 22).toNat 0 = 0
      · rw [if_pos q3]; exact .inr (hx3 q3 q2 k3)
      · rw [if_neg q3]; exact .inl rfl
    by_cases b0 : b = 0
    · subst b0
      have hk : knB (V 14 0 9) 0 64 = true := by rw [knB_t]; intro i _ k; rw [bt_0] at k; cases k
      obtain ⟨x, q1, q2⟩ := y_all (d + 27) V (by omega) (by omega)
      have z : lAnd 0 (lXor x (-1)) = 0 := by rw [bt_sub]; intro i _ k; rw [bt_0] at k; cases k
      have L := x_r15 (d + 25) V h.rb a 0 64 0 (by omega) (by omega)
      rw [show b2 (knB (V 14 0 9) 0 0 = true) = 1 from rfl, show b2 (hdB (V 21 0) (V 14 0 9) a 0 0 = true) = 1 from rfl, hk] at L
      refine AG.no (x := xi (-2)) h ?_ ?_
      · rw [s_X11_among, y_thgHas, ci_r, ite_b2, if_pos (by omega), q1, cl_r]
        simp only [cmp3_eq]
        rw [if_pos z, if_pos trivial]
      · rw [s_X12_among, y_isThing _ V _ ⟨ct1, ct2⟩, ci_r, show b2 (0 ≤ a ∧ a < (V 14 0 9)) = 1 from b2_1.mpr ia]
        refine L.trans ?_
        rw [s_X12_among_15, if_neg (by omega), show b2 (true = true) = 1 from rfl, if_neg (by omega)]
        simp only [cmp3_eq]
        rw [if_pos trivial]
    have hC := c_among d V h ia hb (hag b0)
    rw [hge] at hC
    have hag3 := hag b0
    rw [hge] at hag3
    have hR0 := r_among d V h.rb ia cs1 cs2 hh h2 hag3 hx1 hx2 hx3
    by_cases i1 : knB (V 14 0 9) b 64 = false
    · exact AG.no h (hC.trans (if_pos i1)) (hR0.trans (if_pos i1))
    rw [if_neg i1, if_neg b0] at hC hR0
    by_cases i2 : (V 21 0 (a.toNat)) = 1 ∨ (V 21 0 (a.toNat)) = 2 ∨ (V 21 0 (a.toNat)) = 3 ∨ hdB (V 21 0) (V 14 0 9) a b 64 = false
    · exact AG.no h (hC.trans (if_pos i2)) (hR0.trans (if_pos i2))
    rw [if_neg i2] at hC hR0
    by_cases i3 : (V 14 0 22) = 300
    · exact AG.no h (hC.trans (if_pos i3)) (hR0.trans (if_pos i3))
    rw [if_neg i3] at hC hR0
    by_cases i4 : ag3 V a b ≠ -9
    · exact AG.no h (hC.trans (if_pos i4)) (hR0.trans (if_pos i4))
    rw [if_neg i4] at hC
    have cong : ∀ x : Int, lfN (cAm V (V 14 0 22) a b (leF V a b)) a x (V 14 0 22).toNat 0 = lfN V a x (V 14 0 22).toNat 0 := fun x => lfN_congr (V := V) (W := cAm V (V 14 0 22) a b (leF V a b)) rfl rfl rfl a x _ _
    have ag3c : ag3 (cAm V (V 14 0 22) a b (leF V a b)) a b = ag3 V a b := by
      have := cong (if (V 81 0 (a.toNat)) = 0 then b else lAnd (V 81 0 (a.toNat)) b)
      unfold ag3
      show (if 0 < (V 80 0 (a.toNat)) ∧ bt b (V 78 0 ((6 * a).toNat)).toNat = false then (V 79 0 ((6 * a).toNat)) else if (V 81 0 (a.toNat)) ≠ 0 ∧ lAnd b (V 81 0 (a.toNat)) = 0 then la (fun k => decide ((V 85 0 k) = 3 ∧ (V 86 0 k) = a)) (V 14 0 22).toNat else if lfN (cAm V (V 14 0 22) a b (leF V a b)) a (if (V 81 0 (a.toNat)) = 0 then b else lAnd (V 81 0 (a.toNat)) b) (V 14 0 22).toNat 0 = 0 then ff (biB V a b) (V 14 0 22).toNat 0 else -9) = _
      rw [this]
    have hR1 := r_among d (cAm V (V 14 0 22) a b (leF V a b)) (B := (V 21 0)) h.rb (a := a) (b := b) ia cs1 cs2 hh h2 (by rw [ag3c]; exact hag3) hx1 hx2 (by
      show lfN (cAm V (V 14 0 22) a b (leF V a b)) a (if (V 81 0 (a.toNat)) = 0 then b else lAnd (V 81 0 (a.toNat)) b) (V 14 0 22).toNat 0 = 0 → _
      rw [cong]; exact hx3)
    rw [ag3c] at hR1
    have hR2 := hR1.trans ((if_neg (by exact i1)).trans ((if_neg b0).trans ((if_neg (by exact i2)).trans ((if_neg (by exact i3)).trans (if_neg i4)))))
    have hst : lfN (cAm V (V 14 0 22) a b (leF V a b)) a (if ((cAm V (V 14 0 22) a b (leF V a b)) 81 0 (a.toNat)) = 0 then b else lAnd ((cAm V (V 14 0 22) a b (leF V a b)) 81 0 (a.toNat)) b) ((cAm V (V 14 0 22) a b (leF V a b)) 14 0 22).toNat 0 = leF V a b := (cong (if (V 81 0 (a.toNat)) = 0 then b else lAnd (V 81 0 (a.toNat)) b)).trans hle
    rw [hst] at hR2
    refine AG.mk hC hR2 ?_ rfl
    have i2' : isO (V 21 0 (a.toNat)) ∧ hdB (V 21 0) (V 14 0 9) a b 64 = true := by
      have t := hthg a ia.1 ia.2
      refine ⟨by have := t.2.2.2.2.1; have := t.2.2.2.2.2.1; omega, ?_⟩
      cases hz : hdB (V 21 0) (V 14 0 9) a b 64 with
      | true => rfl
      | false => exact absurd (.inr (.inr (.inr hz))) i2
    refine Inv.among h ia i2'.1 (by omega) (fun k => i4 ?_) ((hdB_t 64).mp i2'.2)
    unfold ag3
    rw [hle, k]
    split
    · rename_i g; have := hx1 g.1; omega
    · split
      · rename_i g; have := hx2 g.1; omega
      · rename_i g; rw [if_pos rfl]; have := hx3 (by rw [hle]; exact k) g b0; omega
  · have z : ¬ (0 ≤ a ∧ a < (V 14 0 9)) := ia
    exact AG.no (x := xi (-1)) h (by rw [s_X11_among, y_thgHas, ci_r, ite_b2, if_neg (by omega)]) (by rw [s_X12_among, y_isThing _ V _ ⟨ct1, ct2⟩, ci_r, show b2 (0 ≤ a ∧ a < (V 14 0 9)) = 0 from b2_0.mpr z]; exact x_r15n _ V a b 64 0 (by omega) (by omega) (by omega))
