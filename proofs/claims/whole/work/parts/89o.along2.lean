/-! along, next -/
def RG (V : XM) (r : Int) (u v : Nat) : Prop := u < (V 14 0 9).toNat ∧ v < (V 14 0 9).toNat ∧ rE V r u v
theorem rel_RG {V : XM} (h : Inv V) {r : Int} (ir : 0 ≤ r ∧ r < (V 14 0 29)) (u v : Nat) : eE (relE V (V 14 0 9).toNat r) (V 14 0 9).toNat u v ↔ RG V r u v := by
  obtain ⟨⟨ck1, ck2, ck3, cp1, cp2, cp3, ct1, ct2, ct3, cs1, cs2, cs3, cq1, cq2, cq3, cr1, cr2, cr3, cf1, cf2, cf3, cb1, cb2, cb3, cw1, cw2, cw3, clf, clc⟩, hkin, hpro, husu, hgiv, hthg, hhom, hput, hrin, hsen, hbar, hset, hmos, hpai, hrel, hmap, hdoo, hshe, htab, hwor⟩ := h
  clear hkin hpro husu hgiv hthg hhom hput hrin hsen hbar hset hmos hpai hmap hdoo hshe htab hwor ck1 ck2 ck3 cp1 cp2 cp3 cq1 cq2 cq3 cf1 cf2 cf3 cb1 cb2 cb3 cw1 cw2 cw3 clf clc
  obtain ⟨f1, f2, f3, f4⟩ := hrel.2.1 r ir.1 ir.2
  have key : u < (V 14 0 9).toNat → v < (V 14 0 9).toNat → ((bt (V 55 0 ((64 * r + u).toNat)) v = true ∧ v ≠ u) ↔ rE V r u v) := fun hu hv => by
    have fb := f4 (u : Int) (v : Int) (by omega) (by omega) (by omega) (by omega)
    rw [Int.toNat_natCast] at fb
    rw [fb]
    unfold rE gF
    constructor
    · rintro ⟨⟨k1, k2⟩ | ⟨k1, s, k2, k3, k4, k5, k6⟩, k⟩
      · exact .inl ⟨k1, fun z => k z.symm, k2⟩
      · exact .inr ⟨k1, s.toNat, by omega, k4, k5, k6⟩
    · rintro (⟨k1, k2, k3⟩ | ⟨k1, s, k2, k3, k4, k5⟩)
      · exact ⟨.inl ⟨k1, k3⟩, fun z => k2 z.symm⟩
      · have hr := hrel.1 (s : Int) (by omega) (by omega) (.inl (by rw [Int.toNat_natCast]; exact k3))
        rw [Int.toNat_natCast] at hr
        refine ⟨.inr ⟨k1, (s : Int), by omega, by omega, by rw [Int.toNat_natCast]; exact ⟨k3, k4, k5⟩⟩, fun z => hr.2.2.2.2.2.2 ?_⟩
        subst z
        rcases k5 with k5 | k5
        · rw [k5.1, k5.2]
        · rw [k5.2.1, k5.2.2]
  constructor
  · rintro ⟨j, j1, j2⟩
    obtain ⟨k1, k2, k3, k4⟩ := relE_s j2
    subst k1
    exact ⟨k2, j1, (key k2 j1).mp ⟨k3, k4⟩⟩
  · rintro ⟨k1, k2, k3⟩
    have := (key k1 k2).mpr k3
    exact ⟨v, k2, by unfold relE; rw [if_pos ⟨k1, this⟩]⟩
theorem bk_RG {V W : XM} {r : Int} {C : Nat → Int} (hC : ∀ x y : Nat, (x : Int) < (V 14 0 9) → (y : Int) < (V 14 0 9) → v01 (C (64 * x + y)) (rE V r x y)) (u v : Nat) : eE (bkE (xrow W 94 C) (V 14 0 9).toNat) (V 14 0 9).toNat u v ↔ RG V r v u := by
  have e94 : ∀ j, (xrow W 94 C) 94 0 j = C j := fun j => rfl
  constructor
  · rintro ⟨j, j1, j2⟩
    obtain ⟨k1, k2, k3⟩ := bkE_s j2
    subst k1
    rw [e94] at k3
    exact ⟨j1, k2, (hC j u (by omega) (by omega)).iff.mp k3⟩
  · rintro ⟨k1, k2, k3⟩
    have := (hC v u (by omega) (by omega)).iff.mpr k3
    exact ⟨v, k1, by unfold bkE; rw [e94, if_pos ⟨k2, this⟩]⟩
theorem isD.rev {E E' : Nat → Nat → Prop} (h : ∀ u v, E' u v ↔ E v u) {a b : Nat} {x : Int} (k : isD E' b a x) : isD E a b x := by
  have e : ∀ n, wk E' n b a ↔ wk E n a b := fun n => (wk_congr h).trans wk_rev
  rcases k with ⟨k1, k2⟩ | ⟨n, k1, k2, k3⟩
  · exact .inl ⟨k1, fun n z => k2 n ((e n).mpr z)⟩
  · exact .inr ⟨n, k1, (e n).mp k2, fun m hm z => k3 m hm ((e m).mpr z)⟩
theorem isD.congr {E E' : Nat → Nat → Prop} (h : ∀ u v, E' u v ↔ E u v) {a b : Nat} {x : Int} (k : isD E' a b x) : isD E a b x := by
  have : E' = E := by funext u v; exact propext (h u v)
  rw [← this]; exact k
/-- the reference's along and next up to what they look up -/
theorem r_back (d : Nat) (V : XM) (h : GR V) {r : Int} {b : Nat} (ir : 0 ≤ r ∧ r < 8) (hb : b < (V 14 0 9).toNat) : ∃ (W : XM) (C F L : Nat → Int), GW V r W ∧ (∀ x y : Nat, (x : Int) < (V 14 0 9) → (y : Int) < (V 14 0 9) → v01 (C (64 * x + y)) (rE V r x y)) ∧ (∀ v, v < (V 14 0 9).toNat → isD (RG V r) v b (F v) ∧ F v ≤ 64) ∧ Yf (d + 2) 264 [xr 14 0, xi r] V = some (xi 0, xrow W 94 C) ∧ Yf (d + 2) 265 [xr 14 0, xi (b : Int)] (xrow W 94 C) = some (xi 0, rS (xrow W 94 C) F L) := by
  obtain ⟨W, C, q1, q2, q3⟩ := y_couples d V h ir
  have eN : (xrow W 94 C) 14 0 9 = (((V 14 0 9).toNat : Nat) : Int) := by
    have : W 14 0 9 = V 14 0 9 := by
      rcases q1 with q | ⟨n, q⟩
      · rw [q]
      · rw [q]; rfl
    show W 14 0 9 = _
    rw [this]
    have := h.1
    omega
  obtain ⟨F, L, p1, p2, p3⟩ := y_goBack (d + 1) (xrow W 94 C) eN (by have := h.2.1; omega) hb
  exact ⟨W, C, F, L, q1, q2, fun v hv => ⟨isD.rev (fun u v => bk_RG q2 u v) (p1 v hv), p2 v hv⟩, q3, p3⟩
theorem Inv.bk {V W : XM} {r : Int} (h : Inv V) (k : GW V r W) (C F L : Nat → Int) : Inv (rS (xrow W 94 C) F L) := by
  have h' := k.inv h
  obtain ⟨h1, h2, h3, h4, h5, h6, h7, h8, h9, h10, h11, h12, h13, h14, h15, h16, h17, h18, h19, h20⟩ := h'
  exact ⟨h1, h2, h3, h4, h5, h6, h7, h8, h9, h10, h11, h12, h13, h14, h15, h16, h17, h18, h19, h20⟩
theorem x_nx (d : Nat) (W : XM) {a s : Nat} {C F L : Nat → Int} (ha : a < 64) (hs : s < 64) (hf : 0 < F a ∧ F a ≤ 64) (h1 : C (64 * a + s) ≠ 0 ∧ F s = F a - 1) : ∀ (m t : Nat), s - t ≤ m → t ≤ s → (∀ k, t ≤ k → k < s → ¬ (C (64 * a + k) ≠ 0 ∧ F k = F a - 1)) → Xf d 267 44 [xr 14 0, xr 0 0, xi (a : Int), xr 0 0, xi (t : Int)] [] (rS (xrow W 94 C) F L) = some (xi (s : Int), rS (xrow W 94 C) F L) := by
  have e94 : ∀ j, (rS (xrow W 94 C) F L) 94 0 j = C j := fun j => rfl
  have a64 : 0 ≤ (a : Int) ∧ (a : Int) < 64 := by omega
  have ef : Unit → w32 (F a - 1) = F a - 1 := fun _ => w32_i (by omega) (by omega)
  have stp : ∀ t : Nat, t ≤ s → Xf d 267 44 [xr 14 0, xr 0 0, xi (a : Int), xr 0 0, xi (t : Int)] [] (rS (xrow W 94 C) F L) = if C (64 * a + t) ≠ 0 ∧ F t = F a - 1 then some (xi (t : Int), rS (xrow W 94 C) F L) else Xf d 267 44 [xr 14 0, xr 0 0, xi (a : Int), xr 0 0, xi ((t + 1 : Nat) : Int)] [] (rS (xrow W 94 C) F L) := by
    intro t ht
    have t64 : 0 ≤ (t : Int) ∧ (t : Int) < 64 := by omega
    have et : Unit → w32 ((t : Int) + 1) = ((t + 1 : Nat) : Int) := fun _ => by rw [w32_i (by omega) (by omega)]; omega
    have ei : Unit → w32 (w32 (64 * (a : Int)) + (t : Int)) = 64 * (a : Int) + (t : Int) := fun _ => by rw [w32_add, w32_i (by omega) (by omega)]
    have en : (64 * (a : Int) + (t : Int)).toNat = 64 * a + t := by omega
    rw [s_X12_next_44, ei (), if_pos (by omega), en, e94, et (), Int.toNat_natCast, Int.toNat_natCast, rS_92, rS_92, ef ()]
    by_cases c1 : C (64 * a + t) = 0
    · rw [if_pos c1, if_neg (fun k => k.1 c1)]
    · rw [if_neg c1, if_pos t64, if_pos a64]
      by_cases c2 : F t = F a - 1
      · rw [if_pos c2, if_pos ⟨c1, c2⟩]
      · rw [if_neg c2, if_neg (fun k => c2 k.2)]
  intro m
  induction m with
  | zero =>
    intro t hm ht _
    have : t = s := by omega
    subst this
    rw [stp t ht, if_pos h1]
  | succ m ih =>
    intro t hm ht hn
    by_cases e : t = s
    · subst e; rw [stp t ht, if_pos h1]
    · rw [stp t ht, if_neg (hn t (by omega) (by omega))]
      exact ih (t + 1) (by omega) (by omega) (fun k k1 k2 => hn k (by omega) k2)
theorem r_along (d : Nat) (V : XM) (h : GR V) {r : Int} {a b : Nat} (cr : 0 ≤ (V 14 0 29) ∧ (V 14 0 29) ≤ 8) (ir : 0 ≤ r ∧ r < (V 14 0 29)) (ha : a < (V 14 0 9).toNat) (hb : b < (V 14 0 9).toNat) : ∃ (x : Int) (W : XM) (C F L : Nat → Int), GW V r W ∧ isD (RG V r) a b x ∧ Yf (d + 30) 266 [xr 14 0, xi r, xi (a : Int), xi (b : Int)] V = some (xi x, rS (xrow W 94 C) F L) := by
  obtain ⟨W, C, F, L, q1, q2, q3, q4, q5⟩ := r_back (d + 27) V h (r := r) (by omega) hb
  obtain ⟨t1, t2, _⟩ := id h
  refine ⟨F a, W, C, F, L, q1, (q3 a ha).1, ?_⟩
  rw [s_X12_along, y_couple _ V _ _ _ cr ⟨t1, t2⟩, ci_r, ite_b2, if_pos ⟨ir, by omega, by omega⟩, q4, cv_r, q5, cv_r, if_pos (by omega), Int.toNat_natCast, rS_92]
theorem r_next (d : Nat) (V : XM) (h : GR V) {r : Int} {a b : Nat} (cr : 0 ≤ (V 14 0 29) ∧ (V 14 0 29) ≤ 8) (ir : 0 ≤ r ∧ r < (V 14 0 29)) (ha : a < (V 14 0 9).toNat) (hb : b < (V 14 0 9).toNat) : ∃ (x : Int) (W : XM) (C F L : Nat → Int), GW V r W ∧ isNx (fun h w => RG V r a h ∧ w = h) (RG V r) a b x ∧ Yf (d + 30) 267 [xr 14 0, xi r, xi (a : Int), xi (b : Int)] V = some (xi x, rS (xrow W 94 C) F L) := by
  obtain ⟨W, C, F, L, q1, q2, q3, q4, q5⟩ := r_back (d + 27) V h (r := r) (by omega) hb
  obtain ⟨t1, t2, _⟩ := id h
  have hc : ∀ X, X = (if (a : Int) = (b : Int) then some (xi (-9), rS (xrow W 94 C) F L) else if F a = -9 then some (xi (-9), rS (xrow W 94 C) F L) else Xf (d + 29) 267 44 [xr 14 0, xr 0 0, xi (a : Int), xr 0 0, xi 0] [] (rS (xrow W 94 C) F L)) → Yf (d + 30) 267 [xr 14 0, xi r, xi (a : Int), xi (b : Int)] V = X := fun X hX => by
    rw [s_X12_next, y_couple _ V _ _ _ cr ⟨t1, t2⟩, ci_r, ite_b2, if_pos ⟨ir, by omega, by omega⟩, q4, cv_r, q5, cv_r, if_pos (c := 0 ≤ (a : Int) ∧ (a : Int) < 64) (by omega), Int.toNat_natCast, rS_92, hX]
  by_cases c1 : a = b
  · exact ⟨-9, W, C, F, L, q1, .inl ⟨rfl, .inl c1⟩, hc _ (by rw [if_pos (by omega)])⟩
  by_cases c2 : F a = -9
  · refine ⟨-9, W, C, F, L, q1, .inl ⟨rfl, .inr ?_⟩, hc _ (by rw [if_neg (by omega), if_pos c2])⟩
    rcases (q3 a ha).1 with k | ⟨k, k1, _⟩
    · exact k.2
    · omega
  have hst : ∀ h w, (RG V r a h ∧ w = h) → RG V r a w ∧ w < (V 14 0 9).toNat := fun h w z => by rw [z.2]; exact ⟨z.1, z.1.2.1⟩
  have nx := nx_of (st := fun h w => RG V r a h ∧ w = h) (E := RG V r) hst (fun w z => ⟨w, z, rfl⟩) (fun v hv => (q3 v hv).1) ha c1 c2
  have st_iff : ∀ k, k < (V 14 0 9).toNat → (C (64 * a + k) ≠ 0 ↔ RG V r a k) := fun k hk => (q2 a k (by omega) (by omega)).iff.trans ⟨fun z => ⟨ha, hk, z⟩, fun z => z.2.2⟩
  have fpos : 0 < F a ∧ F a ≤ 64 := by
    refine ⟨?_, (q3 a ha).2⟩
    rcases (q3 a ha).1 with k | ⟨k, k1, k2, _⟩
    · exact absurd k.1 c2
    · have : k ≠ 0 := fun z => by subst z; exact c1 k2
      omega
  obtain ⟨⟨p, w, pw, pf⟩, nx2⟩ := nx
  rcases ff_spec (fun k => decide (C (64 * a + k) ≠ 0 ∧ F k = F a - 1)) (V 14 0 9).toNat 0 with ⟨y1, y2⟩ | ⟨s, y1, y2, y3, y4, y5⟩
  · obtain ⟨z1, z2⟩ := pw
    subst z2
    have := y2 w (by omega) (by have := z1.2.1; omega)
    simp only [decide_eq_false_iff_not] at this
    exact absurd ⟨(st_iff w z1.2.1).mpr z1, pf⟩ this
  · simp only [decide_eq_true_eq] at y4
    have sN : s < (V 14 0 9).toNat := by omega
    refine ⟨(s : Int), W, C, F, L, q1, nx2 s s ⟨(st_iff s sN).mp y4.1, rfl⟩ y4.2 (fun h' w' g1 g2 g3 => ?_), hc _ ?_⟩
    · obtain ⟨z1, z2⟩ := g2
      subst z2
      have := y5 w' (by omega) g1
      simp only [decide_eq_false_iff_not] at this
      exact this ⟨(st_iff w' z1.2.1).mpr z1, g3⟩
    · rw [if_neg (by omega), if_neg c2]
      have := x_nx (d + 29) W (a := a) (s := s) (C := C) (F := F) (L := L) (by omega) (by omega) fpos y4 s 0 (by omega) (by omega) (fun k _ k2 => by
        have := y5 k (by omega) k2
        simp only [decide_eq_false_iff_not] at this
        exact this)
      exact this.symm
theorem g_along (d : Nat) (V : XM) (h : Inv V) (r a b : Int) : AG d 152 266 [xi r, xi a, xi b] V := by
  have h' := h
  obtain ⟨⟨ck1, ck2, ck3, cp1, cp2, cp3, ct1, ct2, ct3, cs1, cs2, cs3, cq1, cq2, cq3, cr1, cr2, cr3, cf1, cf2, cf3, cb1, cb2, cb3, cw1, cw2, cw3, clf, clc⟩, hkin, hpro, husu, hgiv, hthg, hhom, hput, hrin, hsen, hbar, hset, hmos, hpai, hrel, hmap, hdoo, hshe, htab, hwor⟩ := h'
  by_cases i : (0 ≤ r ∧ r < (V 14 0 29)) ∧ (0 ≤ a ∧ a < (V 14 0 9)) ∧ (0 ≤ b ∧ b < (V 14 0 9))
  · obtain ⟨a', ea⟩ : ∃ n : Nat, a = (n : Int) := ⟨a.toNat, by omega⟩
    obtain ⟨b', eb⟩ : ∃ n : Nat, b = (n : Int) := ⟨b.toNat, by omega⟩
    subst ea; subst eb
    have hN : (V 4 0 7) = (((V 14 0 9).toNat : Nat) : Int) := by omega
    obtain ⟨F, H, L, n, b1, b2⟩ := y_rwalk (d + 27) V (r := r) (a := a') (by omega) hN (by omega) (by omega)
    have hD := isD.congr (fun u v => rel_RG h i.1 u v) (b1.far (rel_ge V r (by omega)) (v := b') (by omega))
    obtain ⟨x, W, C, F2, L2, q1, q2, q3⟩ := r_along d (wS V F H L (n : Int)) (r := r) (a := a') (b := b') h.gr ⟨cr1, cr2⟩ i.1 (by show a' < (V 14 0 9).toNat; omega) (by show b' < (V 14 0 9).toNat; omega)
    have q2' : isD (RG V r) a' b' x := q2
    rw [q2'.uniq hD] at q3
    refine AG.mk (x := xi (F b')) (V1 := wS V F H L (n : Int)) ?_ q3 (Inv.bk (h.ws F H L n) q1 C F2 L2) (by
      show W 1 = V 1
      have := q1.one
      rw [this]; rfl)
    rw [s_X11_along, y_relatable _ V h, ci_r, ite_b2, if_pos i, b2, cr_r, if_pos (by omega), Int.toNat_natCast, wS_51]
  · exact AG.no (x := xi (-1)) h (by rw [s_X11_along, y_relatable _ V h, ci_r, ite_b2, if_neg i]) (by rw [s_X12_along, y_couple _ V _ _ _ ⟨cr1, cr2⟩ ⟨ct1, ct2⟩, ci_r, ite_b2, if_neg i])
theorem g_next (d : Nat) (V : XM) (h : Inv V) (r a b : Int) : AG d 153 267 [xi r, xi a, xi b] V := by
  have h' := h
  obtain ⟨⟨ck1, ck2, ck3, cp1, cp2, cp3, ct1, ct2, ct3, cs1, cs2, cs3, cq1, cq2, cq3, cr1, cr2, cr3, cf1, cf2, cf3, cb1, cb2, cb3, cw1, cw2, cw3, clf, clc⟩, hkin, hpro, husu, hgiv, hthg, hhom, hput, hrin, hsen, hbar, hset, hmos, hpai, hrel, hmap, hdoo, hshe, htab, hwor⟩ := h'
  by_cases i : (0 ≤ r ∧ r < (V 14 0 29)) ∧ (0 ≤ a ∧ a < (V 14 0 9)) ∧ (0 ≤ b ∧ b < (V 14 0 9))
  · obtain ⟨a', ea⟩ : ∃ n : Nat, a = (n : Int) := ⟨a.toNat, by omega⟩
    obtain ⟨b', eb⟩ : ∃ n : Nat, b = (n : Int) := ⟨b.toNat, by omega⟩
    subst ea; subst eb
    have hN : (V 4 0 7) = (((V 14 0 9).toNat : Nat) : Int) := by omega
    obtain ⟨F, H, L, n, b1, b2⟩ := y_rwalk (d + 27) V (r := r) (a := a') (by omega) hN (by omega) (by omega)
    have hE : eE (relE V (V 14 0 9).toNat r) (V 14 0 9).toNat = RG V r := by funext u v; exact propext (rel_RG h i.1 u v)
    have hD := (b1.head (v := b') (by omega)).nx (b1.far (rel_ge V r (by omega)) (v := b') (by omega))
    have hst : (fun h w => h < (V 14 0 9).toNat ∧ relE V (V 14 0 9).toNat r a' h = some w) = (fun h w => RG V r a' h ∧ w = h) := by
      funext p w
      refine propext ⟨fun z => ?_, fun z => ?_⟩
      · have e1 := (relE_s z.2).1
        subst e1
        exact ⟨by rw [← hE]; exact ⟨p, z.1, z.2⟩, rfl⟩
      · obtain ⟨z1, z2⟩ := z
        subst z2
        rw [← hE] at z1
        obtain ⟨j, j1, j2⟩ := z1
        have e1 := (relE_s j2).1
        subst e1
        exact ⟨j1, j2⟩
    rw [hst, hE] at hD
    obtain ⟨x, W, C, F2, L2, q1, q2, q3⟩ := r_next d (wS V F H L (n : Int)) (r := r) (a := a') (b := b') h.gr ⟨cr1, cr2⟩ i.1 (by show a' < (V 14 0 9).toNat; omega) (by show b' < (V 14 0 9).toNat; omega)
    have q2' : isNx (fun h w => RG V r a' h ∧ w = h) (RG V r) a' b' x := q2
    rw [q2'.uniq (fun h w z => by rw [z.2]; exact z.1) hD] at q3
    refine AG.mk (x := xi (H b')) (V1 := wS V F H L (n : Int)) ?_ q3 (Inv.bk (h.ws F H L n) q1 C F2 L2) (by
      show W 1 = V 1
      have := q1.one
      rw [this]; rfl)
    rw [s_X11_next, y_relatable _ V h, ci_r, ite_b2, if_pos i, b2, cr_r, if_pos (by omega), Int.toNat_natCast, wS_52]
  · exact AG.no (x := xi (-1)) h (by rw [s_X11_next, y_relatable _ V h, ci_r, ite_b2, if_neg i]) (by rw [s_X12_next, y_couple _ V _ _ _ ⟨cr1, cr2⟩ ⟨ct1, ct2⟩, ci_r, ite_b2, if_neg i])
