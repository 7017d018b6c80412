/-! route, first -/
theorem x_ft (d : Nat) (W : XM) {B : Nat → Int} {c : Int} {N a s : Nat} {F L : Nat → Int} (hm0 : MP W B N) (h64 : N ≤ 64) (ha : a < N) (hB : B a = 1) (hs : s < 8) (hf : 0 < F a ∧ F a ≤ 64) (h1 : goP W c (8 * a + s) ∧ F ((W 96 0 (8 * a + s))).toNat = F a - 1) : ∀ (m t : Nat), s - t ≤ m → t ≤ s → (∀ k, t ≤ k → k < s → ¬ (goP W c (8 * a + k) ∧ F ((W 96 0 (8 * a + k))).toNat = F a - 1)) → Xf (d + 1) 277 46 [xr 14 0, xi (a : Int), xr 0 0, xi c, xi (t : Int)] [] (rS W F L) = some (xi (s : Int), rS W F L) := by
  have e96 : ∀ j, (rS W F L) 96 0 j = W 96 0 j := fun j => rfl
  have a64 : 0 ≤ (a : Int) ∧ (a : Int) < 64 := by omega
  have ef : Unit → w32 (F a - 1) = F a - 1 := fun _ => w32_i (by omega) (by omega)
  have stp : ∀ t : Nat, t ≤ s → Xf (d + 1) 277 46 [xr 14 0, xi (a : Int), xr 0 0, xi c, xi (t : Int)] [] (rS W F L) = if goP W c (8 * a + t) ∧ F ((W 96 0 (8 * a + t))).toNat = F a - 1 then some (xi (t : Int), rS W F L) else Xf (d + 1) 277 46 [xr 14 0, xi (a : Int), xr 0 0, xi c, xi ((t + 1 : Nat) : Int)] [] (rS W F L) := by
    intro t ht
    have et : Unit → w32 ((t : Int) + 1) = ((t + 1 : Nat) : Int) := fun _ => by rw [w32_i (by omega) (by omega)]; omega
    have ei : Unit → w32 (w32 (8 * (a : Int)) + (t : Int)) = ((8 * a + t : Nat) : Int) := fun _ => by rw [w32_add, w32_i (by omega) (by omega)]; omega
    have hg : ∀ e, Yf (e + 1) 274 [xr 14 0, xi ((8 * a + t : Nat) : Int), xi c] (rS W F L) = some (xi (b2 (goP W c (8 * a + t))), rS W F L) := fun e => y_goes e (rS W F L) c (e := 8 * a + t) (by omega) (by exact (hm0 a t ha (by omega)).2)
    rw [s_X12_first__46, ei (), hg, ci_r, ite_b2, et ()]
    by_cases c1 : goP W c (8 * a + t)
    · have hto := (hm0 a t ha (by omega)).1 ⟨c1.1, c1.2.1⟩
      rw [if_pos c1, if_pos (by omega), Int.toNat_natCast, Int.toNat_natCast, e96, if_pos (by omega), if_pos a64, rS_92, rS_92, ef ()]
      by_cases c2 : F ((W 96 0 (8 * a + t))).toNat = F a - 1
      · rw [if_pos c2, if_pos ⟨c1, c2⟩]
      · rw [if_neg c2, if_neg (fun k => c2 k.2)]
    · rw [if_neg c1, if_neg (fun k => c1 k.1)]
  intro m
  induction m with
  | zero =>
    intro t hm ht _
    have : t = s := by omega
    subst this
    rw [stp t ht, if_pos h1]
  | succ m ih =>
    intro t hm ht hn
    by_cases e : t = s
    · subst e; rw [stp t ht, if_pos h1]
    · rw [stp t ht, if_neg (hn t (by omega) (by omega))]
      exact ih (t + 1) (by omega) (by omega) (fun k k1 k2 => hn k (by omega) k2)
theorem r_route (d : Nat) (V : XM) {B : Nat → Int} (c : Int) {a b N : Nat} (hr : RB V B) (hm : MP V B N) (hN : (V 14 0 9) = (N : Int)) (h64 : N ≤ 64) (ha : a < N ∧ B a = 1) (hb : b < N ∧ B b = 1) : ∃ (x : Int) (F L : Nat → Int), isD (eE (rmE V B N c) 8) a b x ∧ Yf (d + 30) 276 [xr 14 0, xi (a : Int), xi (b : Int), xi c] V = some (xi x, rS V F L) := by
  obtain ⟨F, L, q1, q2⟩ := y_routeBack (d + 25) V c hr hm hN h64 hb.1
  refine ⟨F a, F, L, (q1 a ha.1).1, ?_⟩
  rw [s_X12_route, y_rRoom _ V hr, ci_r, ite_b2, if_pos ⟨by omega, by omega, by rw [Int.toNat_natCast]; exact ha.2⟩, y_rRoom _ V hr, ci_r, ite_b2, if_pos ⟨by omega, by omega, by rw [Int.toNat_natCast]; exact hb.2⟩, q2, cv_r, if_pos (by omega), Int.toNat_natCast, rS_92]
theorem r_first (d : Nat) (V : XM) {B : Nat → Int} (c : Int) {a b N : Nat} (hr : RB V B) (hm : MP V B N) (hN : (V 14 0 9) = (N : Int)) (h64 : N ≤ 64) (ha : a < N ∧ B a = 1) (hb : b < N ∧ B b = 1) : ∃ (x : Int) (F L : Nat → Int), isNx (fun h w => h < 8 ∧ rmE V B N c a h = some w) (eE (rmE V B N c) 8) a b x ∧ Yf (d + 30) 277 [xr 14 0, xi (a : Int), xi (b : Int), xi c] V = some (xi x, rS V F L) := by
  obtain ⟨F, L, q1, q2⟩ := y_routeBack (d + 25) V c hr hm hN h64 hb.1
  have hc : ∀ X, X = (if (a : Int) = (b : Int) then some (xi (-9), rS V F L) else if F a = -9 then some (xi (-9), rS V F L) else Xf (d + 29) 277 46 [xr 14 0, xi (a : Int), xr 0 0, xi c, xi 0] [] (rS V F L)) → Yf (d + 30) 277 [xr 14 0, xi (a : Int), xi (b : Int), xi c] V = X := fun X hX => by
    rw [s_X12_first_, y_rRoom _ V hr, ci_r, ite_b2, if_pos ⟨by omega, by omega, by rw [Int.toNat_natCast]; exact ha.2⟩, y_rRoom _ V hr, ci_r, ite_b2, if_pos ⟨by omega, by omega, by rw [Int.toNat_natCast]; exact hb.2⟩, q2, cv_r, if_pos (c := 0 ≤ (a : Int) ∧ (a : Int) < 64) (by omega), Int.toNat_natCast, rS_92, hX]
  by_cases c1 : a = b
  · exact ⟨-9, F, L, .inl ⟨rfl, .inl c1⟩, hc _ (by rw [if_pos (by omega)])⟩
  by_cases c2 : F a = -9
  · refine ⟨-9, F, L, .inl ⟨rfl, .inr ?_⟩, hc _ (by rw [if_neg (by omega), if_pos c2])⟩
    rcases (q1 a ha.1).1 with k | ⟨k, k1, _⟩
    · exact k.2
    · omega
  have hst : ∀ h w, (h < 8 ∧ rmE V B N c a h = some w) → eE (rmE V B N c) 8 a w ∧ w < N := fun h w z => by
    refine ⟨⟨h, z.1, z.2⟩, ?_⟩
    obtain ⟨k1, k2, k3, k4⟩ := rmE_s z.2
    have := (hm a h k2 z.1).1 ⟨k4.1, k4.2.1⟩
    omega
  have nx := nx_of (st := fun h w => h < 8 ∧ rmE V B N c a h = some w) (E := eE (rmE V B N c) 8) hst (fun w z => z) (fun v hv => (q1 v hv).1) ha.1 c1 c2
  have fpos : 0 < F a ∧ F a ≤ 64 := by
    refine ⟨?_, (q1 a ha.1).2⟩
    rcases (q1 a ha.1).1 with k | ⟨k, k1, k2, _⟩
    · exact absurd k.1 c2
    · have : k ≠ 0 := fun z => by subst z; exact c1 k2
      omega
  have st_iff : ∀ k, k < 8 → goP V c (8 * a + k) → rmE V B N c a k = some ((V 96 0 (8 * a + k))).toNat := fun k hk z => by
    unfold rmE; rw [if_pos ⟨ha.1, ha.2, z⟩]
  obtain ⟨⟨p, w, pw, pf⟩, nx2⟩ := nx
  rcases ff_spec (fun k => decide (goP V c (8 * a + k) ∧ F ((V 96 0 (8 * a + k))).toNat = F a - 1)) 8 0 with ⟨y1, y2⟩ | ⟨s, y1, y2, y3, y4, y5⟩
  · obtain ⟨z1, z2⟩ := pw
    obtain ⟨k1, k2, k3, k4⟩ := rmE_s z2
    have := y2 p (by omega) (by omega)
    simp only [decide_eq_false_iff_not] at this
    exact absurd ⟨k4, by rw [← k1]; exact pf⟩ this
  · simp only [decide_eq_true_eq] at y4
    refine ⟨(s : Int), F, L, nx2 s _ ⟨by omega, st_iff s (by omega) y4.1⟩ y4.2 (fun h' w' g1 g2 g3 => ?_), hc _ ?_⟩
    · obtain ⟨k1, k2, k3, k4⟩ := rmE_s g2.2
      have := y5 h' (by omega) g1
      simp only [decide_eq_false_iff_not] at this
      exact this ⟨k4, by rw [← k1]; exact g3⟩
    · rw [if_neg (by omega), if_neg c2]
      have := x_ft (d + 28) V (c := c) (a := a) (s := s) (F := F) (L := L) hm h64 ha.1 ha.2 (by omega) fpos y4 s 0 (by omega) (by omega) (fun k _ k2 => by
        have := y5 k (by omega) k2
        simp only [decide_eq_false_iff_not] at this
        exact this)
      exact this.symm
theorem Inv.rs {V : XM} (h : Inv V) (F L : Nat → Int) : Inv (rS V F L) := by
  obtain ⟨h1, h2, h3, h4, h5, h6, h7, h8, h9, h10, h11, h12, h13, h14, h15, h16, h17, h18, h19, h20⟩ := h
  exact ⟨h1, h2, h3, h4, h5, h6, h7, h8, h9, h10, h11, h12, h13, h14, h15, h16, h17, h18, h19, h20⟩
theorem g_route (d : Nat) (V : XM) (h : Inv V) (a b c : Int) : AG d 159 276 [xi a, xi b, xi c] V := by
  have h' := h
  obtain ⟨⟨ck1, ck2, ck3, cp1, cp2, cp3, ct1, ct2, ct3, cs1, cs2, cs3, cq1, cq2, cq3, cr1, cr2, cr3, cf1, cf2, cf3, cb1, cb2, cb3, cw1, cw2, cw3, clf, clc⟩, hkin, hpro, husu, hgiv, hthg, hhom, hput, hrin, hsen, hbar, hset, hmos, hpai, hrel, hmap, hdoo, hshe, htab, hwor⟩ := h'
  have A1 := fun e t => y_cRoom e V t (by omega)
  rw [ct3] at A1
  have A2 := fun e t => y_rRoom e V h.rb t
  by_cases ia : 0 ≤ a ∧ a < (V 14 0 9) ∧ (V 21 0 (a.toNat)) = 1
  · by_cases ib : 0 ≤ b ∧ b < (V 14 0 9) ∧ (V 21 0 (b.toNat)) = 1
    · obtain ⟨a', ea⟩ : ∃ n : Nat, a = (n : Int) := ⟨a.toNat, by omega⟩
      obtain ⟨b', eb⟩ : ∃ n : Nat, b = (n : Int) := ⟨b.toNat, by omega⟩
      subst ea; subst eb
      have ia' : a' < (V 14 0 9).toNat ∧ (V 21 0 a') = 1 := ⟨by omega, by have := ia.2.2; rw [Int.toNat_natCast] at this; exact this⟩
      have ib' : b' < (V 14 0 9).toNat ∧ (V 21 0 b') = 1 := ⟨by omega, by have := ib.2.2; rw [Int.toNat_natCast] at this; exact this⟩
      obtain ⟨F, H, L, n, b1, b2⟩ := y_mwalk (d + 26) V h (c := c) ia'
      have hD := b1.far (rm_ge c h.mp ia') (v := b') ib'.1
      obtain ⟨x, F2, L2, q2, q3⟩ := r_route d (wS V F H L (n : Int)) c (a := a') (b := b') (N := (V 14 0 9).toNat) (B := (V 21 0)) (by exact h.rb) (by exact h.mp) (by show (V 14 0 9) = _; omega) (by omega) ia' ib'
      have q2' : isD (eE (rmE V (V 21 0) (V 14 0 9).toNat c) 8) a' b' x := q2
      rw [q2'.uniq hD] at q3
      refine AG.mk (x := xi (F b')) (V1 := wS V F H L (n : Int)) ?_ q3 ((h.ws F H L n).rs F2 L2) rfl
      rw [s_X11_route, A1, ci_r, ite_b2, if_pos ia, A1, ci_r, ite_b2, if_pos ib, b2, cr_r, if_pos (by omega), Int.toNat_natCast, wS_51]
    · exact AG.no (x := xi (-1)) h (by rw [s_X11_route, A1, ci_r, ite_b2, if_pos ia, A1, ci_r, ite_b2, if_neg ib]) (by rw [s_X12_route, A2, ci_r, ite_b2, if_pos ia, A2, ci_r, ite_b2, if_neg ib])
  · exact AG.no (x := xi (-1)) h (by rw [s_X11_route, A1, ci_r, ite_b2, if_neg ia]) (by rw [s_X12_route, A2, ci_r, ite_b2, if_neg ia])
theorem g_first_ (d : Nat) (V : XM) (h : Inv V) (a b c : Int) : AG d 160 277 [xi a, xi b, xi c] V := by
  have h' := h
  obtain ⟨⟨ck1, ck2, ck3, cp1, cp2, cp3, ct1, ct2, ct3, cs1, cs2, cs3, cq1, cq2, cq3, cr1, cr2, cr3, cf1, cf2, cf3, cb1, cb2, cb3, cw1, cw2, cw3, clf, clc⟩, hkin, hpro, husu, hgiv, hthg, hhom, hput, hrin, hsen, hbar, hset, hmos, hpai, hrel, hmap, hdoo, hshe, htab, hwor⟩ := h'
  have A1 := fun e t => y_cRoom e V t (by omega)
  rw [ct3] at A1
  have A2 := fun e t => y_rRoom e V h.rb t
  by_cases ia : 0 ≤ a ∧ a < (V 14 0 9) ∧ (V 21 0 (a.toNat)) = 1
  · by_cases ib : 0 ≤ b ∧ b < (V 14 0 9) ∧ (V 21 0 (b.toNat)) = 1
    · obtain ⟨a', ea⟩ : ∃ n : Nat, a = (n : Int) := ⟨a.toNat, by omega⟩
      obtain ⟨b', eb⟩ : ∃ n : Nat, b = (n : Int) := ⟨b.toNat, by omega⟩
      subst ea; subst eb
      have ia' : a' < (V 14 0 9).toNat ∧ (V 21 0 a') = 1 := ⟨by omega, by have := ia.2.2; rw [Int.toNat_natCast] at this; exact this⟩
      have ib' : b' < (V 14 0 9).toNat ∧ (V 21 0 b') = 1 := ⟨by omega, by have := ib.2.2; rw [Int.toNat_natCast] at this; exact this⟩
      obtain ⟨F, H, L, n, b1, b2⟩ := y_mwalk (d + 26) V h (c := c) ia'
      have hD := (b1.head (v := b') ib'.1).nx (b1.far (rm_ge c h.mp ia') (v := b') ib'.1)
      obtain ⟨x, F2, L2, q2, q3⟩ := r_first d (wS V F H L (n : Int)) c (a := a') (b := b') (N := (V 14 0 9).toNat) (B := (V 21 0)) (by exact h.rb) (by exact h.mp) (by show (V 14 0 9) = _; omega) (by omega) ia' ib'
      have q2' : isNx (fun h w => h < 8 ∧ rmE V (V 21 0) (V 14 0 9).toNat c a' h = some w) (eE (rmE V (V 21 0) (V 14 0 9).toNat c) 8) a' b' x := q2
      rw [q2'.uniq (fun h w z => ⟨h, z.1, z.2⟩) hD] at q3
      refine AG.mk (x := xi (H b')) (V1 := wS V F H L (n : Int)) ?_ q3 ((h.ws F H L n).rs F2 L2) rfl
      rw [s_X11_first, A1, ci_r, ite_b2, if_pos ia, A1, ci_r, ite_b2, if_pos ib, b2, cr_r, if_pos (by omega), Int.toNat_natCast, wS_52]
    · exact AG.no (x := xi (-1)) h (by rw [s_X11_first, A1, ci_r, ite_b2, if_pos ia, A1, ci_r, ite_b2, if_neg ib]) (by rw [s_X12_first_, A2, ci_r, ite_b2, if_pos ia, A2, ci_r, ite_b2, if_neg ib])
  · exact AG.no (x := xi (-1)) h (by rw [s_X11_first, A1, ci_r, ite_b2, if_neg ia]) (by rw [s_X12_first_, A2, ci_r, ite_b2, if_neg ia])
