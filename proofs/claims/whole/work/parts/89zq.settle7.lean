/-! settle: both -/
theorem Inv.x89 {V : XM} (h : Inv V) (q : Nat → Int) : Inv (xrow V 89 q) := by
  obtain ⟨h1, h2, h3, h4, h5, h6, h7, h8, h9, h10, h11, h12, h13, h14, h15, h16, h17, h18, h19, h20⟩ := h
  exact ⟨h1, h2, h3, h4, h5, h6, h7, h8, h9, h10, h11, h12, h13, h14, h15, h16, h17, h18, h19, h20⟩
theorem wyN_cg {V W : XM} (h1 : ∀ k, unsB W k = unsB V k) (h2 : ∀ k, W 81 0 k = V 81 0 k) : ∀ t, wyN W t = wyN V t := by
  intro t
  induction t with
  | zero => rfl
  | succ t ih => rw [wyN_s, wyN_s, ih, h1, h2]
theorem zS_ne {Z : XM} {G H P I : Nat → Int} {g : Nat} (h : ¬ inP g) : (zS Z G H P I) g = Z g := by
  unfold inP at h
  funext b c
  unfold zS
  rw [if_neg (by omega), if_neg (by omega), if_neg (by omega), if_neg (by omega)]
theorem fS_ne {V : XM} {F : Nat → Int} {c : Int} {g : Nat} (h1 : g ≠ 50) (h2 : g ≠ 8) : (fS V F c) g = V g := by
  funext b x
  unfold fS
  rw [if_neg (by omega), if_neg (by omega)]
theorem xrow_ne {V : XM} {g0 g : Nat} {F : Nat → Int} (h : g ≠ g0) : (xrow V g0 F) g = V g := by
  funext b x
  unfold xrow
  rw [if_neg (by omega)]
theorem zS_cg {Z V : XM} {G H P I : Nat → Int} {g : Nat} (h : Z g = V g) : (zS Z G H P I) g = (zS V G H P I) g := by
  funext b c
  unfold zS
  rw [h]
/-- the memory in the end is that of the puts -/
theorem fin_eq {V W : XM} (h : Inv V) {N m : Nat} {F : Nat → Int} {q : Nat → Int} (hN : (V 14 0 9) = (N : Int)) (hE : EN V N m F) (h7 : cnt (unsB V) N ≤ 7) (hd : dfs (ltB V (V 21 0) N) (unsB V) (V 81 0) N 0 (p0F V (V 21 0) N) = some q) (hC : CM (fS V F (m : Int)) N m (fun i => (F i).toNat) (V 14 0 22) q W) : rT (xrow (cT W (fun i => (F i).toNat) q (V 14 0 22) m) 89 q) (fun i => (F i).toNat) q (V 14 0 22) m = ovz (pv V (fun i => (F i).toNat) q (V 14 0 22) m) (rT (xrow (cT W (fun i => (F i).toNat) q (V 14 0 22) m) 89 q) (fun i => (F i).toNat) q (V 14 0 22) m) := by
  obtain ⟨f1, f2, f3, f4, f5, f6⟩ := st_facts h hN
  obtain ⟨p1, p2⟩ := dfs_path N 0 _ hd
  have hUN := un_of hE h7
  generalize hun : (fun i => (F i).toNat) = un at *
  obtain ⟨_, _, n3, n4, n5⟩ := id hUN
  have hU : UE V N m un := ⟨fun i hi => (n3 i hi).2, n4, n5⟩
  obtain ⟨G', P', eW, hG', hP1', hP2'⟩ := hC
  have hqw : ∀ i, i < m → ∃ w : Nat, q (un i) = (w : Int) := fun i hi => by
    obtain ⟨a1, a2⟩ := hU.1 i hi
    obtain ⟨w, _, _, e, _⟩ := p2 (un i) (by omega) (by omega) a2
    exact ⟨w, e⟩
  have ecj : cj (p0F V (V 21 0) N) un q m = q := by
    obtain ⟨c1, c2⟩ := cj_un (p := p0F V (V 21 0) N) (q := q) (m := m) hU.2.1 m (Nat.le_refl m)
    funext x
    by_cases hx : x < N ∧ unsB V x = true
    · obtain ⟨i, e1, e2⟩ := hU.2.2 x hx.1 hx.2
      rw [← e2, c1 i e1]
    · rw [c2 x (fun i hi e => hx (by rw [← e]; exact hU.1 i hi))]
      refine (p1 x ?_).symm
      by_cases hxN : x < N
      · right; right
        cases hz : unsB V x with
        | false => rfl
        | true => exact absurd ⟨hxN, hz⟩ hx
      · right; left; omega
  obtain ⟨G, P, k1, k2, k3, k4⟩ := pv_P h (q := q) (n0 := (V 14 0 22)) (p := p0F V (V 21 0) N) hN hU (fun k hk hu => f6.1.2.2.2.2.2 k hk (by omega) hu) hqw m (Nat.le_refl m)
  rw [ecj] at k1 k2
  have eG : G' = G := by
    funext c
    by_cases hc : ∃ k, k < N ∧ unsB V k = true ∧ c = 6 * k
    · obtain ⟨k, c1, c2, c3⟩ := hc
      obtain ⟨i, e1, e2⟩ := hU.2.2 k c1 c2
      have hq9 : q k ≠ -9 := by
        obtain ⟨w, hw⟩ := hqw i e1
        rw [← e2, hw]; omega
      rw [c3, hG'.1 k c1 (by exact c2) hq9, k2.1 k c1 c2 hq9]
    · have hc' : ∀ k, k < N → unsB V k = true → c ≠ 6 * k := fun k a b e => hc ⟨k, a, b, e⟩
      rw [hG'.2 c (by exact hc'), k2.2 c hc']
      rfl
  have eP : P' = P := by
    funext k
    by_cases hk : k < N ∧ unsB V k = true
    · obtain ⟨i, e1, e2⟩ := hU.2.2 k hk.1 hk.2
      have hq9 : q (un i) ≠ -9 := by
        obtain ⟨w, hw⟩ := hqw i e1
        rw [hw]; omega
      rw [← e2, hP1' i e1 hq9, k3 i e1]
    · rw [hP2' k (by exact hk), k4 k (fun i hi e => hk (by rw [e]; exact hU.1 i hi))]
      rfl
  funext g
  by_cases c0 : g = 50 ∨ g = 8 ∨ g = 89
  · funext b c
    show _ = if g = 50 ∨ g = 8 ∨ g = 89 then _ else _
    rw [if_pos c0]
  · have hov : (ovz (pv V un q (V 14 0 22) m) (rT (xrow (cT W un q (V 14 0 22) m) 89 q) un q (V 14 0 22) m)) g = (pv V un q (V 14 0 22) m) g := by
      funext b c
      show (if g = 50 ∨ g = 8 ∨ g = 89 then _ else _) = _
      rw [if_neg c0]
    rw [hov]
    have hWg : ¬ inP g → W g = V g := fun hp => by
      rw [eW, zS_ne hp, fS_ne (by omega) (by omega)]
    by_cases cR : inR g
    · refine pv_R (fun g' hg' => ?_) m g cR
      have hg3 : g' ≠ 89 ∧ ¬ inP g' ∧ g' ≠ 50 ∧ g' ≠ 8 ∧ (g' ≠ 33 ∧ g' ≠ 34 ∧ g' ≠ 35 ∧ g' ≠ 36 ∧ g' ≠ 6) := by unfold inR at hg'; unfold inP; omega
      rw [xrow_ne hg3.1, cT_ne W un q (V 14 0 22) hg3.2.2.2.2 m, eW, zS_ne hg3.2.1, fS_ne hg3.2.2.1 hg3.2.2.2.1]
    · rw [rT_ne _ un q (V 14 0 22) cR m, xrow_ne (by omega)]
      by_cases cT' : inT g
      · exact pv_T cT' (hWg (by unfold inT at cT'; unfold inP; omega)) m
      · rw [cT_ne W un q (V 14 0 22) (by unfold inT at cT'; omega) m]
        by_cases cP : inP g
        · rw [k1 g cP, eW, eG, eP]
          exact zS_cg (fS_ne (by omega) (by omega))
        · rw [hWg cP, pv_O cR cT' cP]
theorem g_settle (d : Nat) (V : XM) (h : Inv V) : AG d 146 249 [] V := by
  obtain ⟨N, hN⟩ : ∃ n : Nat, (V 14 0 9) = (n : Int) := ⟨(V 14 0 9).toNat, by have := h.1.2.2.2.2.2.2.1; omega⟩
  obtain ⟨f1, f2, f3, f4, f5, f6⟩ := st_facts h hN
  have s1 : 0 ≤ (V 14 0 22) := f1.2.2.1.1
  obtain ⟨c1, c2, c3⟩ := c_settle d V h hN
  have hsr := dfs_sr f2 N 0 (p0F V (V 21 0) N) (by omega) f6.1
  have r0 := r_settle d V f1 f2 f6.1.1 f4
  by_cases i1 : 7 < cnt (unsB V) N ∨ 3000 < wyN V N
  · exact AG.no h (c1 i1) (r0.trans (if_pos i1))
  by_cases i2 : 300 < (V 14 0 22) + cnt (unsB V) N
  · exact AG.no h (c2 i1 i2) (r0.trans ((if_neg i1).trans (if_pos i2)))
  obtain ⟨F, m, hE, hnone, hsome⟩ := c3 i1 i2
  have hm : (m : Int) = cnt (unsB V) N := hE.2.2.2
  have h7 : cnt (unsB V) N ≤ 7 := by omega
  cases hd : dfs (ltB V (V 21 0) N) (unsB V) (V 81 0) N 0 (p0F V (V 21 0) N) with
  | none =>
    obtain ⟨W, hC, y⟩ := hnone hd
    rw [hd] at hsr
    obtain ⟨G, P, e, hG, _, hP2⟩ := hC
    have hp : ∀ k, k < N → unsB V k = true → p0F V (V 21 0) N k = -9 := fun k hk hu => f6.1.2.2.2.2.2 k hk (by omega) hu
    have e1 : hcF (fS V F (m : Int)) N (p0F V (V 21 0) N) = V 38 0 := by
      funext k
      unfold hcF
      rw [if_neg (fun z => z.2.2 (hp k z.1 (by exact z.2.1)))]
      rfl
    have e2 : inF (fS V F (m : Int)) N (p0F V (V 21 0) N) = V 43 0 := by
      funext w
      unfold inF
      have : cnt (fun k => decide (unsB (fS V F (m : Int)) k = true ∧ p0F V (V 21 0) N k = (w : Int))) N = cnt (fun _ => false) N := cnt_congr (fun k hk => by
        rw [decide_eq_false_iff_not]
        intro z
        have := hp k hk (by exact z.1)
        have := z.2
        omega)
      have h0 : ∀ n, cnt (fun _ => false) n = 0 := by
        intro n
        induction n with
        | zero => rfl
        | succ n ih => show cnt (fun _ => false) n + (if false = true then 1 else 0) = 0; rw [ih]; simp
      rw [this, h0]
      show V 43 0 w + 0 = V 43 0 w
      omega
    rw [e1, e2] at e
    have hIW : Inv W := by
      rw [e]
      exact Inv.nolay (h.fs F (m : Int)) (by exact hN) (by exact hG.2) (by exact hP2)
    subst e
    have r := r_settle d (zS (fS V F (m : Int)) G (V 38 0) P (V 43 0)) (B := (V 21 0)) (N := N) (by exact f1) (by exact f2) (by exact f6.1.1) (by exact f4)
    have r' := r.trans ((if_neg (by rw [wyN_cg (V := V) (W := zS (fS V F (m : Int)) G (V 38 0) P (V 43 0)) (fun _ => rfl) (fun _ => rfl)]; exact i1)).trans (if_neg (by exact i2)))
    have es : sr (kpB (zS (fS V F (m : Int)) G (V 38 0) P (V 43 0)) (V 21 0) N) (unsB (zS (fS V F (m : Int)) G (V 38 0) P (V 43 0))) ((zS (fS V F (m : Int)) G (V 38 0) P (V 43 0)) 81 0) N 0 (p0F (zS (fS V F (m : Int)) G (V 38 0) P (V 43 0)) (V 21 0) N) = none := hsr.symm
    rw [es] at r'
    exact AG.mk y r' (hIW.x89 _) rfl
  | some q =>
    obtain ⟨W, hC, y⟩ := hsome q hd
    have hfin := fin_eq h hN hE h7 hd hC
    rw [hd] at hsr
    have hUN := un_of hE h7
    obtain ⟨p1, p2⟩ := dfs_path N 0 _ hd
    generalize hun : (fun i => (F i).toNat) = un at *
    have hU : UE V N m un := ⟨fun i hi => (hUN.2.2.1 i hi).2, hUN.2.2.2.1, hUN.2.2.2.2⟩
    have hInv := (pv_all h hN hU (by omega) hd m (Nat.le_refl m)).1.1
    have hFin : Inv (rT (xrow (cT W un q (V 14 0 22) m) 89 q) un q (V 14 0 22) m) := by
      rw [hfin]
      exact hInv.ovz _
    have h1 : (rT (xrow (cT W un q (V 14 0 22) m) 89 q) un q (V 14 0 22) m) 1 = V 1 := by
      rw [rT_ne _ un q (V 14 0 22) (by unfold inR; decide) m, xrow_ne (by decide), cT_ne W un q (V 14 0 22) (by decide) m]
      obtain ⟨G, P, e, _⟩ := hC
      rw [e, zS_ne (by unfold inP; decide), fS_ne (by decide) (by decide)]
    have hov : cT W un q (V 14 0 22) m = ovc V (cT W un q (V 14 0 22) m) := by
      funext g
      by_cases c0 : g = 33 ∨ g = 34 ∨ g = 35 ∨ g = 36 ∨ g = 6 ∨ g = 37 ∨ g = 38 ∨ g = 39 ∨ g = 43 ∨ g = 50 ∨ g = 8
      · funext b c
        show _ = if _ then _ else _
        rw [if_pos c0]
      · have : (ovc V (cT W un q (V 14 0 22) m)) g = V g := by
          funext b c
          show (if _ then _ else _) = _
          rw [if_neg c0]
        rw [this, cT_ne W un q (V 14 0 22) (by omega) m]
        obtain ⟨G, P, e, _⟩ := hC
        rw [e, zS_ne (by unfold inP; omega), fS_ne (by omega) (by omega)]
    generalize cT W un q (V 14 0 22) m = V1 at *
    obtain ⟨Y, hY⟩ : ∃ Y, V1 = ovc V Y := ⟨V1, hov⟩
    clear hov
    subst hY
    have r := r_settle d (ovc V Y) (B := (V 21 0)) (N := N) (by exact f1) (by exact f2) (by exact f6.1.1) (by exact f4)
    have r' := r.trans ((if_neg (by rw [wyN_cg (V := V) (W := ovc V Y) (fun _ => rfl) (fun _ => rfl)]; exact i1)).trans (if_neg (by exact i2)))
    have es : sr (kpB (ovc V Y) (V 21 0) N) (unsB (ovc V Y)) ((ovc V Y) 81 0) N 0 (p0F (ovc V Y) (V 21 0) N) = some q := hsr.symm
    rw [es] at r'
    have x := x_r194 (d + 26) (xrow (ovc V Y) 89 q) (N := N) (m := m) (un := un) (q := q) (m : Int) (V 14 0 22) (by exact hN) f2.1 (by exact hU) ⟨by rfl, s1, by omega⟩ (fun k _ => rfl) N 0 0 (by omega) (by omega) (by omega) (fun i hi => by omega) (fun i _ _ => by omega)
    have x' : oDone (d + 24) (ovc V Y) (m : Int) q = some (xi (m : Int), rT (xrow (ovc V Y) 89 q) un q (V 14 0 22) m) := x
    have r2 : Yf (d + 30) 249 [xr 14 0] (ovc V Y) = oDone (d + 24) (ovc V Y) (cnt (unsB V) N) q := r'
    rw [← hm, x'] at r2
    exact AG.mk y r2 hFin h1
