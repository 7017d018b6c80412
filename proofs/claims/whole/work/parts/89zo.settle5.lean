/-! settle: the memory in the end -/
def inR (g : Nat) : Prop := g = 85 ∨ g = 86 ∨ g = 87 ∨ g = 88 ∨ g = 14 ∨ g = 78 ∨ g = 79 ∨ g = 80
def inT (g : Nat) : Prop := g = 33 ∨ g = 34 ∨ g = 35 ∨ g = 36 ∨ g = 6
def inP (g : Nat) : Prop := g = 37 ∨ g = 38 ∨ g = 39 ∨ g = 43
theorem xu_cg {X Y : XM} {g : Nat} (h : X g = Y g) (g0 i j : Nat) (x : Int) : (xu X g0 i j x) g = (xu Y g0 i j x) g := by
  funext b c
  unfold xu
  rw [h]
theorem rLay_ne (X : XM) (t w n : Int) {g : Nat} (h : ¬ inR g) : (rLay X t w n) g = X g := by
  unfold inR at h
  unfold rLay rTell
  rw [xu_ne (by omega), xu_ne (by omega), xu_ne (by omega), xu_ne (by omega), xu_ne (by omega), xu_ne (by omega), xu_ne (by omega), xu_ne (by omega)]
theorem rLay_cg {X Y : XM} (h : ∀ g, inR g → X g = Y g) (t w n : Int) : ∀ g, inR g → (rLay X t w n) g = (rLay Y t w n) g := by
  intro g hg
  have h80 : X 80 = Y 80 := h 80 (by unfold inR; omega)
  unfold rLay
  have e : ∀ Z : XM, (rTell Z n 0 t w 0) = rTell Z n 0 t w 0 := fun _ => rfl
  rw [h80]
  refine xu_cg (xu_cg (xu_cg ?_ _ _ _ _) _ _ _ _) _ _ _ _
  unfold rTell
  exact xu_cg (xu_cg (xu_cg (xu_cg (xu_cg (h g hg) _ _ _ _) _ _ _ _) _ _ _ _) _ _ _ _) _ _ _ _
theorem cTell_cg {X Y : XM} {g : Nat} (h : X g = Y g) (n s a b c : Int) : (cTell X n s a b c) g = (cTell Y n s a b c) g := by
  unfold cTell
  exact xu_cg (xu_cg (xu_cg (xu_cg (xu_cg h _ _ _ _) _ _ _ _) _ _ _ _) _ _ _ _) _ _ _ _
/-- the reference's sentences of a way -/
def rT (Y : XM) (un : Nat → Nat) (q : Nat → Int) (n0 : Int) : Nat → XM
  | 0 => Y
  | j + 1 => rLay (rT Y un q n0 j) (un j : Int) (q (un j)) (n0 + j)
theorem rT_ne (Y : XM) (un : Nat → Nat) (q : Nat → Int) (n0 : Int) {g : Nat} (h : ¬ inR g) : ∀ j, (rT Y un q n0 j) g = Y g := by
  intro j
  induction j with
  | zero => rfl
  | succ j ih =>
    show (rLay (rT Y un q n0 j) (un j : Int) (q (un j)) (n0 + j)) g = Y g
    rw [rLay_ne _ _ _ _ h, ih]
theorem pv_n (V : XM) (un : Nat → Nat) (q : Nat → Int) (n0 : Int) (j g : Nat) : (¬ inR g → ¬ inP g → (pv V un q n0 (j + 1)) g = (cTell (pv V un q n0 j) (n0 + j) 0 (un j : Int) (q (un j)) (-9)) g) := by
  intro h1 h2
  unfold inP at h2
  show (rLay (xu (cLay (cTell (pv V un q n0 j) (n0 + j) 0 (un j : Int) (q (un j)) (-9)) (un j : Int) (q (un j)) (n0 + j)) 43 0 (q (un j)).toNat ((pv V un q n0 j) 43 0 (q (un j)).toNat + 1)) (un j : Int) (q (un j)) (n0 + j)) g = _
  rw [rLay_ne _ _ _ _ h1, xu_ne (by omega)]
  unfold cLay
  rw [xu_ne (by omega), xu_ne (by omega), xu_ne (by omega)]
theorem pv_T {V W : XM} {un : Nat → Nat} {q : Nat → Int} {n0 : Int} {g : Nat} (hg : inT g) (h : W g = V g) : ∀ j, (cT W un q n0 j) g = (pv V un q n0 j) g := by
  intro j
  induction j with
  | zero => exact h
  | succ j ih =>
    rw [pv_n V un q n0 j g (by unfold inT at hg; unfold inR; omega) (by unfold inT at hg; unfold inP; omega)]
    exact cTell_cg ih _ _ _ _ _
theorem pv_O {V : XM} {un : Nat → Nat} {q : Nat → Int} {n0 : Int} {g : Nat} (h1 : ¬ inR g) (h2 : ¬ inT g) (h3 : ¬ inP g) : ∀ j, (pv V un q n0 j) g = V g := by
  intro j
  induction j with
  | zero => rfl
  | succ j ih =>
    rw [pv_n V un q n0 j g h1 h3, cTell_ne _ _ _ _ _ _ (by unfold inT at h2; omega), ih]
theorem pv_R {V Y : XM} {un : Nat → Nat} {q : Nat → Int} {n0 : Int} (h : ∀ g, inR g → Y g = V g) : ∀ j g, inR g → (rT Y un q n0 j) g = (pv V un q n0 j) g := by
  intro j
  induction j with
  | zero => exact h
  | succ j ih =>
    intro g hg
    refine rLay_cg (fun g' hg' => ?_) _ _ _ g hg
    rw [ih g' hg']
    have h43 : g' ≠ 43 ∧ g' ≠ 37 ∧ g' ≠ 38 ∧ g' ≠ 39 ∧ (g' ≠ 33 ∧ g' ≠ 34 ∧ g' ≠ 35 ∧ g' ≠ 36 ∧ g' ≠ 6) := by unfold inR at hg'; omega
    rw [xu_ne h43.1]
    unfold cLay
    rw [xu_ne h43.2.2.2.1, xu_ne h43.2.2.1, xu_ne h43.2.1, cTell_ne _ _ _ _ _ _ h43.2.2.2.2]
theorem pv_P {V : XM} (hI : Inv V) {N m : Nat} {un : Nat → Nat} {q : Nat → Int} {n0 : Int} {p : Nat → Int} (hN : (V 14 0 9) = (N : Int)) (hU : UE V N m un) (hp : ∀ k, k < N → unsB V k = true → p k = -9) (hq : ∀ i, i < m → ∃ w : Nat, q (un i) = (w : Int)) : ∀ j, j ≤ m → ∃ G P : Nat → Int, (∀ g, inP g → (pv V un q n0 j) g = (zS V G (hcF V N (cj p un q j)) P (inF V N (cj p un q j))) g) ∧ hmG V N (cj p un q j) G ∧ (∀ i, i < j → P (un i) = n0 + i) ∧ (∀ k, (∀ i, i < j → k ≠ un i) → P k = V 39 0 k) := by
  obtain ⟨U1, U2, U3⟩ := hU
  intro j
  induction j with
  | zero =>
    intro _
    refine ⟨V 37 0, V 39 0, fun g _ => ?_, ⟨fun k hk hu hpk => absurd (hp k hk hu) hpk, fun c _ => rfl⟩, fun i hi => by omega, fun k _ => rfl⟩
    have e1 : hcF V N p = V 38 0 := by
      funext k
      unfold hcF
      rw [if_neg (fun z => z.2.2 (hp k z.1 z.2.1))]
    have e2 : inF V N p = V 43 0 := by
      funext w
      unfold inF
      have : cnt (fun k => decide (unsB V k = true ∧ p k = (w : Int))) N = cnt (fun _ => false) N := cnt_congr (fun k hk => by
        rw [decide_eq_false_iff_not]
        intro z
        have := hp k hk z.1
        have := z.2
        omega)
      have h0 : ∀ n, cnt (fun _ => false) n = 0 := by
        intro n
        induction n with
        | zero => rfl
        | succ n ih => show cnt (fun _ => false) n + (if false = true then 1 else 0) = 0; rw [ih]; simp
      rw [this, h0]
      omega
    show V g = (zS V (V 37 0) (hcF V N p) (V 39 0) (inF V N p)) g
    rw [e1, e2, zS_self]
  | succ j ih =>
    intro hj
    obtain ⟨G, P, k1, k2, k3, k4⟩ := ih (by omega)
    obtain ⟨u1, u2⟩ := U1 j (by omega)
    obtain ⟨w, hw⟩ := hq j (by omega)
    have hcp : cj p un q j (un j) = -9 := by
      rw [(cj_un (p := p) (q := q) (m := m) U2 j (by omega)).2 (un j) (fun i hi => by have := U2 i j hi (by omega); omega)]
      exact hp _ u1 u2
    have h38 : V 38 0 (un j) = 0 := by
      obtain ⟨⟨ck1, ck2, ck3, cp1, cp2, cp3, ct1, ct2, ct3, cs1, cs2, cs3, cq1, cq2, cq3, cr1, cr2, cr3, cf1, cf2, cf3, cb1, cb2, cb3, cw1, cw2, cw3, clf, clc⟩, hkin, hpro, husu, hgiv, hthg, hhom, hput, hrin, hsen, hbar, hset, hmos, hpai, hrel, hmap, hdoo, hshe, htab, hwor⟩ := hI
      obtain ⟨o1, _⟩ := hhom (un j : Int) (by omega) (by omega)
      rw [Int.toNat_natCast] at o1
      rw [o1]
      exact (uns_h u2).2
    have hc0 : hcF V N (cj p un q j) (un j) = 0 := by
      unfold hcF
      rw [if_neg (fun z => z.2.2 hcp), h38]
    have a38 : (pv V un q n0 j) 38 0 (un j) = 0 := by
      rw [k1 38 (by unfold inP; omega)]
      exact hc0
    have a43 : (pv V un q n0 j) 43 0 w = inF V N (cj p un q j) w := by
      rw [k1 43 (by unfold inP; omega)]
      rfl
    have b38 : (cTell (pv V un q n0 j) (n0 + j) 0 (un j : Int) (q (un j)) (-9)) 38 0 ((un j : Int).toNat) = 0 := by
      rw [Int.toNat_natCast, cTell_ne _ _ _ _ _ _ (by decide)]
      exact a38
    refine ⟨zup G (6 * un j) (w : Int), zup P (un j) (n0 + j), fun g hg => ?_, ⟨fun k hk hu hpk => ?_, fun c hc => ?_⟩, fun i hi => ?_, fun k hk => ?_⟩
    · have ec : cj p un q (j + 1) = zup (cj p un q j) (un j) (w : Int) := by
        show zup (cj p un q j) (un j) (q (un j)) = _
        rw [hw]
      rw [ec, hcF_up u1 u2 (by omega), inF_up u1 u2 hcp]
      show (rLay (xu (cLay (cTell (pv V un q n0 j) (n0 + j) 0 (un j : Int) (q (un j)) (-9)) (un j : Int) (q (un j)) (n0 + j)) 43 0 (q (un j)).toNat ((pv V un q n0 j) 43 0 (q (un j)).toNat + 1)) (un j : Int) (q (un j)) (n0 + j)) g = _
      rw [rLay_ne _ _ _ _ (by unfold inP at hg; unfold inR; omega)]
      unfold cLay
      rw [b38, hw, Int.toNat_natCast, Int.toNat_natCast, a43, show (6 * (un j : Int) + 0).toNat = 6 * un j by omega]
      have hz := zS_u43 V (zup G (6 * un j) (w : Int)) (zup (hcF V N (cj p un q j)) (un j) 1) (zup P (un j) (n0 + j)) (inF V N (cj p un q j)) w (inF V N (cj p un q j) w + 1)
      rw [← hz, ← zS_u39, ← zS_u38, ← zS_u37]
      refine xu_cg (xu_cg (xu_cg (xu_cg ?_ _ _ _ _) _ _ _ _) _ _ _ _) _ _ _ _
      rw [cTell_ne _ _ _ _ _ _ (by unfold inP at hg; omega)]
      exact k1 g hg
    · show zup G (6 * un j) (w : Int) (6 * k) = zup (cj p un q j) (un j) (q (un j)) k
      have hpk : zup (cj p un q j) (un j) (q (un j)) k ≠ -9 := hpk
      by_cases c : k = un j
      · subst c; rw [zup_eq, zup_eq, hw]
      · rw [zup_ne c] at hpk ⊢
        rw [zup_ne (by omega)]
        exact k2.1 k hk hu hpk
    · rw [zup_ne (hc (un j) u1 u2)]
      exact k2.2 c hc
    · by_cases c : i = j
      · subst c; rw [zup_eq]
      · have := U2 i j (by omega) (by omega)
        rw [zup_ne (by omega)]
        exact k3 i (by omega)
    · rw [zup_ne (hk j (by omega))]
      exact k4 k (fun i hi => hk i (by omega))
