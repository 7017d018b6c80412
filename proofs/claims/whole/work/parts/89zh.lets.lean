/-! settle: the class's places while it looks for a way -/
def zS (Z : XM) (G H P I : Nat → Int) : XM := fun a b c => if a = 37 ∧ b = 0 then G c else if a = 38 ∧ b = 0 then H c else if a = 39 ∧ b = 0 then P c else if a = 43 ∧ b = 0 then I c else Z a b c
theorem zS_37 (Z : XM) (G H P I : Nat → Int) (j : Nat) : (zS Z G H P I) 37 0 j = G j := rfl
theorem zS_38 (Z : XM) (G H P I : Nat → Int) (j : Nat) : (zS Z G H P I) 38 0 j = H j := rfl
theorem zS_43 (Z : XM) (G H P I : Nat → Int) (j : Nat) : (zS Z G H P I) 43 0 j = I j := rfl
theorem zS_u37 (Z : XM) (G H P I : Nat → Int) (j : Nat) (x : Int) : xu (zS Z G H P I) 37 0 j x = zS Z (zup G j x) H P I := by
  funext a b c; unfold xu zS zup
  (repeat' split) <;> first | rfl | (exfalso; omega)
theorem zS_u38 (Z : XM) (G H P I : Nat → Int) (j : Nat) (x : Int) : xu (zS Z G H P I) 38 0 j x = zS Z G (zup H j x) P I := by
  funext a b c; unfold xu zS zup
  (repeat' split) <;> first | rfl | (exfalso; omega)
theorem zS_u39 (Z : XM) (G H P I : Nat → Int) (j : Nat) (x : Int) : xu (zS Z G H P I) 39 0 j x = zS Z G H (zup P j x) I := by
  funext a b c; unfold xu zS zup
  (repeat' split) <;> first | rfl | (exfalso; omega)
theorem zS_u43 (Z : XM) (G H P I : Nat → Int) (j : Nat) (x : Int) : xu (zS Z G H P I) 43 0 j x = zS Z G H P (zup I j x) := by
  funext a b c; unfold xu zS zup
  (repeat' split) <;> first | rfl | (exfalso; omega)
theorem zS_self (Z : XM) : zS Z (Z 37 0) (Z 38 0) (Z 39 0) (Z 43 0) = Z := by
  funext a b c; unfold zS
  by_cases h1 : a = 37 ∧ b = 0
  · rw [if_pos h1, h1.1, h1.2]
  · rw [if_neg h1]
    by_cases h2 : a = 38 ∧ b = 0
    · rw [if_pos h2, h2.1, h2.2]
    · rw [if_neg h2]
      by_cases h3 : a = 39 ∧ b = 0
      · rw [if_pos h3, h3.1, h3.2]
      · rw [if_neg h3]
        by_cases h4 : a = 43 ∧ b = 0
        · rw [if_pos h4, h4.1, h4.2]
        · rw [if_neg h4]
def bp (Z : XM) (k : Nat) : Int := if (Z 21 0 k) = 3 then -9 else if (Z 80 0 k) = 0 then -9 else (Z 78 0 (6 * k))
def hcF (Z : XM) (N : Nat) (p : Nat → Int) (k : Nat) : Int := if k < N ∧ unsB Z k = true ∧ p k ≠ -9 then 1 else Z 38 0 k
def inF (Z : XM) (N : Nat) (p : Nat → Int) (w : Nat) : Int := Z 43 0 w + cnt (fun k => decide (unsB Z k = true ∧ p k = (w : Int))) N
/-- the homes are those of a beginning -/
def hmG (Z : XM) (N : Nat) (p G : Nat → Int) : Prop := (∀ k, k < N → unsB Z k = true → p k ≠ -9 → G (6 * k) = p k) ∧ (∀ c, (∀ k, k < N → unsB Z k = true → c ≠ 6 * k) → G c = Z 37 0 c)
def gq (Z : XM) (N : Nat) (p : Nat → Int) (t : Nat) : Prop := gd Z (Z 21 0) N (unsB Z) p t ∧ (∀ k, k < N → unsB Z k = false → p k = bp Z k) ∧ (∀ k, k < N → p k ≠ -9 → (Z 21 0 ((p k).toNat)) ≠ 3)
theorem uns_h {Z : XM} {k : Nat} (h : unsB Z k = true) : (Z 81 0 k) ≠ 0 ∧ (Z 80 0 k) = 0 := by
  unfold unsB at h
  simpa using h
theorem cm_home {Z : XM} (h : Inv Z) {N : Nat} (hN : (Z 14 0 9) = (N : Int)) {p G : Nat → Int} (hb : ∀ k, k < N → unsB Z k = false → p k = bp Z k) (hG : hmG Z N p G) {k : Nat} (hk : k < N) (hB : (Z 21 0 k) ≠ 3) : 0 ≤ hcF Z N p k ∧ hcF Z N p k ≤ 1 ∧ (0 < hcF Z N p k ↔ p k ≠ -9) ∧ (p k ≠ -9 → G (6 * k) = p k) := by
  obtain ⟨⟨ck1, ck2, ck3, cp1, cp2, cp3, ct1, ct2, ct3, cs1, cs2, cs3, cq1, cq2, cq3, cr1, cr2, cr3, cf1, cf2, cf3, cb1, cb2, cb3, cw1, cw2, cw3, clf, clc⟩, hkin, hpro, husu, hgiv, hthg, hhom, hput, hrin, hsen, hbar, hset, hmos, hpai, hrel, hmap, hdoo, hshe, htab, hwor⟩ := h
  obtain ⟨o1, o2, o3, o4, o5, o6⟩ := hhom (k : Int) (by omega) (by omega)
  rw [Int.toNat_natCast] at o1 o2 o3 o4 o5
  have o4 := o4 hB
  cases hu : unsB Z k with
  | true =>
    have hh := (uns_h hu).2
    unfold hcF
    by_cases c : p k = -9
    · rw [if_neg (fun z => z.2.2 c), o1, hh]
      exact ⟨by omega, by omega, ⟨fun z => by omega, fun z => absurd c z⟩, fun z => absurd c z⟩
    · rw [if_pos ⟨hk, hu, c⟩]
      exact ⟨by omega, by omega, ⟨fun _ => c, fun _ => by omega⟩, fun z => hG.1 k hk hu z⟩
  | false =>
    have e := hb k hk hu
    unfold hcF
    rw [if_neg (fun z => by rw [hu] at z; cases z.2.1), o1]
    unfold bp at e
    rw [if_neg hB] at e
    by_cases c : (Z 80 0 k) = 0
    · rw [if_pos c] at e
      exact ⟨o2, by omega, ⟨fun z => by omega, fun z => absurd e z⟩, fun z => absurd e z⟩
    · rw [if_neg c] at e
      obtain ⟨q1, q2, q3, q4, _⟩ := o6 0 (by omega) (by rw [Int.toNat_natCast]; omega)
      have ei : (6 * (k : Int) + 0).toNat = 6 * k := by omega
      rw [ei] at q1 q2 q3
      refine ⟨o2, by omega, ⟨fun _ => by omega, fun _ => by omega⟩, fun _ => ?_⟩
      rw [hG.2 (6 * k) (fun x hx hux e6 => by
        have : x = k := by omega
        subst this
        rw [hu] at hux; cases hux), q1, e]
theorem y_whome (d : Nat) {Z : XM} (h : Inv Z) {N : Nat} (hN : (Z 14 0 9) = (N : Int)) {p G P I : Nat → Int} (hb : ∀ k, k < N → unsB Z k = false → p k = bp Z k) (hG : hmG Z N p G) {k : Nat} (hk : k < N) (hB : (Z 21 0 k) ≠ 3) : Yf (d + 2) 8 [xr 7 0, xi (k : Int), xi 0] (zS Z G (hcF Z N p) P I) = some (xi (p k), zS Z G (hcF Z N p) P I) := by
  have t2 : (Z 14 0 9) ≤ 64 := h.1.2.2.2.2.2.2.2.1
  obtain ⟨c1, c2, c3, c4⟩ := cm_home h hN hb hG hk hB
  have e38 : (zS Z G (hcF Z N p) P I) 38 0 ((k : Int).toNat) = hcF Z N p k := by rw [Int.toNat_natCast]; rfl
  have e37 : (zS Z G (hcF Z N p) P I) 37 0 ((6 * (k : Int) + 0).toNat) = G (6 * k) := by rw [show (6 * (k : Int) + 0).toNat = 6 * k by omega]; rfl
  rw [y_homeAt d _ 0 (by omega) (by omega) (by rw [e38]; omega), e38, e37]
  by_cases c : p k = -9
  · have : ¬ 0 < hcF Z N p k := fun z => c3.mp z c
    rw [if_neg (by omega), c]
  · have := c3.mpr c
    rw [if_pos (by omega), c4 c]
theorem x_wWi (d : Nat) {Z : XM} (h : Inv Z) {N : Nat} (hN : (Z 14 0 9) = (N : Int)) {p G P I : Nat → Int} (t : Int) (hb : ∀ k, k < N → unsB Z k = false → p k = bp Z k) (hG : hmG Z N p G) (hv : vp N p) (h3 : ∀ k, k < N → p k ≠ -9 → (Z 21 0 ((p k).toNat)) ≠ 3) : ∀ (n s x : Nat), s + n = 64 → x < N → (Z 21 0 x) ≠ 3 → Xf (d + 2) 12 5 [xr 7 0, xr 0 0, xi t, xi (x : Int), xi (s : Int)] [] (zS Z G (hcF Z N p) P I) = some (xi (b2 (wi p t n (x : Int) = true)), zS Z G (hcF Z N p) P I) := by
  intro n
  induction n with
  | zero =>
    intro s x hs hx hB
    rw [s_X1_isWithin_5, if_neg (by omega), if_neg (by omega)]
    rfl
  | succ n ih =>
    intro s x hs hx hB
    have es : wi p t (n + 1) (x : Int) = if (x : Int) = t then true else if p (x : Int).toNat = -9 then false else wi p t n (p (x : Int).toNat) := rfl
    have ws : Unit → w32 ((s : Int) + 1) = ((s + 1 : Nat) : Int) := fun _ => by rw [w32_i (by omega) (by omega)]; omega
    rw [s_X1_isWithin_5, if_neg (by omega), if_pos (by omega), es, Int.toNat_natCast]
    by_cases c1 : (x : Int) = t
    · rw [if_pos c1, if_pos c1]; rfl
    · rw [if_neg c1, if_neg c1, y_whome d h hN hb hG hx hB, ci_r]
      by_cases c2 : p x = -9
      · rw [if_pos c2, c2, s_X1_isWithin_5, if_pos (by omega)]; rfl
      · have v := (hv x hx).resolve_left c2
        obtain ⟨y, hy⟩ : ∃ y : Nat, p x = (y : Int) := ⟨(p x).toNat, by omega⟩
        have hB' := h3 x hx c2
        rw [hy, Int.toNat_natCast] at hB'
        rw [if_neg c2, ws (), hy]
        exact ih (s + 1) y (by omega) (by omega) hB'
theorem cnt_sum {f g k : Nat → Bool} : ∀ {n : Nat}, (∀ i, i < n → (f i = true ↔ (g i = true ∨ k i = true)) ∧ ¬ (g i = true ∧ k i = true)) → cnt f n = cnt g n + cnt k n := by
  intro n
  induction n with
  | zero => intro _; rfl
  | succ n ih =>
    intro h
    have h1 := ih (fun i hi => h i (by omega))
    obtain ⟨h2, h3⟩ := h n (by omega)
    show cnt f n + (if f n = true then 1 else 0) = (cnt g n + (if g n = true then 1 else 0)) + (cnt k n + (if k n = true then 1 else 0))
    by_cases a : g n = true
    · have : ¬ k n = true := fun z => h3 ⟨a, z⟩
      rw [if_pos (h2.mpr (.inl a)), if_pos a, if_neg this]; omega
    · by_cases b : k n = true
      · rw [if_pos (h2.mpr (.inr b)), if_neg a, if_pos b]; omega
      · rw [if_neg (fun z => by rcases h2.mp z with z | z; exact a z; exact b z), if_neg a, if_neg b]; omega
theorem inF_C {Z : XM} (h : Inv Z) {N : Nat} (hN : (Z 14 0 9) = (N : Int)) {p : Nat → Int} (hb : ∀ k, k < N → unsB Z k = false → p k = bp Z k) {w : Nat} (hw : w < N) : inF Z N p w = inC (Z 21 0) p N (w : Int) := by
  have h' := h
  obtain ⟨⟨ck1, ck2, ck3, cp1, cp2, cp3, ct1, ct2, ct3, cs1, cs2, cs3, cq1, cq2, cq3, cr1, cr2, cr3, cf1, cf2, cf3, cb1, cb2, cb3, cw1, cw2, cw3, clf, clc⟩, hkin, hpro, husu, hgiv, hthg, hhom, hput, hrin, hsen, hbar, hset, hmos, hpai, hrel, hmap, hdoo, hshe, htab, hwor⟩ := h'
  obtain ⟨m1, m2, m3, m4⟩ := hmos (w : Int) (by omega) (by omega)
  rw [Int.toNat_natCast] at m1
  have eN : (Z 14 0 9).toNat = N := by omega
  rw [eN] at m1
  unfold inF inC
  rw [m1]
  refine (cnt_sum (fun k hk => ?_)).symm
  simp only [decide_eq_true_eq]
  obtain ⟨s1, s2, s3, s4, s5⟩ := hset (k : Int) (by omega) (by omega)
  rw [Int.toNat_natCast] at s1 s2 s3 s4
  cases hu : unsB Z k with
  | true =>
    obtain ⟨u1, u2⟩ := uns_h hu
    have hB : (Z 21 0 k) ≠ 3 := by
      rcases s3 with s3 | s3
      · exact absurd s3.1 u1
      · rcases s3.2.2.2.2.2 with z | z | z <;> omega
    refine ⟨⟨fun z => .inr ⟨rfl, z.2⟩, fun z => ?_⟩, fun z => by have := z.1.2.1; omega⟩
    rcases z with z | z
    · have := z.2.1; omega
    · exact ⟨hB, z.2⟩
  | false =>
    have e := hb k hk hu
    obtain ⟨o1, o2, _⟩ := hhom (k : Int) (by omega) (by omega)
    rw [Int.toNat_natCast] at o2
    refine ⟨⟨fun z => .inl ?_, fun z => ?_⟩, fun z => by cases z.2.1⟩
    · obtain ⟨z1, z2⟩ := z
      rw [e] at z2
      unfold bp at z2
      rw [if_neg z1] at z2
      by_cases c : (Z 80 0 k) = 0
      · rw [if_pos c] at z2; omega
      · rw [if_neg c] at z2
        exact ⟨z1, by omega, z2⟩
    · rcases z with ⟨z1, z2, z3⟩ | z
      · refine ⟨z1, ?_⟩
        rw [e]
        unfold bp
        rw [if_neg z1, if_neg (by omega)]
        exact z3
      · cases z.1
