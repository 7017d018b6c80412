/-! route, first: the class's walk through rooms -/
abbrev goP (V : XM) (c : Int) (e : Nat) : Prop := 0 < (V 95 0 e) ∧ (V 96 0 e) ≠ -9 ∧ (c ≠ 0 ∨ (V 95 0 e) ≠ 3 ∨ (V 77 0 ((V 98 0 e).toNat)) ≠ 0)
def rmE (V : XM) (B : Nat → Int) (N : Nat) (c : Int) (u k : Nat) : Option Nat := if u < N ∧ B u = 1 ∧ goP V c (8 * u + k) then some ((V 96 0 (8 * u + k))).toNat else none
theorem rmE_s {V : XM} {B : Nat → Int} {N : Nat} {c : Int} {u k v : Nat} (h : rmE V B N c u k = some v) : v = ((V 96 0 (8 * u + k))).toNat ∧ u < N ∧ B u = 1 ∧ goP V c (8 * u + k) := by
  unfold rmE at h
  split at h
  · rename_i k
    exact ⟨by simpa using h.symm, k⟩
  · cases h
/-- where exits lead, in the reference's rows -/
def MP (V : XM) (B : Nat → Int) (N : Nat) : Prop := ∀ u k : Nat, u < N → k < 8 → (0 < (V 95 0 (8 * u + k)) ∧ (V 96 0 (8 * u + k)) ≠ -9 → 0 ≤ (V 96 0 (8 * u + k)) ∧ (V 96 0 (8 * u + k)) < N ∧ B ((V 96 0 (8 * u + k))).toNat = 1) ∧ ((V 95 0 (8 * u + k)) = 3 → 0 ≤ (V 98 0 (8 * u + k)) ∧ (V 98 0 (8 * u + k)) < 64)
theorem Inv.mp {V : XM} (h : Inv V) : MP V (V 21 0) (V 14 0 9).toNat := by
  obtain ⟨⟨ck1, ck2, ck3, cp1, cp2, cp3, ct1, ct2, ct3, cs1, cs2, cs3, cq1, cq2, cq3, cr1, cr2, cr3, cf1, cf2, cf3, cb1, cb2, cb3, cw1, cw2, cw3, clf, clc⟩, hkin, hpro, husu, hgiv, hthg, hhom, hput, hrin, hsen, hbar, hset, hmos, hpai, hrel, hmap, hdoo, hshe, htab, hwor⟩ := h
  intro u k hu hk
  obtain ⟨_, m⟩ := hmap ((8 * u + k : Nat) : Int) (by omega) (by omega)
  obtain ⟨m1, m2, m3, m4, m5, m6, m7, m8, m9, m10⟩ := m (by omega)
  rw [Int.toNat_natCast] at m5 m6 m7 m8 m9 m10
  refine ⟨fun z => ?_, fun z => ?_⟩
  · have : (V 95 0 (8 * u + k)) ≠ 4 := fun y => z.2 (m8 (.inr y))
    have := m9 (by omega)
    exact ⟨this.1, by omega, this.2.2⟩
  · have := m10 z
    omega
theorem rm_ge {V : XM} {B : Nat → Int} {N a : Nat} (c : Int) (m : MP V B N) (ha : a < N ∧ B a = 1) : GE (fun v => v < N ∧ B v = 1) (rmE V B N c) 8 N a := by
  refine ⟨fun v h => h.1, fun u k v _ hk he => ?_, ha⟩
  obtain ⟨k1, k2, k3, k4⟩ := rmE_s he
  have := (m u k k2 hk).1 ⟨k4.1, k4.2.1⟩
  rw [k1]
  exact ⟨by omega, this.2.2⟩
theorem y_pass (d : Nat) (V : XM) (h : Inv V) {u k : Nat} (c : Int) (hu : (u : Int) < (V 14 0 9)) (hk : k < 8) : Yf (d + 2) 60 [xr 11 0, xi (u : Int), xi (k : Int), xi c] V = some (xi (b2 (goP V c (8 * u + k))), V) ∧ (V 58 0 (8 * u + k)) = (V 96 0 (8 * u + k)) := by
  obtain ⟨⟨ck1, ck2, ck3, cp1, cp2, cp3, ct1, ct2, ct3, cs1, cs2, cs3, cq1, cq2, cq3, cr1, cr2, cr3, cf1, cf2, cf3, cb1, cb2, cb3, cw1, cw2, cw3, clf, clc⟩, hkin, hpro, husu, hgiv, hthg, hhom, hput, hrin, hsen, hbar, hset, hmos, hpai, hrel, hmap, hdoo, hshe, htab, hwor⟩ := h
  obtain ⟨_, m⟩ := hmap ((8 * u + k : Nat) : Int) (by omega) (by omega)
  obtain ⟨m1, m2, m3, m4, m5, m6, m7, m8, m9, m10⟩ := m (by omega)
  rw [Int.toNat_natCast] at m1 m2 m4 m5 m6 m8 m9 m10
  have ei : Unit → w32 (w32 ((u : Int) * 8) + (k : Int)) = 8 * (u : Int) + (k : Int) := fun _ => by rw [w32_add, w32_i (by omega) (by omega)]; omega
  have en : (8 * (u : Int) + (k : Int)).toNat = 8 * u + k := by omega
  have ho : (V 95 0 (8 * u + k)) = 3 → (V 25 0 ((V 98 0 (8 * u + k)).toNat)) = (V 77 0 ((V 98 0 (8 * u + k)).toNat)) := fun z => by
    have := m10 z
    exact (hthg (V 98 0 (8 * u + k)) this.1 this.2).2.2.2.2.2.2.2.2.2.2.2.2.2.1
  clear hkin hpro husu hgiv hthg hhom hput hrin hsen hbar hset hmos hpai hrel hmap hdoo hshe htab hwor ck1 ck2 ck3 cp1 cp2 cp3 cq1 cq2 cq3 cr1 cr2 cr3 cf1 cf2 cf3 cb1 cb2 cb3 cw1 cw2 cw3 clf clc cs1 cs2 cs3 m m7 m1
  refine ⟨?_, m2⟩
  rw [s_X3_isPassable, ei (), if_pos (by omega), y_leadsTo _ V (by omega) (by omega), ci_r, en, m2, m4]
  unfold goP
  generalize (V 95 0 (8 * u + k)) = so at *
  generalize (V 96 0 (8 * u + k)) = to at *
  generalize (V 98 0 (8 * u + k)) = dr at *
  clear m2 m4
  by_cases c0 : to = -9
  · rw [if_pos (by omega), b2_0.mpr (fun z => z.2.1 c0)]
  · have s13 : 1 ≤ so ∧ so ≤ 3 := by
      have : so ≠ 0 := fun z => c0 (m8 (.inl z))
      have : so ≠ 4 := fun z => c0 (m8 (.inr z))
      omega
    have t0 := (m9 s13).1
    clear m8 m9
    rw [if_neg (by omega)]
    by_cases cc : c = 0
    · rw [if_pos cc]
      by_cases c3 : so = 3
      · have hd := m10 c3
        rw [if_pos c3, if_neg (by omega), if_pos (by omega), ho c3]
        by_cases c4 : (V 77 0 (dr.toNat)) = 0
        · rw [if_pos c4, b2_0.mpr (fun z => by
            rcases z.2.2 with z | z | z
            · exact z cc
            · exact z c3
            · exact z c4)]
        · rw [if_neg c4, b2_1.mpr ⟨by omega, c0, .inr (.inr c4)⟩]
      · rw [if_neg c3, if_pos (by omega), b2_1.mpr ⟨by omega, c0, .inr (.inl c3)⟩]
    · rw [if_neg cc, b2_1.mpr ⟨by omega, c0, .inl cc⟩]
theorem x_mw41 (d : Nat) (V : XM) (h : Inv V) {c : Int} {N a i u : Nat} (hN : N = (V 14 0 9).toNat) (g : GE (fun v => v < N ∧ (V 21 0 v) = 1) (rmE V (V 21 0) N c) 8 N a) : ∀ (m j n : Nat) (F H L : Nat → Int), 8 - j ≤ m → BI (fun v => v < N ∧ (V 21 0 v) = 1) (rmE V (V 21 0) N c) 8 N a F H L n i j → i < n → L i = (u : Int) → ∃ (F' H' L' : Nat → Int) (n' : Nat), BI (fun v => v < N ∧ (V 21 0 v) = 1) (rmE V (V 21 0) N c) 8 N a F' H' L' n' (i + 1) 0 ∧ Xf (d + 2) 61 41 [xr 11 0, xr 0 0, xi c, xi (i : Int), xi (u : Int), xi (j : Int)] [] (wS V F H L (n : Int)) = Xf (d + 2) 61 10 [xr 11 0, xr 0 0, xi c, xi ((i + 1 : Nat) : Int), xr 0 0, xr 0 0] [] (wS V F' H' L' (n' : Int)) := by
  have t1 : 0 ≤ (V 14 0 9) := h.1.2.2.2.2.2.2.1
  have t2 : (V 14 0 9) ≤ 64 := h.1.2.2.2.2.2.2.2.1
  have hm := h.mp
  rw [← hN] at hm
  have last : ∀ (j n : Nat) (F H L : Nat → Int), j = 8 → BI (fun v => v < N ∧ (V 21 0 v) = 1) (rmE V (V 21 0) N c) 8 N a F H L n i j → i < n → ∃ (F' H' L' : Nat → Int) (n' : Nat), BI (fun v => v < N ∧ (V 21 0 v) = 1) (rmE V (V 21 0) N c) 8 N a F' H' L' n' (i + 1) 0 ∧ Xf (d + 2) 61 41 [xr 11 0, xr 0 0, xi c, xi (i : Int), xi (u : Int), xi (j : Int)] [] (wS V F H L (n : Int)) = Xf (d + 2) 61 10 [xr 11 0, xr 0 0, xi c, xi ((i + 1 : Nat) : Int), xr 0 0, xr 0 0] [] (wS V F' H' L' (n' : Int)) := by
    intro j n F H L hj b hi
    subst hj
    have hle := b.le
    have ew : Unit → w32 ((i : Int) + 1) = ((i + 1 : Nat) : Int) := fun _ => by rw [w32_i (by omega) (by omega)]; omega
    exact ⟨F, H, L, n, b.next hi, by rw [s_X3_walkFrom_41, if_neg (by omega), ew ()]⟩
  intro m
  induction m with
  | zero =>
    intro j n F H L hm b hi _
    exact last j n F H L (by have := b.1.2.2; omega) b hi
  | succ m ih =>
    intro j n F H L hj8 b hi hu
    by_cases hl : j < 8
    · obtain ⟨uR, uN, f0, f1⟩ := b.at g hi hu
      have hle := b.le
      have ew : Unit → w32 ((j : Int) + 1) = ((j + 1 : Nat) : Int) := fun _ => by rw [w32_i (by omega) (by omega)]; omega
      have eLi : (L i).toNat = u := by omega
      have hskip := fun hs => ih (j + 1) n F H L (by omega) (b.skip g hi hl hs) hi hu
      rw [eLi] at hskip
      have uT : (u : Int) < (V 14 0 9) := by omega
      obtain ⟨p1, p2⟩ := y_pass d (wS V F H L (n : Int)) (h.ws F H L n) (u := u) (k := j) c uT hl
      have p1' : Yf (d + 2) 60 [xr 11 0, xi (u : Int), xi (j : Int), xi c] (wS V F H L (n : Int)) = some (xi (b2 (goP V c (8 * u + j))), wS V F H L (n : Int)) := p1
      have p2' : (V 58 0 (8 * u + j)) = (V 96 0 (8 * u + j)) := p2
      have en : (8 * (u : Int) + (j : Int)).toNat = 8 * u + j := by omega
      have e58 : (wS V F H L (n : Int)) 58 0 (8 * u + j) = (V 58 0 (8 * u + j)) := rfl
      rw [s_X3_walkFrom_41, if_pos (by omega), p1', ci_r, ite_b2, ew ()]
      by_cases c1 : goP V c (8 * u + j)
      · have hto := (hm u j uN hl).1 ⟨c1.1, c1.2.1⟩
        obtain ⟨v, hv⟩ : ∃ v : Nat, (V 96 0 (8 * u + j)) = (v : Int) := ⟨(V 96 0 (8 * u + j)).toNat, by omega⟩
        have vN : v < N := by omega
        have he : rmE V (V 21 0) N c (L i).toNat j = some v := by
          rw [eLi]; unfold rmE; rw [if_pos ⟨uN, uR.2, c1⟩, hv, Int.toNat_natCast]
        rw [if_pos c1, y_leadsTo _ _ (by omega) (by omega), ci_r, en, e58, p2', hv, y_wstep _ V F H L u v n _ (by omega) (by omega) (fun z => by have := b.room vN z; omega) (by omega), cv_r]
        by_cases c2 : F v = -9
        · rw [if_pos c2]
          have b' := b.step g hi hl he c2
          rw [eLi] at b'
          exact ih (j + 1) (n + 1) _ _ _ (by omega) b' (by omega) (by rw [zup_ne (by omega)]; exact hu)
        · rw [if_neg c2]
          exact hskip (fun w hw => by rw [eLi, hw] at he; have : w = v := by simpa using he
                                      rw [this]; exact c2)
      · rw [if_neg c1]
        exact hskip (fun w hw => absurd (rmE_s hw).2.2.2 c1)
    · exact last j n F H L (by have := b.1.2.2; omega) b hi
theorem x_mw10 (d : Nat) (V : XM) (h : Inv V) {c : Int} {N a : Nat} (hN : N = (V 14 0 9).toNat) (g : GE (fun v => v < N ∧ (V 21 0 v) = 1) (rmE V (V 21 0) N c) 8 N a) : ∀ (m i n : Nat) (F H L : Nat → Int), N - i ≤ m → BI (fun v => v < N ∧ (V 21 0 v) = 1) (rmE V (V 21 0) N c) 8 N a F H L n i 0 → ∃ (F' H' L' : Nat → Int) (n' : Nat), BI (fun v => v < N ∧ (V 21 0 v) = 1) (rmE V (V 21 0) N c) 8 N a F' H' L' n' n' 0 ∧ Xf (d + 2) 61 10 [xr 11 0, xr 0 0, xi c, xi (i : Int), xr 0 0, xr 0 0] [] (wS V F H L (n : Int)) = some (xr 9 0, wS V F' H' L' (n' : Int)) := by
  have t2 : (V 14 0 9) ≤ 64 := h.1.2.2.2.2.2.2.2.1
  intro m
  induction m with
  | zero =>
    intro i n F H L hm b
    have := b.le
    have hin : i = n := by have := b.1.2.1; omega
    subst hin
    exact ⟨F, H, L, i, b, by rw [s_X3_walkFrom_10, wS_9, if_neg (c := (i : Int) < (i : Int)) (by omega), ite_self]⟩
  | succ m ih =>
    intro i n F H L hm b
    have hle := b.le
    by_cases hi : i < n
    · have x1 := (b.2.1 i hi).1
      obtain ⟨u, hu⟩ : ∃ u : Nat, L i = (u : Int) := ⟨(L i).toNat, by omega⟩
      obtain ⟨F1, H1, L1, n1, b1, q1⟩ := x_mw41 d V h (c := c) (u := u) hN g 8 0 n F H L (by omega) b hi hu
      obtain ⟨F2, H2, L2, n2, b2, q2⟩ := ih (i + 1) n1 F1 H1 L1 (by omega) b1
      refine ⟨F2, H2, L2, n2, b2, ?_⟩
      rw [s_X3_walkFrom_10, wS_9, if_pos (by omega), if_pos (by omega), if_pos (by omega), wS_53, Int.toNat_natCast, hu, ← q2, ← q1]
      rfl
    · have hin : i = n := by have := b.1.2.1; omega
      subst hin
      exact ⟨F, H, L, i, b, by rw [s_X3_walkFrom_10, wS_9, if_neg (c := (i : Int) < (i : Int)) (by omega), ite_self]⟩
theorem y_mwalk (d : Nat) (V : XM) (h : Inv V) {c : Int} {a : Nat} (ha : a < (V 14 0 9).toNat ∧ (V 21 0 a) = 1) : ∃ (F H L : Nat → Int) (n : Nat), BI (fun v => v < (V 14 0 9).toNat ∧ (V 21 0 v) = 1) (rmE V (V 21 0) (V 14 0 9).toNat c) 8 (V 14 0 9).toNat a F H L n n 0 ∧ Yf (d + 3) 61 [xr 11 0, xi (a : Int), xi c] V = some (xr 9 0, wS V F H L (n : Int)) := by
  have t2 : (V 14 0 9) ≤ 64 := h.1.2.2.2.2.2.2.2.1
  have g := rm_ge c h.mp ha
  have b := BI.init (F := zup (fil (V 51 0) 0 64 (-9)) a 0) (H := fil (V 52 0) 0 64 (-9)) (L := zup (V 53 0) 0 (a : Int)) g (zup_eq _ _ _) (fun v hv hva => by rw [zup_ne hva]; unfold fil; rw [if_pos (by omega)]) (fun v hv => by unfold fil; rw [if_pos (by omega)]) (zup_eq _ _ _)
  obtain ⟨F, H, L, n, b', q⟩ := x_mw10 d V h rfl g (V 14 0 9).toNat 0 1 _ _ _ (by omega) b
  refine ⟨F, H, L, n, b', ?_⟩
  rw [s_X3_walkFrom, y_wb _ V (by omega), cv_r, Int.toNat_natCast, ← q]
  rfl
