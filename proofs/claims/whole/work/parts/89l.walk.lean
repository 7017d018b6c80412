/-! the class's walk -/
def wS (V : XM) (F H L : Nat → Int) (n : Int) : XM := fun a b c => if a = 51 ∧ b = 0 then F c else if a = 52 ∧ b = 0 then H c else if a = 53 ∧ b = 0 then L c else if a = 9 ∧ b = 0 ∧ c = 3 then n else V a b c
theorem wS_self (V : XM) : wS V (V 51 0) (V 52 0) (V 53 0) (V 9 0 3) = V := by
  funext a b c; unfold wS
  by_cases h1 : a = 51 ∧ b = 0
  · rw [if_pos h1, h1.1, h1.2]
  · rw [if_neg h1]
    by_cases h2 : a = 52 ∧ b = 0
    · rw [if_pos h2, h2.1, h2.2]
    · rw [if_neg h2]
      by_cases h3 : a = 53 ∧ b = 0
      · rw [if_pos h3, h3.1, h3.2]
      · rw [if_neg h3]
        by_cases h4 : a = 9 ∧ b = 0 ∧ c = 3
        · rw [if_pos h4, h4.1, h4.2.1, h4.2.2]
        · rw [if_neg h4]
theorem wS_51 (V : XM) (F H L : Nat → Int) (n : Int) (j : Nat) : (wS V F H L n) 51 0 j = F j := rfl
theorem wS_52 (V : XM) (F H L : Nat → Int) (n : Int) (j : Nat) : (wS V F H L n) 52 0 j = H j := rfl
theorem wS_53 (V : XM) (F H L : Nat → Int) (n : Int) (j : Nat) : (wS V F H L n) 53 0 j = L j := rfl
theorem wS_9 (V : XM) (F H L : Nat → Int) (n : Int) : (wS V F H L n) 9 0 3 = n := rfl
theorem wS_u51 (V : XM) (F H L : Nat → Int) (n : Int) (j : Nat) (x : Int) : xu (wS V F H L n) 51 0 j x = wS V (zup F j x) H L n := by
  funext a b c; unfold xu wS zup
  (repeat' split) <;> first | rfl | (exfalso; omega)
theorem wS_u52 (V : XM) (F H L : Nat → Int) (n : Int) (j : Nat) (x : Int) : xu (wS V F H L n) 52 0 j x = wS V F (zup H j x) L n := by
  funext a b c; unfold xu wS zup
  (repeat' split) <;> first | rfl | (exfalso; omega)
theorem wS_u53 (V : XM) (F H L : Nat → Int) (n : Int) (j : Nat) (x : Int) : xu (wS V F H L n) 53 0 j x = wS V F H (zup L j x) n := by
  funext a b c; unfold xu wS zup
  (repeat' split) <;> first | rfl | (exfalso; omega)
theorem wS_u9 (V : XM) (F H L : Nat → Int) (n x : Int) : xu (wS V F H L n) 9 0 3 x = wS V F H L x := by
  funext a b c; unfold xu wS
  (repeat' split) <;> first | rfl | (exfalso; omega)
theorem fil_0 (f : Nat → Int) (lo x : Int) : fil f lo lo x = f := by
  funext c; unfold fil; rw [if_neg (by omega)]
theorem fil_s (f : Nat → Int) {lo hi : Int} (x : Int) (h0 : 0 ≤ lo) (h : lo < hi) : fil (zup f lo.toNat x) (lo + 1) hi x = fil f lo hi x := by
  funext c; unfold fil zup
  (repeat' split) <;> first | rfl | (exfalso; omega)
theorem x_wb (d : Nat) (V : XM) {a : Int} (ha : 0 ≤ a ∧ a < 64) : ∀ (m : Nat) (l : Int) (F H L : Nat → Int) (n : Int), (64 - l).toNat ≤ m → 0 ≤ l → l ≤ 64 → Xf d 117 2 [xr 9 0, xi a, xi l] [] (wS V F H L n) = some (xi 0, wS V (zup (fil F l 64 (-9)) a.toNat 0) (fil H l 64 (-9)) (zup L 0 a) 1) := by
  intro m
  induction m with
  | zero =>
    intro l F H L n hm h0 h1
    rw [s_X10_begin_2, if_neg (by omega), if_pos ha, show l = 64 by omega, fil_0, fil_0, wS_u51, wS_u53, wS_u9]
  | succ m ih =>
    intro l F H L n hm h0 h1
    by_cases hl : l < 64
    · rw [s_X10_begin_2, if_pos hl, if_pos (by omega), if_pos (by omega), w32_i (by omega) (by omega), wS_u51, wS_u52, ih (l + 1) _ _ _ _ (by omega) (by omega) (by omega), fil_s _ _ h0 hl, fil_s _ _ h0 hl]
    · rw [s_X10_begin_2, if_neg (by omega), if_pos ha, show l = 64 by omega, fil_0, fil_0, wS_u51, wS_u53, wS_u9]
theorem y_wb (d : Nat) (V : XM) {a : Int} (ha : 0 ≤ a ∧ a < 64) : Yf (d + 1) 117 [xr 9 0, xi a] V = some (xi 0, wS V (zup (fil (V 51 0) 0 64 (-9)) a.toNat 0) (fil (V 52 0) 0 64 (-9)) (zup (V 53 0) 0 a) 1) := by
  have := x_wb d V ha 64 0 (V 51 0) (V 52 0) (V 53 0) (V 9 0 3) (by omega) (by omega) (by omega)
  rw [wS_self] at this
  rw [s_X10_begin, this]
theorem y_wstep (d : Nat) (V : XM) (F H L : Nat → Int) (u v n : Nat) (c : Int) (hu : u < 64) (hv : v < 64) (hn : F v = -9 → n < 64) (hF : 0 ≤ F u ∧ F u ≤ 64) : Yf (d + 1) 118 [xr 9 0, xi (u : Int), xi (v : Int), xi c] (wS V F H L (n : Int)) = some (xi 0, if F v = -9 then wS V (zup F v (F u + 1)) (zup H v (if F u = 0 then c else H u)) (zup L n (v : Int)) ((n + 1 : Nat) : Int) else wS V F H L (n : Int)) := by
  have hu' : 0 ≤ (u : Int) ∧ (u : Int) < 64 := by omega
  have hv' : 0 ≤ (v : Int) ∧ (v : Int) < 64 := by omega
  rw [s_X10_step]
  simp only [Int.toNat_natCast, wS_51, wS_52, wS_9, wS_u51, wS_u52, wS_u9, wS_u53]
  rw [if_pos hv']
  by_cases c1 : F v = -9
  · have hn' := hn c1
    have hn2 : 0 ≤ (n : Int) ∧ (n : Int) < 64 := by omega
    have huv : u ≠ v := fun h => by rw [h] at hF; omega
    have e1 : Unit → w32 (F u + 1) = F u + 1 := fun _ => w32_i (by omega) (by omega)
    have e2 : Unit → w32 ((n : Int) + 1) = ((n + 1 : Nat) : Int) := fun _ => by rw [w32_i (by omega) (by omega)]; omega
    rw [if_pos c1, if_pos c1, if_pos hn2.2, if_pos hu', if_pos hv', if_pos hu', e1 (), zup_ne huv, e2 ()]
    by_cases c2 : F u = 0
    · rw [if_pos c2, if_pos hv', if_pos hn2, if_pos c2]
    · rw [if_neg c2, if_pos hu', if_pos hv', if_pos hn2, if_neg c2]
  · rw [if_neg c1, if_neg c1]
theorem Inv.ws {V : XM} (h : Inv V) (F H L : Nat → Int) (n : Int) : Inv (wS V F H L n) := by
  obtain ⟨h1, h2, h3, h4, h5, h6, h7, h8, h9, h10, h11, h12, h13, h14, h15, h16, h17, h18, h19, h20⟩ := h
  exact ⟨h1, h2, h3, h4, h5, h6, h7, h8, h9, h10, h11, h12, h13, h14, h15, h16, h17, h18, h19, h20⟩
theorem BI.le {R : Nat → Prop} {e : Nat → Nat → Option Nat} {M N a n i j : Nat} {F H L : Nat → Int} (b : BI R e M N a F H L n i j) : n ≤ N := by
  have b11 := b.2.2.2.2.2.2.2.2.2.2
  have := (cnt_b (fun v => decide (F v ≠ -9)) N).2
  omega
theorem BI.at {R : Nat → Prop} {e : Nat → Nat → Option Nat} {M N a n i j : Nat} {F H L : Nat → Int} (g : GE R e M N a) (b : BI R e M N a F H L n i j) {u : Nat} (hi : i < n) (hu : L i = (u : Int)) : R u ∧ u < N ∧ 0 ≤ F u ∧ F u ≤ N := by
  obtain ⟨_, x2, x3, _, x5⟩ := b.2.1 i hi
  have := b.le
  rw [hu, Int.toNat_natCast] at x2 x3 x5
  exact ⟨x2, g.1 u x2, x3, by omega⟩
/-! a walk along a relation -/
theorem bt_nat (x : Int) {j : Nat} (h : j < 64) : lAnd x (lShl 1 (j : Int)) = 0 ↔ ¬ bt x j = true := by
  have := bt_test x (w := (j : Int)) (by omega) (by omega)
  rw [Int.toNat_natCast] at this
  rw [this]
  cases bt x j <;> simp
def relE (V : XM) (N : Nat) (r : Int) (u j : Nat) : Option Nat := if u < N ∧ bt (V 55 0 ((64 * r + u).toNat)) j = true ∧ j ≠ u then some j else none
theorem relE_s {V : XM} {N : Nat} {r : Int} {u j v : Nat} (h : relE V N r u j = some v) : j = v ∧ u < N ∧ bt (V 55 0 ((64 * r + u).toNat)) j = true ∧ j ≠ u := by
  unfold relE at h
  split at h
  · rename_i k
    exact ⟨by simpa using h, k⟩
  · cases h
theorem rel_ge (V : XM) (r : Int) {N a : Nat} (ha : a < N) : GE (fun v => v < N) (relE V N r) N N a :=
  ⟨fun _ h => h, fun u k v _ hk he => by have := (relE_s he).1; omega, ha⟩
theorem x_rw50 (d : Nat) (V : XM) {r : Int} {N a i u : Nat} (hN : (V 4 0 7) = (N : Int)) (h64 : N ≤ 64) (g : GE (fun v => v < N) (relE V N r) N N a) : ∀ (m j n : Nat) (F H L : Nat → Int), N - j ≤ m → BI (fun v => v < N) (relE V N r) N N a F H L n i j → i < n → L i = (u : Int) → ∃ (F' H' L' : Nat → Int) (n' : Nat), BI (fun v => v < N) (relE V N r) N N a F' H' L' n' (i + 1) 0 ∧ Xf (d + 1) 47 50 [xr 10 0, xi r, xr 0 0, xi (i : Int), xi (u : Int), xl (V 55 0 ((64 * r + u).toNat)), xr 0 0, xi (j : Int)] [] (wS V F H L (n : Int)) = Xf (d + 1) 47 10 [xr 10 0, xi r, xr 0 0, xi ((i + 1 : Nat) : Int), xr 0 0, xr 0 0, xr 0 0, xr 0 0] [] (wS V F' H' L' (n' : Int)) := by
  have e4 : ∀ (F H L : Nat → Int) (n : Int), (wS V F H L n) 4 0 7 = (N : Int) := fun F H L n => hN
  have last : ∀ (j n : Nat) (F H L : Nat → Int), j = N → BI (fun v => v < N) (relE V N r) N N a F H L n i j → i < n → ∃ (F' H' L' : Nat → Int) (n' : Nat), BI (fun v => v < N) (relE V N r) N N a F' H' L' n' (i + 1) 0 ∧ Xf (d + 1) 47 50 [xr 10 0, xi r, xr 0 0, xi (i : Int), xi (u : Int), xl (V 55 0 ((64 * r + u).toNat)), xr 0 0, xi (j : Int)] [] (wS V F H L (n : Int)) = Xf (d + 1) 47 10 [xr 10 0, xi r, xr 0 0, xi ((i + 1 : Nat) : Int), xr 0 0, xr 0 0, xr 0 0, xr 0 0] [] (wS V F' H' L' (n' : Int)) := by
    intro j n F H L hj b hi
    subst hj
    have hle := b.le
    have ew : Unit → w32 ((i : Int) + 1) = ((i + 1 : Nat) : Int) := fun _ => by rw [w32_i (by omega) (by omega)]; omega
    exact ⟨F, H, L, n, b.next hi, by rw [s_X2_walkFrom_50, e4, if_neg (by omega), ew ()]⟩
  intro m
  induction m with
  | zero =>
    intro j n F H L hm b hi _
    exact last j n F H L (by have := b.1.2.2; omega) b hi
  | succ m ih =>
    intro j n F H L hm b hi hu
    by_cases hl : j < N
    · obtain ⟨_, uN, f0, f1⟩ := b.at g hi hu
      have hle := b.le
      have ew : Unit → w32 ((j : Int) + 1) = ((j + 1 : Nat) : Int) := fun _ => by rw [w32_i (by omega) (by omega)]; omega
      have eLi : (L i).toNat = u := by omega
      have j64 : j < 64 := by omega
      have hskip := fun hs => ih (j + 1) n F H L (by omega) (b.skip g hi hl hs) hi hu
      rw [eLi] at hskip
      rw [s_X2_walkFrom_50, e4, if_pos (by omega), s_X11_bit, cl_r, ew ()]
      simp only [cmp3_eq]
      cases hz : bt (V 55 0 ((64 * r + u).toNat)) j with
      | false =>
        rw [if_pos ((bt_nat _ j64).mpr (by rw [hz]; decide))]
        exact hskip (fun v hv => by have := (relE_s hv).2.2.1; rw [hz] at this; cases this)
      | true =>
        rw [if_neg (fun k => (bt_nat _ j64).mp k hz), y_wstep d V F H L u j n _ (by omega) (by omega) (fun h => by have := b.room hl h; omega) (by omega), cv_r]
        by_cases c : F j = -9
        · rw [if_pos c]
          have hju : j ≠ u := fun h => by rw [h] at c; omega
          have he : relE V N r (L i).toNat j = some j := by
            rw [eLi]; unfold relE; rw [if_pos ⟨uN, hz, hju⟩]
          have b' := b.step g hi hl he c
          rw [eLi] at b'
          exact ih (j + 1) (n + 1) _ _ _ (by omega) b' (by omega) (by rw [zup_ne (by omega)]; exact hu)
        · rw [if_neg c]
          exact hskip (fun v hv => by have := (relE_s hv).1; rw [← this]; exact c)
    · exact last j n F H L (by have := b.1.2.2; omega) b hi
theorem x_rw10 (d : Nat) (V : XM) {r : Int} {N a : Nat} (ir : 0 ≤ r ∧ r < 8) (hN : (V 4 0 7) = (N : Int)) (h64 : N ≤ 64) (g : GE (fun v => v < N) (relE V N r) N N a) : ∀ (m i n : Nat) (F H L : Nat → Int), N - i ≤ m → BI (fun v => v < N) (relE V N r) N N a F H L n i 0 → ∃ (F' H' L' : Nat → Int) (n' : Nat), BI (fun v => v < N) (relE V N r) N N a F' H' L' n' n' 0 ∧ Xf (d + 1) 47 10 [xr 10 0, xi r, xr 0 0, xi (i : Int), xr 0 0, xr 0 0, xr 0 0, xr 0 0] [] (wS V F H L (n : Int)) = some (xr 9 0, wS V F' H' L' (n' : Int)) := by
  intro m
  induction m with
  | zero =>
    intro i n F H L hm b
    have := b.le
    have hin : i = n := by have := b.1.2.1; omega
    subst hin
    exact ⟨F, H, L, i, b, by rw [s_X2_walkFrom_10, wS_9, if_neg (c := (i : Int) < (i : Int)) (by omega), ite_self]⟩
  | succ m ih =>
    intro i n F H L hm b
    have hle := b.le
    by_cases hi : i < n
    · have x1 := (b.2.1 i hi).1
      obtain ⟨u, hu⟩ : ∃ u : Nat, L i = (u : Int) := ⟨(L i).toNat, by omega⟩
      obtain ⟨_, uN, f0, f1⟩ := b.at g hi hu
      obtain ⟨F1, H1, L1, n1, b1, q1⟩ := x_rw50 d V (r := r) (u := u) hN h64 g N 0 n F H L (by omega) b hi hu
      obtain ⟨F2, H2, L2, n2, b2, q2⟩ := ih (i + 1) n1 F1 H1 L1 (by omega) b1
      refine ⟨F2, H2, L2, n2, b2, ?_⟩
      have e : Unit → w32 (w32 (r * 64) + (u : Int)) = 64 * r + (u : Int) := fun _ => by rw [w32_add, w32_i (by omega) (by omega)]; omega
      have e55 : (wS V F H L (n : Int)) 55 0 (64 * r + (u : Int)).toNat = (V 55 0 ((64 * r + u).toNat)) := rfl
      rw [s_X2_walkFrom_10, wS_9, if_pos (by omega), if_pos (by omega), if_pos (by omega), wS_53, Int.toNat_natCast, hu, s_X2_rowOf, e (), if_pos (by omega), cl_r, e55, ← q2, ← q1]
      rfl
    · have hin : i = n := by have := b.1.2.1; omega
      subst hin
      exact ⟨F, H, L, i, b, by rw [s_X2_walkFrom_10, wS_9, if_neg (c := (i : Int) < (i : Int)) (by omega), ite_self]⟩
theorem y_rwalk (d : Nat) (V : XM) {r : Int} {N a : Nat} (ir : 0 ≤ r ∧ r < 8) (hN : (V 4 0 7) = (N : Int)) (h64 : N ≤ 64) (ha : a < N) : ∃ (F H L : Nat → Int) (n : Nat), BI (fun v => v < N) (relE V N r) N N a F H L n n 0 ∧ Yf (d + 2) 47 [xr 10 0, xi r, xi (a : Int)] V = some (xr 9 0, wS V F H L (n : Int)) := by
  have g := rel_ge V r ha
  have b := BI.init (F := zup (fil (V 51 0) 0 64 (-9)) a 0) (H := fil (V 52 0) 0 64 (-9)) (L := zup (V 53 0) 0 (a : Int)) g (zup_eq _ _ _) (fun v hv hva => by rw [zup_ne hva]; unfold fil; rw [if_pos (by omega)]) (fun v hv => by unfold fil; rw [if_pos (by omega)]) (zup_eq _ _ _)
  obtain ⟨F, H, L, n, b', q⟩ := x_rw10 d V ir hN h64 g N 0 1 _ _ _ (by omega) b
  refine ⟨F, H, L, n, b', ?_⟩
  rw [s_X2_walkFrom, y_wb _ V (by omega), cv_r, Int.toNat_natCast, ← q]
  rfl
