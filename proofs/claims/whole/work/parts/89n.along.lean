/-! along, next: the reference's way back -/
def rS (V : XM) (F L : Nat → Int) : XM := fun a b c => if a = 92 ∧ b = 0 then F c else if a = 93 ∧ b = 0 then L c else V a b c
theorem rS_self (V : XM) : rS V (V 92 0) (V 93 0) = V := by
  funext a b c; unfold rS
  by_cases h1 : a = 92 ∧ b = 0
  · rw [if_pos h1, h1.1, h1.2]
  · rw [if_neg h1]
    by_cases h2 : a = 93 ∧ b = 0
    · rw [if_pos h2, h2.1, h2.2]
    · rw [if_neg h2]
theorem rS_92 (V : XM) (F L : Nat → Int) (j : Nat) : (rS V F L) 92 0 j = F j := rfl
theorem rS_93 (V : XM) (F L : Nat → Int) (j : Nat) : (rS V F L) 93 0 j = L j := rfl
theorem rS_u92 (V : XM) (F L : Nat → Int) (j : Nat) (x : Int) : xu (rS V F L) 92 0 j x = rS V (zup F j x) L := by
  funext a b c; unfold xu rS zup
  (repeat' split) <;> first | rfl | (exfalso; omega)
theorem rS_u93 (V : XM) (F L : Nat → Int) (j : Nat) (x : Int) : xu (rS V F L) 93 0 j x = rS V F (zup L j x) := by
  funext a b c; unfold xu rS zup
  (repeat' split) <;> first | rfl | (exfalso; omega)
def bkE (W : XM) (N : Nat) (u t : Nat) : Option Nat := if u < N ∧ W 94 0 (64 * t + u) ≠ 0 then some t else none
theorem bkE_s {W : XM} {N u t v : Nat} (h : bkE W N u t = some v) : t = v ∧ u < N ∧ W 94 0 (64 * t + u) ≠ 0 := by
  unfold bkE at h
  split at h
  · rename_i k
    exact ⟨by simpa using h, k⟩
  · cases h
theorem bk_ge (W : XM) {N b : Nat} (hb : b < N) : GE (fun v => v < N) (bkE W N) N N b :=
  ⟨fun _ h => h, fun u k v _ hk he => by have := (bkE_s he).1; omega, hb⟩
theorem x_gb2 (d : Nat) (W : XM) {N b : Nat} (hN : (W 14 0 9) = (N : Int)) (h64 : N ≤ 64) (hb : b < N) : ∀ (m : Nat) (l : Int) (F L : Nat → Int), ((N : Int) - l).toNat ≤ m → 0 ≤ l → l ≤ N → Xf d 265 2 [xr 14 0, xi (b : Int), xi l, xr 0 0, xr 0 0] [] (rS W F L) = Xf d 265 42 [xr 14 0, xr 0 0, xi 1, xi 0, xr 0 0] [] (rS W (zup (fil F l N (-9)) b 0) (zup L 0 (b : Int))) := by
  have eN : ∀ F L, (rS W F L) 14 0 9 = (N : Int) := fun F L => hN
  have last : ∀ (F L : Nat → Int), Xf d 265 2 [xr 14 0, xi (b : Int), xi (N : Int), xr 0 0, xr 0 0] [] (rS W F L) = Xf d 265 42 [xr 14 0, xr 0 0, xi 1, xi 0, xr 0 0] [] (rS W (zup (fil F (N : Int) N (-9)) b 0) (zup L 0 (b : Int))) := fun F L => by
    rw [s_X12_goBack_2, eN, if_neg (by omega), if_pos (by omega), fil_0, Int.toNat_natCast, rS_u92, rS_u93]
  intro m
  induction m with
  | zero =>
    intro l F L hm h0 h1
    have : l = (N : Int) := by omega
    subst this
    exact last F L
  | succ m ih =>
    intro l F L hm h0 h1
    by_cases hl : l < (N : Int)
    · rw [s_X12_goBack_2, eN, if_pos hl, if_pos (by omega), w32_i (by omega) (by omega), rS_u92, ih (l + 1) _ _ (by omega) (by omega) (by omega), fil_s _ _ h0 hl]
    · have : l = (N : Int) := by omega
      subst this
      exact last F L
theorem x_gb50 (d : Nat) (W : XM) {N b i u : Nat} (hN : (W 14 0 9) = (N : Int)) (h64 : N ≤ 64) (g : GE (fun v => v < N) (bkE W N) N N b) : ∀ (m j n : Nat) (F H L : Nat → Int), N - j ≤ m → BI (fun v => v < N) (bkE W N) N N b F H L n i j → i < n → L i = (u : Int) → ∃ (F' H' L' : Nat → Int) (n' : Nat), BI (fun v => v < N) (bkE W N) N N b F' H' L' n' (i + 1) 0 ∧ Xf d 265 50 [xr 14 0, xr 0 0, xi (n : Int), xi (i : Int), xi (j : Int)] [] (rS W F L) = Xf d 265 42 [xr 14 0, xr 0 0, xi (n' : Int), xi ((i + 1 : Nat) : Int), xr 0 0] [] (rS W F' L') := by
  have eN : ∀ F L, (rS W F L) 14 0 9 = (N : Int) := fun F L => hN
  have e94 : ∀ F L j, (rS W F L) 94 0 j = W 94 0 j := fun F L j => rfl
  have last : ∀ (j n : Nat) (F H L : Nat → Int), j = N → BI (fun v => v < N) (bkE W N) N N b F H L n i j → i < n → ∃ (F' H' L' : Nat → Int) (n' : Nat), BI (fun v => v < N) (bkE W N) N N b F' H' L' n' (i + 1) 0 ∧ Xf d 265 50 [xr 14 0, xr 0 0, xi (n : Int), xi (i : Int), xi (j : Int)] [] (rS W F L) = Xf d 265 42 [xr 14 0, xr 0 0, xi (n' : Int), xi ((i + 1 : Nat) : Int), xr 0 0] [] (rS W F' L') := by
    intro j n F H L hj b hi
    subst hj
    have hle := b.le
    have ew : Unit → w32 ((i : Int) + 1) = ((i + 1 : Nat) : Int) := fun _ => by rw [w32_i (by omega) (by omega)]; omega
    exact ⟨F, H, L, n, b.next hi, by rw [s_X12_goBack_50, eN, if_neg (by omega), ew ()]⟩
  intro m
  induction m with
  | zero =>
    intro j n F H L hm b hi _
    exact last j n F H L (by have := b.1.2.2; omega) b hi
  | succ m ih =>
    intro j n F H L hm b hi hu
    by_cases hl : j < N
    · obtain ⟨_, uN, f0, f1⟩ := b.at g hi hu
      have hle := b.le
      have ew : Unit → w32 ((j : Int) + 1) = ((j + 1 : Nat) : Int) := fun _ => by rw [w32_i (by omega) (by omega)]; omega
      have eLi : (L i).toNat = u := by omega
      have ei : Unit → w32 (w32 (64 * (j : Int)) + (u : Int)) = 64 * (j : Int) + (u : Int) := fun _ => by rw [w32_add, w32_i (by omega) (by omega)]
      have en : (64 * (j : Int) + (u : Int)).toNat = 64 * j + u := by omega
      have j64 : 0 ≤ (j : Int) ∧ (j : Int) < 64 := by omega
      have i64 : 0 ≤ (i : Int) ∧ (i : Int) < 64 := by omega
      have u64 : 0 ≤ (u : Int) ∧ (u : Int) < 64 := by omega
      have hskip := fun hs => ih (j + 1) n F H L (by omega) (b.skip g hi hl hs) hi hu
      rw [eLi] at hskip
      rw [s_X12_goBack_50, eN, if_pos (by omega), if_pos j64, Int.toNat_natCast, Int.toNat_natCast, rS_92, rS_93, hu, ei (), en, e94, ew ()]
      by_cases c : F j = -9
      · rw [if_pos c, if_pos i64, if_pos (by omega)]
        by_cases c2 : W 94 0 (64 * j + u) = 0
        · rw [if_pos c2]
          exact hskip (fun v hv => absurd c2 (bkE_s hv).2.2)
        · have hn := b.room hl c
          have he : bkE W N (L i).toNat j = some j := by
            rw [eLi]; unfold bkE; rw [if_pos ⟨uN, c2⟩]
          have b' := b.step g hi hl he c
          rw [eLi] at b'
          have e1 : Unit → w32 (F u + 1) = F u + 1 := fun _ => w32_i (by omega) (by omega)
          have e2 : Unit → w32 ((n : Int) + 1) = ((n + 1 : Nat) : Int) := fun _ => by rw [w32_i (by omega) (by omega)]; omega
          rw [if_neg c2, if_pos i64, if_pos u64, if_pos j64, if_pos (by omega), Int.toNat_natCast, Int.toNat_natCast, rS_92, e1 (), e2 (), rS_u92, rS_u93]
          exact ih (j + 1) (n + 1) _ _ _ (by omega) b' (by omega) (by rw [zup_ne (by omega)]; exact hu)
      · rw [if_neg c]
        exact hskip (fun v hv => by have := (bkE_s hv).1; rw [← this]; exact c)
    · exact last j n F H L (by have := b.1.2.2; omega) b hi
theorem x_gb42 (d : Nat) (W : XM) {N b : Nat} (hN : (W 14 0 9) = (N : Int)) (h64 : N ≤ 64) (g : GE (fun v => v < N) (bkE W N) N N b) : ∀ (m i n : Nat) (F H L : Nat → Int), N - i ≤ m → BI (fun v => v < N) (bkE W N) N N b F H L n i 0 → ∃ (F' H' L' : Nat → Int) (n' : Nat), BI (fun v => v < N) (bkE W N) N N b F' H' L' n' n' 0 ∧ Xf d 265 42 [xr 14 0, xr 0 0, xi (n : Int), xi (i : Int), xr 0 0] [] (rS W F L) = some (xi 0, rS W F' L') := by
  intro m
  induction m with
  | zero =>
    intro i n F H L hm b
    have := b.le
    have hin : i = n := by have := b.1.2.1; omega
    subst hin
    exact ⟨F, H, L, i, b, by rw [s_X12_goBack_42, if_neg (by omega)]⟩
  | succ m ih =>
    intro i n F H L hm b
    have hle := b.le
    by_cases hi : i < n
    · have x1 := (b.2.1 i hi).1
      obtain ⟨u, hu⟩ : ∃ u : Nat, L i = (u : Int) := ⟨(L i).toNat, by omega⟩
      obtain ⟨F1, H1, L1, n1, b1, q1⟩ := x_gb50 d W (u := u) hN h64 g N 0 n F H L (by omega) b hi hu
      obtain ⟨F2, H2, L2, n2, b2, q2⟩ := ih (i + 1) n1 F1 H1 L1 (by omega) b1
      refine ⟨F2, H2, L2, n2, b2, ?_⟩
      rw [s_X12_goBack_42, if_pos (by omega), ← q2, ← q1]
      rfl
    · have hin : i = n := by have := b.1.2.1; omega
      subst hin
      exact ⟨F, H, L, i, b, by rw [s_X12_goBack_42, if_neg (by omega)]⟩
theorem y_goBack (d : Nat) (W : XM) {N b : Nat} (hN : (W 14 0 9) = (N : Int)) (h64 : N ≤ 64) (hb : b < N) : ∃ F L : Nat → Int, (∀ v, v < N → isD (eE (bkE W N) N) b v (F v)) ∧ (∀ v, v < N → F v ≤ 64) ∧ Yf (d + 1) 265 [xr 14 0, xi (b : Int)] W = some (xi 0, rS W F L) := by
  have g := bk_ge W hb
  have b0 := BI.init (F := zup (fil (W 92 0) 0 N (-9)) b 0) (H := fun _ => -9) (L := zup (W 93 0) 0 (b : Int)) g (zup_eq _ _ _) (fun v hv hva => by rw [zup_ne hva]; unfold fil; rw [if_pos (by omega)]) (fun v hv => rfl) (zup_eq _ _ _)
  obtain ⟨F, H, L, n, b', q⟩ := x_gb42 d W hN h64 g N 0 1 _ _ _ (by omega) b0
  refine ⟨F, L, fun v hv => b'.far g hv, fun v hv => ?_, ?_⟩
  · by_cases c : F v = -9
    · omega
    · obtain ⟨p, p1, p2⟩ := b'.2.2.1 v hv c
      have hp := (b'.2.1 p p1).2.2.2.2
      have hle := b'.le
      rw [p2, Int.toNat_natCast] at hp
      omega
  · have := x_gb2 d W hN h64 hb N 0 (W 92 0) (W 93 0) (by omega) (by omega) (by omega)
    rw [rS_self] at this
    rw [s_X12_goBack, this, ← q]
    rfl
/-- the first step of a shortest way -/
def isNx (st : Nat → Nat → Prop) (E : Nat → Nat → Prop) (a b : Nat) (x : Int) : Prop := (x = -9 ∧ (a = b ∨ ∀ k, ¬ wk E k a b)) ∨ (∃ k h w : Nat, x = h ∧ st h w ∧ wk E k w b ∧ (∀ m, m ≤ k → ¬ wk E m a b) ∧ ∀ h' w', h' < h → st h' w' → ¬ wk E k w' b)
theorem isNx.uniq {st E : Nat → Nat → Prop} {a b : Nat} (hst : ∀ h w, st h w → E a w) {x y : Int} (h : isNx st E a b x) (k : isNx st E a b y) : x = y := by
  rcases h with ⟨h1, h2⟩ | ⟨n, p, u, h1, h2, h3, h4, h5⟩
  · rcases k with ⟨k1, k2⟩ | ⟨m, q, v, k1, k2, k3, k4, k5⟩
    · rw [h1, k1]
    · rcases h2 with h2 | h2
      · exact absurd h2 (k4 0 (by omega))
      · exact absurd (wk_front.mpr ⟨v, hst q v k2, k3⟩) (h2 (m + 1))
  · rcases k with ⟨k1, k2⟩ | ⟨m, q, v, k1, k2, k3, k4, k5⟩
    · rcases k2 with k2 | k2
      · exact absurd k2 (h4 0 (by omega))
      · exact absurd (wk_front.mpr ⟨u, hst p u h2, h3⟩) (k2 (n + 1))
    · have a1 : ¬ (n + 1 ≤ m) := fun z => k4 (n + 1) z (wk_front.mpr ⟨u, hst p u h2, h3⟩)
      have a2 : ¬ (m + 1 ≤ n) := fun z => h4 (m + 1) z (wk_front.mpr ⟨v, hst q v k2, k3⟩)
      have e : n = m := by omega
      subst e
      have a3 : ¬ p < q := fun z => k5 p u z h2 h3
      have a4 : ¬ q < p := fun z => h5 q v z k2 k3
      rw [h1, k1, show p = q by omega]
theorem isN.nx {e : Nat → Nat → Option Nat} {M a b : Nat} {f x : Int} (h : isN e M a b f x) (k : isD (eE e M) a b f) : isNx (fun h w => h < M ∧ e a h = some w) (eE e M) a b x := by
  rcases h with ⟨h1, h2⟩ | ⟨h1, p, w, h2, h3, h4, h5, h6⟩
  · refine .inl ⟨h1, ?_⟩
    rcases k with ⟨_, k2⟩ | ⟨n, k1, k2, _⟩
    · exact .inr k2
    · have : n = 0 := by omega
      subst this
      exact .inl k2
  · refine .inr ⟨f.toNat - 1, p, w, h2, ⟨h3, h4⟩, h5, fun m hm hw => ?_, fun h' w' z1 z2 => h6 h' w' z1 z2.2⟩
    rcases k with ⟨k1, _⟩ | ⟨n, k1, k2, k3⟩
    · omega
    · exact k3 m (by omega) hw
/-- the same out of all distances to b -/
theorem nx_of {E st : Nat → Nat → Prop} {N a b : Nat} {F : Nat → Int} (hst : ∀ h w, st h w → E a w ∧ w < N) (hE : ∀ w, E a w → ∃ h, st h w) (hF : ∀ v, v < N → isD E v b (F v)) (ha : a < N) (hab : a ≠ b) (hf : F a ≠ -9) : (∃ h w, st h w ∧ F w = F a - 1) ∧ ∀ s w, st s w → F w = F a - 1 → (∀ h' w', h' < s → st h' w' → F w' ≠ F a - 1) → isNx st E a b (s : Int) := by
  rcases hF a ha with ⟨k1, _⟩ | ⟨n, k1, k2, k3⟩
  · exact absurd k1 hf
  · have n0 : n ≠ 0 := fun h => by subst h; exact hab k2
    obtain ⟨m, hm⟩ : ∃ m, n = m + 1 := ⟨n - 1, by omega⟩
    subst hm
    have key : ∀ h w, st h w → (F w = F a - 1 ↔ wk E m w b) := fun h w z => by
      obtain ⟨z1, z2⟩ := hst h w z
      rcases hF w z2 with ⟨q1, q2⟩ | ⟨p, q1, q2, q3⟩
      · exact ⟨fun y => by omega, fun y => absurd y (q2 m)⟩
      · constructor
        · intro y
          have : p = m := by omega
          rw [← this]; exact q2
        · intro y
          have b1 : ¬ m < p := fun y2 => q3 m y2 y
          have b2 : ¬ p < m := fun y2 => k3 (p + 1) (by omega) (wk_front.mpr ⟨w, z1, q2⟩)
          omega
    obtain ⟨w, w1, w2⟩ := wk_front.mp k2
    obtain ⟨h, hw⟩ := hE w w1
    refine ⟨⟨h, w, hw, (key h w hw).mpr w2⟩, fun s v s1 s2 s3 => .inr ⟨m, s, v, rfl, s1, (key s v s1).mp s2, fun p hp => k3 p (by omega), fun h' w' g1 g2 g3 => s3 h' w' g1 g2 ((key h' w' g2).mpr g3)⟩⟩
