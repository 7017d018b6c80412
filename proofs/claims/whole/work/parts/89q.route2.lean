/-! route, first: the reference's way back -/
theorem y_goes (d : Nat) (V : XM) (c : Int) {e : Nat} (he : e < 512) (hd : (V 95 0 e) = 3 → 0 ≤ (V 98 0 e) ∧ (V 98 0 e) < 64) : Yf (d + 1) 274 [xr 14 0, xi (e : Int), xi c] V = some (xi (b2 (goP V c e)), V) := by
  have e5 : 0 ≤ (e : Int) ∧ (e : Int) < 512 := by omega
  rw [s_X12_goes, if_pos e5, Int.toNat_natCast]
  unfold goP
  generalize (V 95 0 e) = so at *
  generalize (V 96 0 e) = to at *
  generalize (V 98 0 e) = dr at *
  by_cases c0 : 0 < so
  · rw [if_pos c0, if_pos e5]
    by_cases c1 : to = -9
    · rw [if_pos c1, b2_0.mpr (fun z => z.2.1 c1)]
    · rw [if_neg c1]
      by_cases cc : c = 0
      · rw [if_pos cc, if_pos e5]
        by_cases c3 : so = 3
        · have hd := hd c3
          rw [if_pos c3, if_pos e5, if_pos hd]
          by_cases c4 : (V 77 0 (dr.toNat)) = 0
          · rw [if_pos c4, b2_0.mpr (fun z => by
              rcases z.2.2 with z | z | z
              · exact z cc
              · exact z c3
              · exact z c4)]
          · rw [if_neg c4, b2_1.mpr ⟨c0, c1, .inr (.inr c4)⟩]
        · rw [if_neg c3, b2_1.mpr ⟨c0, c1, .inr (.inl c3)⟩]
      · rw [if_neg cc, b2_1.mpr ⟨c0, c1, .inl cc⟩]
  · rw [if_neg c0, b2_0.mpr (fun z => c0 z.1)]
def rbF (V : XM) (B : Nat → Int) (N : Nat) (c : Int) (u t k : Nat) : Bool := decide (rmE V B N c t k = some u)
def rbE (V : XM) (B : Nat → Int) (N : Nat) (c : Int) (u t : Nat) : Option Nat := if u < N ∧ ff (rbF V B N c u t) 8 0 ≠ -9 then some t else none
theorem ff_ex {f : Nat → Bool} {m l : Nat} : ff f m l ≠ -9 ↔ ∃ k, l ≤ k ∧ k < l + m ∧ f k = true := by
  rcases ff_spec f m l with ⟨x1, x2⟩ | ⟨s, x1, x2, x3, x4, x5⟩
  · rw [x1]
    refine ⟨fun k => absurd rfl k, fun ⟨k, k1, k2, k3⟩ => ?_⟩
    rw [x2 k k1 k2] at k3; cases k3
  · rw [x1]
    exact ⟨fun _ => ⟨s, x2, x3, x4⟩, fun _ => by omega⟩
theorem rbE_s {V : XM} {B : Nat → Int} {N : Nat} {c : Int} {u t v : Nat} (h : rbE V B N c u t = some v) : t = v ∧ u < N ∧ ∃ k, k < 8 ∧ rmE V B N c t k = some u := by
  unfold rbE at h
  split at h
  · rename_i k
    obtain ⟨p, _, p2, p3⟩ := ff_ex.mp k.2
    exact ⟨by simpa using h, k.1, p, by omega, by unfold rbF at p3; simpa using p3⟩
  · cases h
theorem rb_ge (V : XM) (B : Nat → Int) (c : Int) {N b : Nat} (hb : b < N) : GE (fun v => v < N) (rbE V B N c) N N b :=
  ⟨fun _ h => h, fun u k v _ hk he => by have := (rbE_s he).1; omega, hb⟩
theorem rb_rm {V : XM} {B : Nat → Int} {N : Nat} {c : Int} (m : MP V B N) (u v : Nat) : eE (rbE V B N c) N u v ↔ eE (rmE V B N c) 8 v u := by
  constructor
  · rintro ⟨j, j1, j2⟩
    obtain ⟨k1, k2, k, k3, k4⟩ := rbE_s j2
    subst k1
    exact ⟨k, k3, k4⟩
  · rintro ⟨k, k1, k2⟩
    obtain ⟨q1, q2, q3, q4⟩ := rmE_s k2
    have := (m v k q2 k1).1 ⟨q4.1, q4.2.1⟩
    refine ⟨v, q2, ?_⟩
    unfold rbE
    rw [if_pos ⟨by omega, ff_ex.mpr ⟨k, by omega, by omega, by unfold rbF; exact decide_eq_true k2⟩⟩]
theorem x_rb2 (d : Nat) (W : XM) (c : Int) {N b : Nat} (hN : (W 14 0 9) = (N : Int)) (h64 : N ≤ 64) (hb : b < N) : ∀ (m : Nat) (l : Int) (F L : Nat → Int), ((N : Int) - l).toNat ≤ m → 0 ≤ l → l ≤ N → Xf d 275 2 [xr 14 0, xi (b : Int), xi c, xi l, xr 0 0, xr 0 0, xr 0 0, xr 0 0] [] (rS W F L) = Xf d 275 43 [xr 14 0, xr 0 0, xi c, xi 1, xi 0, xr 0 0, xr 0 0, xr 0 0] [] (rS W (zup (fil F l N (-9)) b 0) (zup L 0 (b : Int))) := by
  have eN : ∀ F L, (rS W F L) 14 0 9 = (N : Int) := fun F L => hN
  have last : ∀ (F L : Nat → Int), Xf d 275 2 [xr 14 0, xi (b : Int), xi c, xi (N : Int), xr 0 0, xr 0 0, xr 0 0, xr 0 0] [] (rS W F L) = Xf d 275 43 [xr 14 0, xr 0 0, xi c, xi 1, xi 0, xr 0 0, xr 0 0, xr 0 0] [] (rS W (zup (fil F (N : Int) N (-9)) b 0) (zup L 0 (b : Int))) := fun F L => by
    rw [s_X12_routeBack_2, eN, if_neg (by omega), if_pos (by omega), fil_0, Int.toNat_natCast, rS_u92, rS_u93]
  intro m
  induction m with
  | zero =>
    intro l F L hm h0 h1
    have : l = (N : Int) := by omega
    subst this
    exact last F L
  | succ m ih =>
    intro l F L hm h0 h1
    by_cases hl : l < (N : Int)
    · rw [s_X12_routeBack_2, eN, if_pos hl, if_pos (by omega), w32_i (by omega) (by omega), rS_u92, ih (l + 1) _ _ (by omega) (by omega) (by omega), fil_s _ _ h0 hl]
    · have : l = (N : Int) := by omega
      subst this
      exact last F L
/-- what follows the look at a place's exits -/
noncomputable def rbK (d : Nat) (c : Int) (n i t : Nat) (W : XM) (F L : Nat → Int) (u : Nat) : XR := if F t = -9 then Xf d 275 52 [xr 14 0, xr 0 0, xi c, xi ((n + 1 : Nat) : Int), xi (i : Int), xi ((t + 1 : Nat) : Int), xr 0 0, xr 0 0] [] (rS W (zup F t (F u + 1)) (zup L n (t : Int))) else Xf d 275 52 [xr 14 0, xr 0 0, xi c, xi (n : Int), xi (i : Int), xi ((t + 1 : Nat) : Int), xr 0 0, xr 0 0] [] (rS W F L)
theorem x_rb67 (d : Nat) (W : XM) {B : Nat → Int} {c : Int} {N n i t u : Nat} {F L : Nat → Int} (hr : RB W B) (hm0 : MP W B N) (hN : (W 14 0 9) = (N : Int)) (h64 : N ≤ 64) (ht : t < N) (hi : i < 64) (hn : F t = -9 → n < 64) (hu : L i = (u : Int)) (hu64 : u < 64) (hf : 0 ≤ F u ∧ F u ≤ 64) : ∀ (m k : Nat), 8 - k ≤ m → k ≤ 8 →
    (Xf (d + 3) 275 67 [xr 14 0, xr 0 0, xi c, xi (n : Int), xi (i : Int), xi (t : Int), xi 1, xi (k : Int)] [] (rS W F L) = rbK (d + 3) c n i t W F L u) ∧
    (Xf (d + 3) 275 67 [xr 14 0, xr 0 0, xi c, xi (n : Int), xi (i : Int), xi (t : Int), xi 0, xi (k : Int)] [] (rS W F L) = if ff (rbF W B N c u t) (8 - k) k ≠ -9 then rbK (d + 3) c n i t W F L u else Xf (d + 3) 275 52 [xr 14 0, xr 0 0, xi c, xi (n : Int), xi (i : Int), xi ((t + 1 : Nat) : Int), xr 0 0, xr 0 0] [] (rS W F L)) := by
  have t64 : 0 ≤ (t : Int) ∧ (t : Int) < 64 := by omega
  have i64 : 0 ≤ (i : Int) ∧ (i : Int) < 64 := by omega
  have u64 : 0 ≤ (u : Int) ∧ (u : Int) < 64 := by omega
  have et : Unit → w32 ((t : Int) + 1) = ((t + 1 : Nat) : Int) := fun _ => by rw [w32_i (by omega) (by omega)]; omega
  have e1 : Unit → w32 (F u + 1) = F u + 1 := fun _ => w32_i (by omega) (by omega)
  have e96 : ∀ j, (rS W F L) 96 0 j = W 96 0 j := fun j => rfl
  have tail : (if (F t = -9) then (if 0 ≤ (i : Int) ∧ (i : Int) < 64 then (if 0 ≤ (u : Int) ∧ (u : Int) < 64 then (if 0 ≤ (t : Int) ∧ (t : Int) < 64 then (if 0 ≤ (n : Int) ∧ (n : Int) < 64 then Xf (d + 3) 275 52 [xr 14 0, xr 0 0, xi c, xi (w32 ((n : Int) + 1)), xi (i : Int), xi (w32 ((t : Int) + 1)), xr 0 0, xr 0 0] [] (rS W (zup F t (w32 (F u + 1))) (zup L n (t : Int))) else none) else none) else none) else none) else Xf (d + 3) 275 52 [xr 14 0, xr 0 0, xi c, xi (n : Int), xi (i : Int), xi (w32 ((t : Int) + 1)), xr 0 0, xr 0 0] [] (rS W F L)) = rbK (d + 3) c n i t W F L u := by
    unfold rbK
    by_cases c1 : F t = -9
    · have hn := hn c1
      have e2 : Unit → w32 ((n : Int) + 1) = ((n + 1 : Nat) : Int) := fun _ => by rw [w32_i (by omega) (by omega)]; omega
      rw [if_pos c1, if_pos c1, if_pos i64, if_pos u64, if_pos t64, if_pos (by omega), e1 (), e2 (), et ()]
    · rw [if_neg c1, if_neg c1, et ()]
  have room : ∀ e, Yf (e + 3) 268 [xr 14 0, xi (t : Int)] (rS W F L) = some (xi (b2 (B t = 1)), rS W F L) := fun e => by
    have := y_rRoom e (rS W F L) (B := B) (by exact hr) (t : Int)
    rw [this]
    refine someb ?_
    have e9 : (rS W F L) 14 0 9 = (N : Int) := hN
    rw [e9, Int.toNat_natCast]
    exact ⟨fun z => z.2.2, fun z => ⟨by omega, by omega, z⟩⟩
  have last1 : Xf (d + 3) 275 67 [xr 14 0, xr 0 0, xi c, xi (n : Int), xi (i : Int), xi (t : Int), xi 1, xi ((8 : Nat) : Int)] [] (rS W F L) = rbK (d + 3) c n i t W F L u := by
    rw [s_X12_routeBack_67, if_neg (by omega), if_neg (by omega), if_pos t64]
    simp only [Int.toNat_natCast, rS_92, rS_93, hu, rS_u92, rS_u93]
    exact tail
  have last0 : Xf (d + 3) 275 67 [xr 14 0, xr 0 0, xi c, xi (n : Int), xi (i : Int), xi (t : Int), xi 0, xi ((8 : Nat) : Int)] [] (rS W F L) = Xf (d + 3) 275 52 [xr 14 0, xr 0 0, xi c, xi (n : Int), xi (i : Int), xi ((t + 1 : Nat) : Int), xr 0 0, xr 0 0] [] (rS W F L) := by
    rw [s_X12_routeBack_67, if_neg (by omega), if_pos rfl, et ()]
  by_cases hB : B t = 1
  · intro m
    induction m with
    | zero =>
      intro k hm hk
      have : k = 8 := by omega
      subst this
      refine ⟨last1, ?_⟩
      rw [last0]
      exact (if_neg (fun z => z rfl)).symm
    | succ m ih =>
      intro k hm hk
      by_cases hl : k < 8
      · obtain ⟨ih1, ih2⟩ := ih (k + 1) (by omega) (by omega)
        have ek : Unit → w32 ((k : Int) + 1) = ((k + 1 : Nat) : Int) := fun _ => by rw [w32_i (by omega) (by omega)]; omega
        have ei : Unit → w32 (w32 (8 * (t : Int)) + (k : Int)) = ((8 * t + k : Nat) : Int) := fun _ => by rw [w32_add, w32_i (by omega) (by omega)]; omega
        have hg : ∀ e, Yf (e + 1) 274 [xr 14 0, xi ((8 * t + k : Nat) : Int), xi c] (rS W F L) = some (xi (b2 (goP W c (8 * t + k))), rS W F L) := fun e => y_goes e (rS W F L) c (e := 8 * t + k) (by omega) (by exact (hm0 t k ht hl).2)
        refine ⟨?_, ?_⟩
        · rw [s_X12_routeBack_67, if_pos (by omega), room, ci_r, ite_b2, if_pos hB, if_neg (by omega), ek ()]
          exact ih1
        · rw [s_X12_routeBack_67, if_pos (by omega), room, ci_r, ite_b2, if_pos hB, if_pos rfl, ei (), ek (), hg, ci_r, ite_b2]
          have e8 : 8 - k = (8 - (k + 1)) + 1 := by omega
          rw [e8, ff_suc]
          by_cases c1 : goP W c (8 * t + k)
          · have hto := (hm0 t k ht hl).1 ⟨c1.1, c1.2.1⟩
            rw [if_pos c1, if_pos (by omega), if_pos i64]
            simp only [Int.toNat_natCast, rS_93, hu, e96]
            have hrm : rmE W B N c t k = some ((W 96 0 (8 * t + k))).toNat := by unfold rmE; rw [if_pos ⟨ht, hB, c1⟩]
            by_cases c2 : (W 96 0 (8 * t + k)) = (u : Int)
            · have : rbF W B N c u t k = true := by unfold rbF; rw [hrm, c2, Int.toNat_natCast]; simp
              rw [if_pos c2, if_pos this, if_pos (by omega)]
              exact ih1
            · have : ¬ rbF W B N c u t k = true := by unfold rbF; rw [hrm]; simp only [decide_eq_true_eq, Option.some.injEq]; omega
              rw [if_neg c2, if_neg this]
              exact ih2
          · have : ¬ rbF W B N c u t k = true := by
              unfold rbF
              rw [decide_eq_true_eq]
              exact fun z => c1 (rmE_s z).2.2.2
            rw [if_neg c1, if_neg this]
            exact ih2
      · have : k = 8 := by omega
        subst this
        refine ⟨last1, ?_⟩
        rw [last0]
        exact (if_neg (fun z => z rfl)).symm
  · have none' : ∀ p, rbF W B N c u t p = false := fun p => by
      unfold rbF
      rw [decide_eq_false_iff_not]
      exact fun z => hB (rmE_s z).2.2.1
    have ffn : ∀ m l, ff (rbF W B N c u t) m l = -9 := by
      intro m
      induction m with
      | zero => intro l; rfl
      | succ m ih => intro l; rw [ff_suc, none', if_neg (by simp), ih]
    intro m k hm hk
    by_cases hl : k < 8
    · refine ⟨?_, ?_⟩
      · rw [s_X12_routeBack_67, if_pos (by omega), room, ci_r, ite_b2, if_neg hB, if_neg (by omega), if_pos t64]
        simp only [Int.toNat_natCast, rS_92, rS_93, hu, rS_u92, rS_u93]
        exact tail
      · rw [s_X12_routeBack_67, if_pos (by omega), room, ci_r, ite_b2, if_neg hB, if_pos rfl, et (), ffn, if_neg (fun z => z rfl)]
    · have : k = 8 := by omega
      subst this
      refine ⟨last1, ?_⟩
      rw [last0]
      exact (if_neg (fun z => z rfl)).symm
theorem x_rb52 (d : Nat) (W : XM) {B : Nat → Int} {c : Int} {N b i u : Nat} (hr : RB W B) (hm : MP W B N) (hN : (W 14 0 9) = (N : Int)) (h64 : N ≤ 64) (g : GE (fun v => v < N) (rbE W B N c) N N b) : ∀ (m j n : Nat) (F H L : Nat → Int), N - j ≤ m → BI (fun v => v < N) (rbE W B N c) N N b F H L n i j → i < n → L i = (u : Int) → ∃ (F' H' L' : Nat → Int) (n' : Nat), BI (fun v => v < N) (rbE W B N c) N N b F' H' L' n' (i + 1) 0 ∧ Xf (d + 3) 275 52 [xr 14 0, xr 0 0, xi c, xi (n : Int), xi (i : Int), xi (j : Int), xr 0 0, xr 0 0] [] (rS W F L) = Xf (d + 3) 275 43 [xr 14 0, xr 0 0, xi c, xi (n' : Int), xi ((i + 1 : Nat) : Int), xr 0 0, xr 0 0, xr 0 0] [] (rS W F' L') := by
  have eN : ∀ F L, (rS W F L) 14 0 9 = (N : Int) := fun F L => hN
  have last : ∀ (j n : Nat) (F H L : Nat → Int), j = N → BI (fun v => v < N) (rbE W B N c) N N b F H L n i j → i < n → ∃ (F' H' L' : Nat → Int) (n' : Nat), BI (fun v => v < N) (rbE W B N c) N N b F' H' L' n' (i + 1) 0 ∧ Xf (d + 3) 275 52 [xr 14 0, xr 0 0, xi c, xi (n : Int), xi (i : Int), xi (j : Int), xr 0 0, xr 0 0] [] (rS W F L) = Xf (d + 3) 275 43 [xr 14 0, xr 0 0, xi c, xi (n' : Int), xi ((i + 1 : Nat) : Int), xr 0 0, xr 0 0, xr 0 0] [] (rS W F' L') := by
    intro j n F H L hj b hi
    subst hj
    have hle := b.le
    have ew : Unit → w32 ((i : Int) + 1) = ((i + 1 : Nat) : Int) := fun _ => by rw [w32_i (by omega) (by omega)]; omega
    exact ⟨F, H, L, n, b.next hi, by rw [s_X12_routeBack_52, eN, if_neg (by omega), ew ()]⟩
  intro m
  induction m with
  | zero =>
    intro j n F H L hm b hi _
    exact last j n F H L (by have := b.1.2.2; omega) b hi
  | succ m ih =>
    intro j n F H L hjm b hi hu
    by_cases hl : j < N
    · obtain ⟨_, uN, f0, f1⟩ := b.at g hi hu
      have hle := b.le
      have eLi : (L i).toNat = u := by omega
      have hskip := fun hs => ih (j + 1) n F H L (by omega) (b.skip g hi hl hs) hi hu
      rw [eLi] at hskip
      have x67 := (x_rb67 d W (c := c) (n := n) (i := i) (t := j) (u := u) (F := F) (L := L) hr hm hN h64 hl (by omega) (fun z => by have := b.room hl z; omega) hu (by omega) (by omega) 8 0 (by omega) (by omega)).2
      have x67' : Xf (d + 3) 275 67 [xr 14 0, xr 0 0, xi c, xi (n : Int), xi (i : Int), xi (j : Int), xi 0, xi 0] [] (rS W F L) = _ := x67
      rw [s_X12_routeBack_52, eN, if_pos (by omega), x67']
      by_cases c1 : ff (rbF W B N c u j) (8 - 0) 0 ≠ -9
      · rw [if_pos c1]
        unfold rbK
        have he : rbE W B N c (L i).toNat j = some j := by
          rw [eLi]; unfold rbE; rw [if_pos ⟨uN, c1⟩]
        by_cases c2 : F j = -9
        · rw [if_pos c2]
          have b' := b.step g hi hl he c2
          rw [eLi] at b'
          exact ih (j + 1) (n + 1) _ _ _ (by omega) b' (by omega) (by rw [zup_ne (by omega)]; exact hu)
        · rw [if_neg c2]
          exact hskip (fun v hv => by have := (rbE_s hv).1; rw [← this]; exact c2)
      · rw [if_neg c1]
        refine hskip (fun v hv => ?_)
        unfold rbE at hv
        rw [if_neg (fun z => c1 z.2)] at hv
        cases hv
    · exact last j n F H L (by have := b.1.2.2; omega) b hi
theorem x_rb43 (d : Nat) (W : XM) {B : Nat → Int} {c : Int} {N b : Nat} (hr : RB W B) (hm : MP W B N) (hN : (W 14 0 9) = (N : Int)) (h64 : N ≤ 64) (g : GE (fun v => v < N) (rbE W B N c) N N b) : ∀ (m i n : Nat) (F H L : Nat → Int), N - i ≤ m → BI (fun v => v < N) (rbE W B N c) N N b F H L n i 0 → ∃ (F' H' L' : Nat → Int) (n' : Nat), BI (fun v => v < N) (rbE W B N c) N N b F' H' L' n' n' 0 ∧ Xf (d + 3) 275 43 [xr 14 0, xr 0 0, xi c, xi (n : Int), xi (i : Int), xr 0 0, xr 0 0, xr 0 0] [] (rS W F L) = some (xi 0, rS W F' L') := by
  intro m
  induction m with
  | zero =>
    intro i n F H L hm b
    have := b.le
    have hin : i = n := by have := b.1.2.1; omega
    subst hin
    exact ⟨F, H, L, i, b, by rw [s_X12_routeBack_43, if_neg (by omega)]⟩
  | succ m ih =>
    intro i n F H L hm' b
    have hle := b.le
    by_cases hi : i < n
    · have x1 := (b.2.1 i hi).1
      obtain ⟨u, hu⟩ : ∃ u : Nat, L i = (u : Int) := ⟨(L i).toNat, by omega⟩
      obtain ⟨F1, H1, L1, n1, b1, q1⟩ := x_rb52 d W (c := c) (u := u) hr hm hN h64 g N 0 n F H L (by omega) b hi hu
      obtain ⟨F2, H2, L2, n2, b2, q2⟩ := ih (i + 1) n1 F1 H1 L1 (by omega) b1
      refine ⟨F2, H2, L2, n2, b2, ?_⟩
      rw [s_X12_routeBack_43, if_pos (by omega), ← q2, ← q1]
      rfl
    · have hin : i = n := by have := b.1.2.1; omega
      subst hin
      exact ⟨F, H, L, i, b, by rw [s_X12_routeBack_43, if_neg (by omega)]⟩
theorem y_routeBack (d : Nat) (W : XM) {B : Nat → Int} (c : Int) {N b : Nat} (hr : RB W B) (hm : MP W B N) (hN : (W 14 0 9) = (N : Int)) (h64 : N ≤ 64) (hb : b < N) : ∃ F L : Nat → Int, (∀ v, v < N → isD (eE (rmE W B N c) 8) v b (F v) ∧ F v ≤ 64) ∧ Yf (d + 4) 275 [xr 14 0, xi (b : Int), xi c] W = some (xi 0, rS W F L) := by
  have g := rb_ge W B c hb
  have b0 := BI.init (F := zup (fil (W 92 0) 0 N (-9)) b 0) (H := fun _ => -9) (L := zup (W 93 0) 0 (b : Int)) g (zup_eq _ _ _) (fun v hv hva => by rw [zup_ne hva]; unfold fil; rw [if_pos (by omega)]) (fun v hv => rfl) (zup_eq _ _ _)
  obtain ⟨F, H, L, n, b', q⟩ := x_rb43 d W hr hm hN h64 g N 0 1 _ _ _ (by omega) b0
  refine ⟨F, L, fun v hv => ⟨isD.rev (fun u v => rb_rm hm u v) (b'.far g hv), ?_⟩, ?_⟩
  · by_cases c : F v = -9
    · omega
    · obtain ⟨p, p1, p2⟩ := b'.2.2.1 v hv c
      have hp := (b'.2.1 p p1).2.2.2.2
      have hle := b'.le
      rw [p2, Int.toNat_natCast] at hp
      omega
  · have := x_rb2 (d + 3) W c hN h64 hb N 0 (W 92 0) (W 93 0) (by omega) (by omega) (by omega)
    rw [rS_self] at this
    rw [s_X12_routeBack, this, ← q]
    rfl
