/-! make: the reference -/
def bS (V : XM) (l : List Int) : XM := fun a b c => if a = 14 ∧ b = 0 ∧ c = 56 then (l.length : Int) else if a = 113 ∧ b = 0 then (l[c]?).getD (V 113 0 c) else V a b c
theorem y_addR (d : Nat) (V : XM) (l : List Int) (x : Int) (h : l.length < 2048) : Yf (d + 1) 300 [xr 14 0, xi x] (bS V l) = some (xi 0, bS V (l ++ [x])) := by
  have e0 : (bS V l) 14 0 56 = (l.length : Int) := rfl
  rw [s_X12_add, e0, if_pos (by omega), w32_i (by omega) (by omega), Int.toNat_natCast]
  congr 2
  funext a b c
  show (if a = 14 ∧ b = 0 ∧ c = 56 then (l.length : Int) + 1 else if a = 113 ∧ b = 0 ∧ c = l.length then x else if a = 14 ∧ b = 0 ∧ c = 56 then (l.length : Int) else if a = 113 ∧ b = 0 then (l[c]?).getD (V 113 0 c) else V a b c) = (if a = 14 ∧ b = 0 ∧ c = 56 then ((l ++ [x]).length : Int) else if a = 113 ∧ b = 0 then ((l ++ [x])[c]?).getD (V 113 0 c) else V a b c)
  rw [app_get, List.length_append]
  have e1 : ((l.length + [x].length : Nat) : Int) = (l.length : Int) + 1 := by show ((l.length + 1 : Nat) : Int) = _; omega
  rw [e1]
  (repeat' split) <;> first | rfl | (exfalso; omega)
theorem x_m112 (d : Nat) (V : XM) {B : Nat → Int} (hb : RB V B) {t P : Nat} (ht : (t : Int) < (V 14 0 9)) (hP : (V 14 0 3) = (P : Int)) (hP2 : P ≤ 12) (l : List Int) (hl : l.length + 12 ≤ 2048) : ∀ (m q : Nat), P - q ≤ m → q ≤ P → Xf (d + 2) 301 112 [xr 14 0, xr 0 0, xi (t : Int), xi (q : Int), xr 0 0] [] (bS V (wpA (pvF V t) l q)) = Xf (d + 2) 301 73 [xr 14 0, xr 0 0, xi ((t + 1 : Nat) : Int), xr 0 0, xr 0 0] [] (bS V (wpA (pvF V t) l P)) := by
  obtain ⟨hp, t1, t2, hth⟩ := id hb
  obtain ⟨a1, a2, _⟩ := hth (t : Int) (by omega) ht
  rw [Int.toNat_natCast] at a1 a2
  have e3 : ∀ l, (bS V l) 14 0 3 = (P : Int) := fun l => hP
  have e73 : ∀ l, (bS V l) 73 0 t = (V 73 0 t) := fun l => rfl
  have wt : Unit → w32 ((t : Int) + 1) = ((t + 1 : Nat) : Int) := fun _ => by rw [w32_i (by omega) (by omega)]; omega
  intro m
  induction m with
  | zero =>
    intro q hm hq
    have : q = P := by omega
    subst this
    rw [s_X12_make_112, e3, if_neg (by omega), wt ()]
  | succ m ih =>
    intro q hm hq
    by_cases hlt : q < P
    · have hlen := wpA_len (pvF V t) l q
      have ih := ih (q + 1) (by omega) (by omega)
      have e68 : ∀ l, (bS V l) 68 0 q = (V 68 0 q) := fun l => rfl
      have F1 : ∀ l, Yf (d + 2) 194 [xr 14 0, xi (V 73 0 t), xi (V 68 0 q)] (bS V l) = some (xi (b2 (kfit (V 67 0) (V 73 0 t) (V 68 0 q) = true)), bS V l) := fun l => y_comesTo (d + 1) (bS V l) (N := (V 14 0 1)) (by exact hp) _ _ a1 a2
      have F2 : ∀ l, Yf (d + 2) 224 [xr 14 0, xi (t : Int), xi (q : Int)] (bS V l) = some (xl (valueF V (t : Int) (q : Int)), bS V l) := fun l => y_rval (d + 1) (bS V l) (B := B) (by exact hb) (by omega) (by exact ht) (by omega) (by omega)
      have wq : Unit → w32 ((q : Int) + 1) = ((q + 1 : Nat) : Int) := fun _ => by rw [w32_i (by omega) (by omega)]; omega
      rw [s_X12_make_112, e3, if_pos (by omega), if_pos (by omega), if_pos (by omega), Int.toNat_natCast, Int.toNat_natCast, e73, e68, F1, ci_r, ite_b2, wq (), ← ih, wpA_s]
      by_cases c : kfit (V 67 0) (V 73 0 t) (V 68 0 q) = true
      · have ep : pvF V t q = some (w32 (valueF V (t : Int) (q : Int))) := by unfold pvF; rw [if_pos c]
        rw [if_pos c, F2, cl_r, y_addR _ V _ _ (by omega), cv_r, ep]
      · have ep : pvF V t q = none := by unfold pvF; rw [if_neg c]
        rw [if_neg c, ep]
    · have : q = P := by omega
      subst this
      rw [s_X12_make_112, e3, if_neg (by omega), wt ()]
theorem x_m73 (d : Nat) (V : XM) {B : Nat → Int} (hb : RB V B) {N P : Nat} (hN : (V 14 0 9) = (N : Int)) (hP : (V 14 0 3) = (P : Int)) (hP2 : P ≤ 12) (l : List Int) (hl : l.length = 2) : ∀ (m t : Nat), N - t ≤ m → t ≤ N → Xf (d + 2) 301 73 [xr 14 0, xr 0 0, xi (t : Int), xr 0 0, xr 0 0] [] (bS V (wtA P (V 73 0) (plF V) (V 74 0) (pvF V) l t)) = Xf (d + 2) 301 164 [xr 14 0, xr 0 0, xi 0, xr 0 0, xr 0 0] [] (bS V (wtA P (V 73 0) (plF V) (V 74 0) (pvF V) l N)) := by
  obtain ⟨_, t1, t2, _⟩ := id hb
  have e9 : ∀ l, (bS V l) 14 0 9 = (N : Int) := fun l => hN
  intro m
  induction m with
  | zero =>
    intro t hm ht
    have : t = N := by omega
    subst this
    rw [s_X12_make_73, e9, if_neg (by omega)]
  | succ m ih =>
    intro t hm ht
    by_cases hlt : t < N
    · have ih := ih (t + 1) (by omega) (by omega)
      have hlen := wtA_len hP2 (V 73 0) (plF V) (V 74 0) (pvF V) l t
      generalize hL : wtA P (V 73 0) (plF V) (V 74 0) (pvF V) l t = L at *
      have e73 : ∀ l, (bS V l) 73 0 t = (V 73 0 t) := fun l => rfl
      have e74 : ∀ l, (bS V l) 74 0 t = (V 74 0 t) := fun l => rfl
      have F1 : ∀ l, Yf (d + 2) 215 [xr 14 0, xi (t : Int)] (bS V l) = some (xi (plF V t), bS V l) := fun l => by
        have := y_placeOf (d + 1) (bS V l) (t := (t : Int)) (by omega) (by omega)
        rw [this]
        show some (xi (if V 80 0 ((t : Int).toNat) = 0 then -9 else V 78 0 ((6 * (t : Int)).toNat)), bS V l) = _
        rw [Int.toNat_natCast, show (6 * (t : Int)).toNat = 6 * t by omega]
        rfl
      have l1 : (L ++ [(V 73 0 t)]).length = L.length + 1 := by rw [List.length_append]; rfl
      have l2 : (L ++ [(V 73 0 t)] ++ [plF V t]).length = L.length + 2 := by rw [List.length_append, l1]; rfl
      have l3 : (L ++ [(V 73 0 t)] ++ [plF V t] ++ [(V 74 0 t)]).length = L.length + 3 := by rw [List.length_append, l2]; rfl
      have hx := x_m112 d V hb (t := t) (by omega) hP hP2 (L ++ [(V 73 0 t)] ++ [plF V t] ++ [(V 74 0 t)]) (by omega) P 0 (by omega) (by omega)
      have hx' : Xf (d + 2) 301 112 [xr 14 0, xr 0 0, xi (t : Int), xi 0, xr 0 0] [] (bS V (L ++ [(V 73 0 t)] ++ [plF V t] ++ [(V 74 0 t)])) = Xf (d + 2) 301 73 [xr 14 0, xr 0 0, xi ((t + 1 : Nat) : Int), xr 0 0, xr 0 0] [] (bS V (wpA (pvF V t) (L ++ [(V 73 0 t)] ++ [plF V t] ++ [(V 74 0 t)]) P)) := hx
      rw [s_X12_make_73, e9, if_pos (by omega), if_pos (by omega), Int.toNat_natCast, e73, y_addR _ V _ _ (by omega), cv_r, F1, ci_r, y_addR _ V _ _ (by omega), cv_r, if_pos (by omega), e74, y_addR _ V _ _ (by omega), cv_r, hx', ← ih, ← hL]
      rfl
    · have : t = N := by omega
      subst this
      rw [s_X12_make_73, e9, if_neg (by omega)]
theorem x_m174 (d : Nat) (V : XM) {B : Nat → Int} (hb : RB V B) {t N : Nat} (hN : (V 14 0 9) = (N : Int)) (ht : t < N) (hB : B t = 1) (he : ∀ k, k < 8 → (V 95 0 (8 * t + k)) = 0 → (V 96 0 (8 * t + k)) = -9) (l : List Int) (hl : l.length + 8 ≤ 2048) : ∀ (m k : Nat), 8 - k ≤ m → k ≤ 8 → Xf (d + 4) 301 174 [xr 14 0, xr 0 0, xi (t : Int), xi (k : Int), xr 0 0] [] (bS V (weA (exF V t) l k)) = Xf (d + 4) 301 164 [xr 14 0, xr 0 0, xi ((t + 1 : Nat) : Int), xr 0 0, xr 0 0] [] (bS V (weA (exF V t) l 8)) := by
  obtain ⟨_, t1, t2, _⟩ := id hb
  have wt : Unit → w32 ((t : Int) + 1) = ((t + 1 : Nat) : Int) := fun _ => by rw [w32_i (by omega) (by omega)]; omega
  have F1 : ∀ e l, Yf (e + 3) 268 [xr 14 0, xi (t : Int)] (bS V l) = some (xi (b2 (0 ≤ (t : Int) ∧ (t : Int) < (V 14 0 9) ∧ B ((t : Int).toNat) = 1)), bS V l) := fun e l => y_rRoom e (bS V l) (B := B) (by exact hb) (t : Int)
  have hR : 0 ≤ (t : Int) ∧ (t : Int) < (V 14 0 9) ∧ B ((t : Int).toNat) = 1 := ⟨by omega, by omega, by rw [Int.toNat_natCast]; exact hB⟩
  intro m
  induction m with
  | zero =>
    intro k hm hk
    have : k = 8 := by omega
    subst this
    rw [s_X12_make_174, if_neg (by omega), wt ()]
  | succ m ih =>
    intro k hm hk
    by_cases hlt : k < 8
    · have ih := ih (k + 1) (by omega) (by omega)
      have hlen := weA_len (exF V t) l k
      have wk' : Unit → w32 ((k : Int) + 1) = ((k + 1 : Nat) : Int) := fun _ => by rw [w32_i (by omega) (by omega)]; omega
      have wi : Unit → w32 (w32 (8 * (t : Int)) + (k : Int)) = ((8 * t + k : Nat) : Int) := fun _ => by rw [w32_add, w32_i (by omega) (by omega)]; omega
      have F2 : ∀ l, Yf (d + 4) 272 [xr 14 0, xi (t : Int), xi (k : Int)] (bS V l) = some (xi (exF V t k), bS V l) := fun l => by
        have e95 : (bS V l) 95 0 (8 * t + k) = (V 95 0 (8 * t + k)) := rfl
        have e96 : (bS V l) 96 0 (8 * t + k) = (V 96 0 (8 * t + k)) := rfl
        rw [s_X12_leads, F1, ci_r, ite_b2, if_pos hR, y_in, ci_r, ite_b2, if_pos (by omega), wi (), if_pos (by omega), Int.toNat_natCast, e95, e96]
        unfold exF
        by_cases c : (V 95 0 (8 * t + k)) = 0
        · rw [if_pos c, he k hlt c]
        · rw [if_neg c, if_pos (by omega)]
      rw [s_X12_make_174, if_pos (by omega), F1, ci_r, ite_b2, if_pos hR, F2, ci_r, y_addR _ V _ _ (by omega), cv_r, wk' (), ← ih]
      rfl
    · have : k = 8 := by omega
      subst this
      rw [s_X12_make_174, if_neg (by omega), wt ()]
theorem x_m164 (d : Nat) (V : XM) {B : Nat → Int} (hb : RB V B) {N : Nat} (hN : (V 14 0 9) = (N : Int)) (he : ∀ t k, t < N → k < 8 → (V 95 0 (8 * t + k)) = 0 → (V 96 0 (8 * t + k)) = -9) (l : List Int) (hl : l.length + 512 ≤ 2048) : ∀ (m t : Nat), N - t ≤ m → t ≤ N → Xf (d + 4) 301 164 [xr 14 0, xr 0 0, xi (t : Int), xr 0 0, xr 0 0] [] (bS V (wrA B (exF V) l t)) = Xf (d + 4) 301 212 [xr 14 0, xr 0 0, xi 0, xr 0 0, xr 0 0] [] (bS V (wrA B (exF V) l N)) := by
  obtain ⟨_, t1, t2, _⟩ := id hb
  have e9 : ∀ l, (bS V l) 14 0 9 = (N : Int) := fun l => hN
  intro m
  induction m with
  | zero =>
    intro t hm ht
    have : t = N := by omega
    subst this
    rw [s_X12_make_164, e9, if_neg (by omega)]
  | succ m ih =>
    intro t hm ht
    by_cases hlt : t < N
    · have ih := ih (t + 1) (by omega) (by omega)
      have hlen := wrA_len B (exF V) l t
      have es : wrA B (exF V) l (t + 1) = if B t = 1 then weA (exF V t) (wrA B (exF V) l t) 8 else wrA B (exF V) l t := rfl
      rw [s_X12_make_164, e9, if_pos (by omega), ← ih, es]
      by_cases c : B t = 1
      · have hx := x_m174 d V hb hN hlt c (fun k hk => he t k hlt hk) (wrA B (exF V) l t) (by omega) 8 0 (by omega) (by omega)
        rw [if_pos c]
        exact hx
      · have wt : Unit → w32 ((t : Int) + 1) = ((t + 1 : Nat) : Int) := fun _ => by rw [w32_i (by omega) (by omega)]; omega
        have F1 := y_rRoom (d + 1) (bS V (wrA B (exF V) l t)) (B := B) (by exact hb) (t : Int)
        have hn : ¬ (0 ≤ (t : Int) ∧ (t : Int) < (bS V (wrA B (exF V) l t)) 14 0 9 ∧ B ((t : Int).toNat) = 1) := fun z => c (by have := z.2.2; rw [Int.toNat_natCast] at this; exact this)
        rw [if_neg c, s_X12_make_174, if_pos (by omega), F1, ci_r, ite_b2, if_neg hn, wt ()]
    · have : t = N := by omega
      subst this
      rw [s_X12_make_164, e9, if_neg (by omega)]
/-- rows 91 and 94 are other ones -/
def ovr (V : XM) (A C : Nat → Nat → Int) : XM := fun g b c => if g = 91 then A b c else if g = 94 then C b c else V g b c
theorem bS_ne {V : XM} {A C : Nat → Nat → Int} {L : List Int} {g b c : Nat} (h1 : g ≠ 91) (h2 : g ≠ 94) : (bS (ovr V A C) L) g b c = (bS V L) g b c := by
  have e : (ovr V A C) g b c = V g b c := by unfold ovr; rw [if_neg h1, if_neg h2]
  show (if g = 14 ∧ b = 0 ∧ c = 56 then (L.length : Int) else if g = 113 ∧ b = 0 then (L[c]?).getD (V 113 0 c) else (ovr V A C) g b c) = _
  rw [e]
  rfl
def gcB (N : Nat) (C : Nat → Int) (k : Nat) : Bool := decide (k % 64 < N ∧ C k ≠ 0)
theorem x_m230 (d : Nat) (W : XM) {r N : Nat} {C : Nat → Int} (hr : r < 8) (hN : (W 14 0 9) = (N : Int)) (h64 : N ≤ 64) (hC : ∀ k, W 94 0 k = C k) : ∀ (m k : Nat), 64 * N - k ≤ m → k ≤ 64 * N → Xf d 301 230 [xr 14 0, xr 0 0, xi (r : Int), xi (cnt (gcB N C) k), xi (k : Int)] [] W = Xf d 301 230 [xr 14 0, xr 0 0, xi (r : Int), xi (cnt (gcB N C) (64 * N)), xi ((64 * N : Nat) : Int)] [] W := by
  intro m
  induction m with
  | zero =>
    intro k hm hk
    have : k = 64 * N := by omega
    rw [this]
  | succ m ih =>
    intro k hm hk
    by_cases hlt : k < 64 * N
    · have ih := ih (k + 1) (by omega) (by omega)
      have hb := cnt_b (gcB N C) k
      have wN : Unit → w32 (64 * (N : Int)) = ((64 * N : Nat) : Int) := fun _ => by rw [w32_i (by omega) (by omega)]; omega
      have wk' : Unit → w32 ((k : Int) + 1) = ((k + 1 : Nat) : Int) := fun _ => by rw [w32_i (by omega) (by omega)]; omega
      have tm : Int.tmod (k : Int) 64 = ((k % 64 : Nat) : Int) := rfl
      have es : cnt (gcB N C) (k + 1) = cnt (gcB N C) k + (if gcB N C k = true then 1 else 0) := rfl
      rw [← ih, s_X12_make_230, hN, wN (), if_pos (by omega), tm, es, wk' (), Int.toNat_natCast, hC]
      unfold gcB at hb ⊢
      by_cases c1 : k % 64 < N
      · rw [if_pos (by omega), if_pos (by omega)]
        by_cases c2 : C k = 0
        · rw [if_pos c2, if_neg (by simp [c2]), w32_i (by omega) (by omega)]
        · rw [if_neg c2, if_pos (decide_eq_true ⟨c1, c2⟩), w32_i (by omega) (by omega)]
      · rw [if_neg (by omega), if_neg (by rw [decide_eq_true_eq]; exact fun z => c1 z.1), w32_i (by omega) (by omega)]
    · have : k = 64 * N := by omega
      rw [this]
theorem x_m212 (d : Nat) (V : XM) (hg : GR V) {N Q : Nat} {K : Nat → Int} (hN : (V 14 0 9) = (N : Int)) (hQ : (V 14 0 29) = (Q : Int)) (h8 : Q ≤ 8) (hK : ∀ (r : Nat) (C : Nat → Int), r < Q → (∀ x y : Nat, (x : Int) < (V 14 0 9) → (y : Int) < (V 14 0 9) → v01 (C (64 * x + y)) (rE V (r : Int) x y)) → cnt (gcB N C) (64 * N) = K r) (l : List Int) (hl : l.length + 16 ≤ 2048) : ∀ (m r : Nat) (A C : Nat → Nat → Int), Q - r ≤ m → r ≤ Q → ∃ A' C' : Nat → Nat → Int, Xf (d + 2) 301 212 [xr 14 0, xr 0 0, xi (r : Int), xr 0 0, xr 0 0] [] (bS (ovr V A C) (wcA (V 90 0) K l r)) = some (xi ((l.length + 2 * Q : Nat) : Int), bS (ovr V A' C') (wcA (V 90 0) K l Q)) := by
  obtain ⟨t1, t2, s1, s2, _⟩ := id hg
  have e29 : ∀ A C l, (bS (ovr V A C) l) 14 0 29 = (Q : Int) := fun A C l => hQ
  have e56 : ∀ A C l, (bS (ovr V A C) l) 14 0 56 = (l.length : Int) := fun A C l => rfl
  have last : ∀ A C, ∃ A' C' : Nat → Nat → Int, Xf (d + 2) 301 212 [xr 14 0, xr 0 0, xi (Q : Int), xr 0 0, xr 0 0] [] (bS (ovr V A C) (wcA (V 90 0) K l Q)) = some (xi ((l.length + 2 * Q : Nat) : Int), bS (ovr V A' C') (wcA (V 90 0) K l Q)) := fun A C => ⟨A, C, by
    rw [s_X12_make_212, e29, if_neg (by omega), e56, wcA_len]⟩
  intro m
  induction m with
  | zero =>
    intro r A C hm hr
    have : r = Q := by omega
    subst this
    exact last A C
  | succ m ih =>
    intro r A C hm hr
    by_cases hlt : r < Q
    · have hlen := wcA_len (V 90 0) K l r
      generalize hL : wcA (V 90 0) K l r = L at *
      obtain ⟨W, C1, q1, q2, q3⟩ := y_couples d (bS (ovr V A C) L) (by exact hg) (r := (r : Int)) (by omega)
      have hc := hK r C1 hlt (by exact q2)
      have hW : ∃ A2 C2 : Nat → Nat → Int, xrow W 94 C1 = bS (ovr V A2 C2) L ∧ ∀ k, C2 0 k = C1 k := by
        have key : ∀ (A2 : Nat → Nat → Int), (∀ b c, W 91 b c = A2 b c) → (∀ b c, W 94 b c = C b c) → (∀ g b c, g ≠ 91 → g ≠ 94 → W g b c = (bS V L) g b c) → xrow W 94 C1 = bS (ovr V A2 (fun b c => if b = 0 then C1 c else C b c)) L := by
          intro A2 k1 k2 k3
          funext g b c
          by_cases g91 : g = 91
          · subst g91
            show W 91 b c = A2 b c
            exact k1 b c
          · by_cases g94 : g = 94
            · subst g94
              show (if 94 = 94 ∧ b = 0 then C1 c else W 94 b c) = (if b = 0 then C1 c else C b c)
              by_cases hb : b = 0
              · rw [if_pos ⟨rfl, hb⟩, if_pos hb]
              · rw [if_neg (fun z => hb z.2), if_neg hb, k2]
            · rw [bS_ne g91 g94]
              show (if g = 94 ∧ b = 0 then C1 c else W g b c) = _
              rw [if_neg (fun z => g94 z.1), k3 g b c g91 g94]
        rcases q1 with q | ⟨n, q⟩
        · subst q
          exact ⟨A, fun b c => if b = 0 then C1 c else C b c, key A (fun b c => rfl) (fun b c => rfl) (fun g b c h1 h2 => bS_ne h1 h2), fun k => rfl⟩
        · subst q
          exact ⟨fun b c => (gS (bS (ovr V A C) L) (r : Int) n) 91 b c, fun b c => if b = 0 then C1 c else C b c, key _ (fun b c => rfl) (fun b c => rfl) (fun g b c h1 h2 => by
            show (if g = 91 ∧ b = 0 ∧ _ then _ else (bS (ovr V A C) L) g b c) = _
            rw [if_neg (fun z => h1 z.1)]
            exact bS_ne h1 h2), fun k => rfl⟩
      obtain ⟨A2, C2, w1, w2⟩ := hW
      rw [w1] at q3
      have hx := x_m230 (d + 2) (bS (ovr V A2 C2) L) (r := r) (N := N) (C := C1) (by omega) (by exact hN) (by omega) (fun k => w2 k) (64 * N) 0 (by omega) (by omega)
      have hx' : Xf (d + 2) 301 230 [xr 14 0, xr 0 0, xi (r : Int), xi 0, xi 0] [] (bS (ovr V A2 C2) L) = Xf (d + 2) 301 230 [xr 14 0, xr 0 0, xi (r : Int), xi (K r), xi ((64 * N : Nat) : Int)] [] (bS (ovr V A2 C2) L) := by
        rw [← hc]; exact hx
      have wN : Unit → w32 (64 * (N : Int)) = ((64 * N : Nat) : Int) := fun _ => by rw [w32_i (by omega) (by omega)]; omega
      have wr : Unit → w32 ((r : Int) + 1) = ((r + 1 : Nat) : Int) := fun _ => by rw [w32_i (by omega) (by omega)]; omega
      have e9 : (bS (ovr V A2 C2) L) 14 0 9 = (N : Int) := hN
      have e90 : (bS (ovr V A2 C2) L) 90 0 r = (V 90 0 r) := rfl
      have l1 : (L ++ [(V 90 0 r)]).length = L.length + 1 := by rw [List.length_append]; rfl
      obtain ⟨A3, C3, ih⟩ := ih (r + 1) A2 C2 (by omega) (by omega)
      refine ⟨A3, C3, ?_⟩
      rw [s_X12_make_212, e29, if_pos (by omega), q3, cv_r, hx', s_X12_make_230, e9, wN (), if_neg (by omega), if_pos (by omega), Int.toNat_natCast, e90, y_addR _ _ _ _ (by omega), cv_r, y_addR _ _ _ _ (by omega), cv_r, wr (), ← ih, ← hL]
      rfl
    · have : r = Q := by omega
      subst this
      exact last A C
