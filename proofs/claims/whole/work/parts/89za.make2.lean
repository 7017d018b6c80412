/-! make: the class -/
def exF (V : XM) (t k : Nat) : Int := (V 96 0 (8 * t + k))
theorem x_ar2 (d : Nat) (V : XM) (h : Inv V) {t : Nat} (ht : (t : Int) < (V 14 0 9)) (l : List Int) (hl : l.length + 8 ≤ 1490) : ∀ (m k : Nat), 8 - k ≤ m → k ≤ 8 → Xf (d + 1) 179 2 [xr 2 0, xi (t : Int), xi (k : Int)] [] (aS V (weA (exF V t) l k)) = some (xi 0, aS V (weA (exF V t) l 8)) := by
  have t2 : (V 14 0 9) ≤ 64 := h.1.2.2.2.2.2.2.2.1
  intro m
  induction m with
  | zero =>
    intro k hm hk
    have : k = 8 := by omega
    subst this
    rw [s_X11_addWordsOfRoom_2, if_neg (by omega)]
  | succ m ih =>
    intro k hm hk
    by_cases hlt : k < 8
    · have ih := ih (k + 1) (by omega) (by omega)
      have hlen := weA_len (exF V t) l k
      have e58 : ∀ l, (aS V l) 58 0 ((8 * (t : Int) + (k : Int)).toNat) = exF V t k := fun l => by
        have := (y_pass d V h (u := t) (k := k) 0 ht hlt).2
        show V 58 0 ((8 * (t : Int) + (k : Int)).toNat) = _
        rw [show (8 * (t : Int) + (k : Int)).toNat = 8 * t + k by omega]
        exact this
      have wk' : Unit → w32 ((k : Int) + 1) = ((k + 1 : Nat) : Int) := fun _ => by rw [w32_i (by omega) (by omega)]; omega
      rw [s_X11_addWordsOfRoom_2, if_pos (by omega), y_leadsTo _ _ (by omega) (by omega), ci_r, e58, y_addW _ V _ _ (by omega), cv_r, wk' (), ← ih]
      rfl
    · have : k = 8 := by omega
      subst this
      rw [s_X11_addWordsOfRoom_2, if_neg (by omega)]
def smN (f : Nat → Int) : Nat → Int
  | 0 => 0
  | t + 1 => smN f t + f t
def ccF (V : XM) (r : Int) (t : Nat) : Int := cnt (bt (lAnd (V 55 0 ((64 * r + t).toNat)) (lXor (lShl 1 (t : Int)) (-1)))) 64
theorem smN_b {f : Nat → Int} (h : ∀ t, 0 ≤ f t ∧ f t ≤ 64) : ∀ t : Nat, 0 ≤ smN f t ∧ smN f t ≤ 64 * t := by
  intro t
  induction t with
  | zero => exact ⟨Int.le_refl _, Int.le_refl _⟩
  | succ t ih =>
    have := h t
    show 0 ≤ smN f t + f t ∧ smN f t + f t ≤ 64 * ((t + 1 : Nat) : Int)
    omega
theorem ccF_b (V : XM) (r : Int) (t : Nat) : 0 ≤ ccF V r t ∧ ccF V r t ≤ 64 := cnt_b _ 64
theorem x_cc4 (d : Nat) (V : XM) {r N : Nat} (hr : r < 8) (hN : (V 4 0 7) = (N : Int)) (h64 : N ≤ 64) : ∀ (m t : Nat), N - t ≤ m → t ≤ N → Xf (d + 1) 48 4 [xr 10 0, xi (r : Int), xi (smN (ccF V (r : Int)) t), xi (t : Int)] [] V = some (xi (smN (ccF V (r : Int)) N), V) := by
  intro m
  induction m with
  | zero =>
    intro t hm ht
    have : t = N := by omega
    subst this
    rw [s_X2_couples_4, hN, if_neg (by omega)]
  | succ m ih =>
    intro t hm ht
    by_cases hlt : t < N
    · have ih := ih (t + 1) (by omega) (by omega)
      have b1 := smN_b (ccF_b V (r : Int)) t
      have b2 := ccF_b V (r : Int) t
      have e : Unit → w32 (w32 ((r : Int) * 64) + (t : Int)) = 64 * (r : Int) + (t : Int) := fun _ => by rw [w32_add, w32_i (by omega) (by omega)]; omega
      have wt : Unit → w32 ((t : Int) + 1) = ((t + 1 : Nat) : Int) := fun _ => by rw [w32_i (by omega) (by omega)]; omega
      have es : smN (ccF V (r : Int)) (t + 1) = smN (ccF V (r : Int)) t + ccF V (r : Int) t := rfl
      rw [s_X2_couples_4, hN, if_pos (by omega), s_X2_rowOf, e (), if_pos (by omega), cl_r, s_X11_bit, cl_r, y_bits, ci_r, wt (), ← ih, es]
      have ew : w32 (smN (ccF V (r : Int)) t + ccF V (r : Int) t) = smN (ccF V (r : Int)) t + ccF V (r : Int) t := w32_i (by omega) (by omega)
      rw [← ew]
      rfl
    · have : t = N := by omega
      subst this
      rw [s_X2_couples_4, hN, if_neg (by omega)]
theorem y_cc (d : Nat) (V : XM) {r N : Nat} (hr : r < 8) (hN : (V 4 0 7) = (N : Int)) (h64 : N ≤ 64) : Yf (d + 2) 48 [xr 10 0, xi (r : Int)] V = some (xi (smN (ccF V (r : Int)) N), V) := by
  rw [s_X2_couples]
  exact x_cc4 d V hr hN h64 N 0 (by omega) (by omega)
def kcF (V : XM) (N r : Nat) : Int := smN (ccF V (r : Int)) N
theorem x_mk111 (d : Nat) (V : XM) (h : Inv V) {N Q : Nat} (hN : (V 14 0 9) = (N : Int)) (hQ : (V 14 0 29) = (Q : Int)) (l : List Int) (hl : l.length + 16 ≤ 1490) : ∀ (m r : Nat), Q - r ≤ m → r ≤ Q → Xf (d + 2) 176 111 [xr 2 0, xi (r : Int)] [] (aS V (wcA (V 90 0) (kcF V N) l r)) = some (xi ((l.length + 2 * Q : Nat) : Int), aS V (wcA (V 90 0) (kcF V N) l Q)) := by
  obtain ⟨⟨ck1, ck2, ck3, cp1, cp2, cp3, ct1, ct2, ct3, cs1, cs2, cs3, cq1, cq2, cq3, cr1, cr2, cr3, cf1, cf2, cf3, cb1, cb2, cb3, cw1, cw2, cw3, clf, clc⟩, hkin, hpro, husu, hgiv, hthg, hhom, hput, hrin, hsen, hbar, hset, hmos, hpai, hrel, hmap, hdoo, hshe, htab, hwor⟩ := h
  have e10 : ∀ l, (aS V l) 10 0 6 = (Q : Int) := fun l => by show V 10 0 6 = _; omega
  have e2 : ∀ l, (aS V l) 2 0 14 = (l.length : Int) := fun l => rfl
  have last : Xf (d + 2) 176 111 [xr 2 0, xi (Q : Int)] [] (aS V (wcA (V 90 0) (kcF V N) l Q)) = some (xi ((l.length + 2 * Q : Nat) : Int), aS V (wcA (V 90 0) (kcF V N) l Q)) := by
    rw [s_X11_make_111, e10, if_neg (by omega), e2, wcA_len]
  intro m
  induction m with
  | zero =>
    intro r hm hr
    have : r = Q := by omega
    subst this
    exact last
  | succ m ih =>
    intro r hm hr
    by_cases hlt : r < Q
    · have ih := ih (r + 1) (by omega) (by omega)
      have hlen := wcA_len (V 90 0) (kcF V N) l r
      obtain ⟨f1, _⟩ := hrel.2.1 (r : Int) (by omega) (by omega)
      rw [Int.toNat_natCast] at f1
      have e54 : ∀ l, (aS V l) 54 0 r = (V 90 0 r) := fun l => f1
      have F1 : ∀ l, Yf (d + 2) 48 [xr 10 0, xi (r : Int)] (aS V l) = some (xi (kcF V N r), aS V l) := fun l => y_cc d (aS V l) (by omega) (by show V 4 0 7 = _; omega) (by omega)
      have wr : Unit → w32 ((r : Int) + 1) = ((r + 1 : Nat) : Int) := fun _ => by rw [w32_i (by omega) (by omega)]; omega
      have l1 : (wcA (V 90 0) (kcF V N) l r ++ [(V 90 0 r)]).length = l.length + 2 * r + 1 := by rw [List.length_append, hlen]; rfl
      rw [s_X11_make_111, e10, if_pos (by omega), if_pos (by omega), Int.toNat_natCast, e54, y_addW _ V _ _ (by omega), cv_r, F1, ci_r, y_addW _ V _ _ (by omega), cv_r, wr (), ← ih]
      rfl
    · have : r = Q := by omega
      subst this
      exact last
theorem x_mk76 (d : Nat) (V : XM) (h : Inv V) {N : Nat} (hN : (V 14 0 9) = (N : Int)) (l : List Int) (hl : l.length + 512 ≤ 1490) : ∀ (m t : Nat), N - t ≤ m → t ≤ N → Xf (d + 3) 176 76 [xr 2 0, xi (t : Int)] [] (aS V (wrA (V 21 0) (exF V) l t)) = Xf (d + 3) 176 111 [xr 2 0, xi 0] [] (aS V (wrA (V 21 0) (exF V) l N)) := by
  have t2 : (V 14 0 9) ≤ 64 := h.1.2.2.2.2.2.2.2.1
  have t3 : (V 4 0 7) = (V 14 0 9) := h.1.2.2.2.2.2.2.2.2.1
  have e4 : ∀ l, (aS V l) 4 0 7 = (N : Int) := fun l => by show V 4 0 7 = _; omega
  intro m
  induction m with
  | zero =>
    intro t hm ht
    have : t = N := by omega
    subst this
    rw [s_X11_make_76, e4, if_neg (by omega)]
  | succ m ih =>
    intro t hm ht
    by_cases hlt : t < N
    · have ih := ih (t + 1) (by omega) (by omega)
      have hlen := wrA_len (V 21 0) (exF V) l t
      have F1 : ∀ l, Yf (d + 3) 93 [xr 4 0, xi (t : Int)] (aS V l) = some (xi (b2 ((V 21 0 t) = 1)), aS V l) := fun l => by
        have := y_cRoom (d + 1) (aS V l) (t : Int) (by rw [e4]; omega)
        rw [this]
        refine someb ?_
        rw [e4]
        show (0 ≤ (t : Int) ∧ (t : Int) < (N : Int) ∧ V 21 0 ((t : Int).toNat) = 1) ↔ _
        rw [Int.toNat_natCast]
        exact ⟨fun z => z.2.2, fun z => ⟨by omega, by omega, z⟩⟩
      have F2 : ∀ l : List Int, l.length + 8 ≤ 1490 → Yf (d + 3) 179 [xr 2 0, xi (t : Int)] (aS V l) = some (xi 0, aS V (weA (exF V t) l 8)) := fun l hl => by
        rw [s_X11_addWordsOfRoom]
        exact x_ar2 (d + 1) V h (by omega) l hl 8 0 (by omega) (by omega)
      have wt : Unit → w32 ((t : Int) + 1) = ((t + 1 : Nat) : Int) := fun _ => by rw [w32_i (by omega) (by omega)]; omega
      have es : wrA (V 21 0) (exF V) l (t + 1) = if (V 21 0 t) = 1 then weA (exF V t) (wrA (V 21 0) (exF V) l t) 8 else wrA (V 21 0) (exF V) l t := rfl
      rw [s_X11_make_76, e4, if_pos (by omega), F1, ci_r, ite_b2, wt (), ← ih, es]
      by_cases c : (V 21 0 t) = 1
      · rw [if_pos c, if_pos c, F2 _ (by omega), cv_r]
      · rw [if_neg c, if_neg c]
    · have : t = N := by omega
      subst this
      rw [s_X11_make_76, e4, if_neg (by omega)]
theorem x_mk52 (d : Nat) (V : XM) (h : Inv V) {N P : Nat} (hN : (V 14 0 9) = (N : Int)) (hP : (V 14 0 3) = (P : Int)) (l : List Int) (hl : l.length = 2) : ∀ (m t : Nat), N - t ≤ m → t ≤ N → Xf (d + 4) 176 52 [xr 2 0, xi (t : Int)] [] (aS V (wtA P (V 73 0) (plF V) (V 74 0) (pvF V) l t)) = Xf (d + 4) 176 76 [xr 2 0, xi 0] [] (aS V (wtA P (V 73 0) (plF V) (V 74 0) (pvF V) l N)) := by
  have t2 : (V 14 0 9) ≤ 64 := h.1.2.2.2.2.2.2.2.1
  have t3 : (V 4 0 7) = (V 14 0 9) := h.1.2.2.2.2.2.2.2.2.1
  have p2 : (V 14 0 3) ≤ 12 := h.1.2.2.2.2.1
  have e4 : ∀ l, (aS V l) 4 0 7 = (N : Int) := fun l => by show V 4 0 7 = _; omega
  intro m
  induction m with
  | zero =>
    intro t hm ht
    have : t = N := by omega
    subst this
    rw [s_X11_make_52, e4, if_neg (by omega)]
  | succ m ih =>
    intro t hm ht
    by_cases hlt : t < N
    · have ih := ih (t + 1) (by omega) (by omega)
      have hlen := wtA_len (P := P) (by omega) (V 73 0) (plF V) (V 74 0) (pvF V) l t
      have wt : Unit → w32 ((t : Int) + 1) = ((t + 1 : Nat) : Int) := fun _ => by rw [w32_i (by omega) (by omega)]; omega
      rw [s_X11_make_52, e4, if_pos (by omega), y_awT d V h (by omega) hP _ (by omega), cv_r, wt (), ← ih]
      rfl
    · have : t = N := by omega
      subst this
      rw [s_X11_make_52, e4, if_neg (by omega)]
def hasR (B : Nat → Int) (N : Nat) : Prop := ff (fun t => decide (B t = 1)) N 0 ≠ -9
theorem y_haveRoom (d : Nat) (V : XM) {N : Nat} (hN : (V 4 0 7) = (N : Int)) (h64 : N ≤ 64) : (hasR (V 21 0) N → Yf (d + 1) 94 [xr 4 0] V = some (xi 1, V)) ∧ (¬ hasR (V 21 0) N → Yf (d + 1) 94 [xr 4 0] V = some (xi 0, V)) := by
  have hx := loop_find (F := fun l => Xf d 94 2 [xr 4 0, xi l] [] V) (f := fun t => decide ((V 21 0 t) = 1)) (A := fun _ => some (xi 1, V)) (Z := some (xi 0, V)) (N := (N : Int)) (fun l h0 h1 => by
    show Xf d 94 2 [xr 4 0, xi l] [] V = if _ then (if _ then _ else Xf d 94 2 [xr 4 0, xi (l + 1)] [] V) else _
    rw [s_X8_haveRoom_2, hN]
    simp only [decide_eq_true_eq]
    by_cases hl : l < (N : Int)
    · rw [if_pos hl, if_pos hl, if_pos (by omega), w32_i (by omega) (by omega)]
    · rw [if_neg hl, if_neg hl]) N 0 (by omega) (by omega) (by omega)
  have hx' : Xf d 94 2 [xr 4 0, xi 0] [] V = if ff (fun t => decide ((V 21 0 t) = 1)) N 0 = -9 then some (xi 0, V) else some (xi 1, V) := hx
  rw [s_X8_haveRoom, hx']
  unfold hasR
  exact ⟨fun k => if_neg k, fun k => if_pos (Classical.not_not.mp k)⟩
/-- all words -/
def mkL (V : XM) (B K : Nat → Int) (N P Q : Nat) : List Int := wcA (V 90 0) K (wrA B (exF V) (wtA P (V 73 0) (plF V) (V 74 0) (pvF V) [(V 14 0 1), (V 14 0 9)] N) N) Q
theorem c_make (d : Nat) (V : XM) (h : Inv V) {N P Q : Nat} (hN : (V 14 0 9) = (N : Int)) (hP : (V 14 0 3) = (P : Int)) (hQ : (V 14 0 29) = (Q : Int)) : (¬ hasR (V 21 0) N → Yf (d + 30) 176 [xr 2 0] V = some (xi (-3), V)) ∧ (hasR (V 21 0) N → 0 < cnt (unsB V) N → Yf (d + 30) 176 [xr 2 0] V = some (xi (-3), V)) ∧ (hasR (V 21 0) N → ¬ 0 < cnt (unsB V) N → (mkL V (V 21 0) (kcF V N) N P Q).length ≤ 1490 ∧ Yf (d + 30) 176 [xr 2 0] V = some (xi ((mkL V (V 21 0) (kcF V N) N P Q).length : Int), aS V (mkL V (V 21 0) (kcF V N) N P Q))) := by
  have t2 : (V 14 0 9) ≤ 64 := h.1.2.2.2.2.2.2.2.1
  have t3 : (V 4 0 7) = (V 14 0 9) := h.1.2.2.2.2.2.2.2.2.1
  have k3 : (V 3 0 1) = (V 14 0 1) := h.1.2.2.1
  have p2 : (V 14 0 3) ≤ 12 := h.1.2.2.2.2.1
  have r2 : (V 14 0 29) ≤ 8 := h.1.2.2.2.2.2.2.2.2.2.2.2.2.2.2.2.2.1
  obtain ⟨R1, R0⟩ := y_haveRoom (d + 28) V (N := N) (by omega) (by omega)
  have U := y_cUnsettled (d + 26) V h
  rw [show (V 14 0 9).toNat = N by omega] at U
  refine ⟨fun k => ?_, fun k u => ?_, fun k u => ?_⟩
  · rw [s_X11_make, R0 k, ci_r, if_pos rfl]
  · rw [s_X11_make, R1 k, ci_r, if_neg (by omega), U, ci_r, if_pos u]
  · have lt := wtA_len (P := P) (by omega) (V 73 0) (plF V) (V 74 0) (pvF V) [(V 14 0 1), (V 14 0 9)] N
    have l2 : [(V 14 0 1), (V 14 0 9)].length = 2 := rfl
    have lr := wrA_len (V 21 0) (exF V) (wtA P (V 73 0) (plF V) (V 74 0) (pvF V) [(V 14 0 1), (V 14 0 9)] N) N
    have lc := wcA_len (V 90 0) (kcF V N) (wrA (V 21 0) (exF V) (wtA P (V 73 0) (plF V) (V 74 0) (pvF V) [(V 14 0 1), (V 14 0 9)] N) N) Q
    refine ⟨by show (wcA _ _ _ _).length ≤ 1490; omega, ?_⟩
    have e0 : xu V 2 0 14 0 = aS V [] := by
      funext a b c
      show (if a = 2 ∧ b = 0 ∧ c = 14 then 0 else V a b c) = (if a = 2 ∧ b = 0 ∧ c = 14 then 0 else if a = 18 ∧ b = 0 then V 18 0 c else V a b c)
      by_cases c1 : a = 2 ∧ b = 0 ∧ c = 14
      · rw [if_pos c1, if_pos c1]
      · rw [if_neg c1, if_neg c1]
        by_cases c2 : a = 18 ∧ b = 0
        · rw [if_pos c2, c2.1, c2.2]
        · rw [if_neg c2]
    have e4 : ∀ l, (aS V l) 4 0 7 = (V 14 0 9) := fun l => t3
    have x1 := x_mk52 (d + 25) V h hN hP [(V 14 0 1), (V 14 0 9)] rfl N 0 (by omega) (by omega)
    have x2 := x_mk76 (d + 26) V h hN (wtA P (V 73 0) (plF V) (V 74 0) (pvF V) [(V 14 0 1), (V 14 0 9)] N) (by omega) N 0 (by omega) (by omega)
    have x3 := x_mk111 (d + 27) V h hN hQ (wrA (V 21 0) (exF V) (wtA P (V 73 0) (plF V) (V 74 0) (pvF V) [(V 14 0 1), (V 14 0 9)] N) N) (by omega) Q 0 (by omega) (by omega)
    have x1' : Xf (d + 29) 176 52 [xr 2 0, xi 0] [] (aS V [(V 14 0 1), (V 14 0 9)]) = Xf (d + 29) 176 76 [xr 2 0, xi 0] [] (aS V (wtA P (V 73 0) (plF V) (V 74 0) (pvF V) [(V 14 0 1), (V 14 0 9)] N)) := x1
    have x2' : Xf (d + 29) 176 76 [xr 2 0, xi 0] [] (aS V (wtA P (V 73 0) (plF V) (V 74 0) (pvF V) [(V 14 0 1), (V 14 0 9)] N)) = Xf (d + 29) 176 111 [xr 2 0, xi 0] [] (aS V (wrA (V 21 0) (exF V) (wtA P (V 73 0) (plF V) (V 74 0) (pvF V) [(V 14 0 1), (V 14 0 9)] N) N)) := x2
    have x3' : Xf (d + 29) 176 111 [xr 2 0, xi 0] [] (aS V (wrA (V 21 0) (exF V) (wtA P (V 73 0) (plF V) (V 74 0) (pvF V) [(V 14 0 1), (V 14 0 9)] N) N)) = some (xi (((wrA (V 21 0) (exF V) (wtA P (V 73 0) (plF V) (V 74 0) (pvF V) [(V 14 0 1), (V 14 0 9)] N) N).length + 2 * Q : Nat) : Int), aS V (mkL V (V 21 0) (kcF V N) N P Q)) := x3
    rw [s_X11_make, R1 k, ci_r, if_neg (by omega), U, ci_r, if_neg u, e0, k3, y_addW _ V _ _ (by show 0 < 1490; omega), cv_r, e4, y_addW _ V _ _ (by show 1 < 1490; omega), cv_r, List.nil_append]
    show Xf (d + 29) 176 52 [xr 2 0, xi 0] [] (aS V [(V 14 0 1), (V 14 0 9)]) = _
    rw [x1', x2', x3']
    have : (mkL V (V 21 0) (kcF V N) N P Q).length = (wrA (V 21 0) (exF V) (wtA P (V 73 0) (plF V) (V 74 0) (pvF V) [(V 14 0 1), (V 14 0 9)] N) N).length + 2 * Q := lc
    rw [this]
