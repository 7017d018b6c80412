/-! make: the words -/
def wpA (f : Nat → Option Int) (l : List Int) : Nat → List Int
  | 0 => l
  | q + 1 => match f q with
    | some x => wpA f l q ++ [x]
    | none => wpA f l q
def wtA (P : Nat) (kd pl sz : Nat → Int) (f : Nat → Nat → Option Int) (l : List Int) : Nat → List Int
  | 0 => l
  | t + 1 => wpA (f t) (wtA P kd pl sz f l t ++ [kd t] ++ [pl t] ++ [sz t]) P
def weA (e : Nat → Int) (l : List Int) : Nat → List Int
  | 0 => l
  | d + 1 => weA e l d ++ [e d]
def wrA (B : Nat → Int) (ex : Nat → Nat → Int) (l : List Int) : Nat → List Int
  | 0 => l
  | t + 1 => if B t = 1 then weA (ex t) (wrA B ex l t) 8 else wrA B ex l t
def wcA (fm K : Nat → Int) (l : List Int) : Nat → List Int
  | 0 => l
  | r + 1 => wcA fm K l r ++ [fm r] ++ [K r]
theorem wpA_len (f : Nat → Option Int) (l : List Int) : ∀ q, (wpA f l q).length ≤ l.length + q := by
  intro q
  induction q with
  | zero => exact Nat.le_refl _
  | succ q ih =>
    unfold wpA
    split
    · rw [List.length_append]; show (wpA f l q).length + 1 ≤ _; omega
    · omega
theorem wtA_len {P : Nat} (hP : P ≤ 12) (kd pl sz : Nat → Int) (f : Nat → Nat → Option Int) (l : List Int) : ∀ t, (wtA P kd pl sz f l t).length ≤ l.length + 15 * t := by
  intro t
  induction t with
  | zero => exact Nat.le_refl _
  | succ t ih =>
    have := wpA_len (f t) (wtA P kd pl sz f l t ++ [kd t] ++ [pl t] ++ [sz t]) P
    rw [List.length_append, List.length_append, List.length_append] at this
    show (wpA (f t) (wtA P kd pl sz f l t ++ [kd t] ++ [pl t] ++ [sz t]) P).length ≤ _
    have e1 : [kd t].length = 1 := rfl
    have e2 : [pl t].length = 1 := rfl
    have e3 : [sz t].length = 1 := rfl
    omega
theorem weA_len (e : Nat → Int) (l : List Int) : ∀ d, (weA e l d).length = l.length + d := by
  intro d
  induction d with
  | zero => rfl
  | succ d ih =>
    show (weA e l d ++ [e d]).length = _
    rw [List.length_append, ih]; rfl
theorem wrA_len (B : Nat → Int) (ex : Nat → Nat → Int) (l : List Int) : ∀ t, (wrA B ex l t).length ≤ l.length + 8 * t := by
  intro t
  induction t with
  | zero => exact Nat.le_refl _
  | succ t ih =>
    unfold wrA
    split
    · rw [weA_len]; omega
    · omega
theorem wcA_len (fm K : Nat → Int) (l : List Int) : ∀ r, (wcA fm K l r).length = l.length + 2 * r := by
  intro r
  induction r with
  | zero => rfl
  | succ r ih =>
    show (wcA fm K l r ++ [fm r] ++ [K r]).length = _
    rw [List.length_append, List.length_append, ih]
    have e1 : [fm r].length = 1 := rfl
    have e2 : [K r].length = 1 := rfl
    omega
/-- the class's words -/
def aS (V : XM) (l : List Int) : XM := fun a b c => if a = 2 ∧ b = 0 ∧ c = 14 then (l.length : Int) else if a = 18 ∧ b = 0 then (l[c]?).getD (V 18 0 c) else V a b c
theorem app_get (l : List Int) (x y : Int) (c : Nat) : ((l ++ [x])[c]?).getD y = if c = l.length then x else (l[c]?).getD y := by
  rw [List.getElem?_append]
  by_cases h : c < l.length
  · rw [if_pos h, if_neg (by omega)]
  · rw [if_neg h]
    by_cases h2 : c = l.length
    · rw [if_pos h2, h2, Nat.sub_self]; rfl
    · have e1 : [x][c - l.length]? = none := by
        rw [List.getElem?_eq_none_iff]; show 1 ≤ c - l.length; omega
      have e2 : l[c]? = none := by rw [List.getElem?_eq_none_iff]; omega
      rw [if_neg h2, e1, e2]
theorem y_addW (d : Nat) (V : XM) (l : List Int) (x : Int) (h : l.length < 1490) : Yf (d + 1) 177 [xr 2 0, xi x] (aS V l) = some (xi 0, aS V (l ++ [x])) := by
  have e0 : (aS V l) 2 0 14 = (l.length : Int) := rfl
  rw [s_X11_addWord, e0, if_pos (by omega), if_pos (by omega), w32_i (by omega) (by omega), Int.toNat_natCast]
  congr 2
  funext a b c
  show (if a = 18 ∧ b = 0 ∧ c = l.length then x else if a = 2 ∧ b = 0 ∧ c = 14 then (l.length : Int) + 1 else if a = 2 ∧ b = 0 ∧ c = 14 then (l.length : Int) else if a = 18 ∧ b = 0 then (l[c]?).getD (V 18 0 c) else V a b c) = (if a = 2 ∧ b = 0 ∧ c = 14 then ((l ++ [x]).length : Int) else if a = 18 ∧ b = 0 then ((l ++ [x])[c]?).getD (V 18 0 c) else V a b c)
  rw [app_get, List.length_append]
  have e1 : ((l.length + [x].length : Nat) : Int) = (l.length : Int) + 1 := by show ((l.length + 1 : Nat) : Int) = _; omega
  rw [e1]
  (repeat' split) <;> first | rfl | (exfalso; omega)
/-- what values need -/
def IV (V : XM) : Prop := (6 ≤ (V 14 0 1) ∧ (V 14 0 1) ≤ 24) ∧ (0 ≤ (V 14 0 3) ∧ (V 14 0 3) ≤ 12) ∧ (0 ≤ (V 14 0 9) ∧ (V 14 0 9) ≤ 64) ∧ (V 5 0 9) = (V 14 0 3) ∧ (V 4 0 7) = (V 14 0 9) ∧ I_kin V ∧ I_pro V ∧ I_usu V ∧ I_giv V ∧ I_thg V
theorem Inv.iv {V : XM} (h : Inv V) : IV V := by
  obtain ⟨⟨ck1, ck2, ck3, cp1, cp2, cp3, ct1, ct2, ct3, cs1, cs2, cs3, cq1, cq2, cq3, cr1, cr2, cr3, cf1, cf2, cf3, cb1, cb2, cb3, cw1, cw2, cw3, clf, clc⟩, hkin, hpro, husu, hgiv, hthg, hhom, hput, hrin, hsen, hbar, hset, hmos, hpai, hrel, hmap, hdoo, hshe, htab, hwor⟩ := h
  exact ⟨⟨ck1, ck2⟩, ⟨cp1, cp2⟩, ⟨ct1, ct2⟩, cp3, ct3, hkin, hpro, husu, hgiv, hthg⟩
theorem x_cval' (d : Nat) (V : XM) (h : IV V) {q : Int} (h2 : 0 ≤ q) (h3 : q < (V 14 0 3)) : ∀ (n : Nat) (k s : Int), k.toNat ≤ n → 0 ≤ k → k < (V 14 0 1) → 0 ≤ s → s + k ≤ 23 → Xf (d + 1) 115 29 [xr 5 0, xr 0 0, xi q, xi k, xi s] [] V =
    some (xl (vuN (V 71 0) (V 72 0) (V 67 0) q (if (V 69 0 (q.toNat)) = 8 then -9 else 0) n k), V) := by
  obtain ⟨⟨ck1, ck2⟩, ⟨cp1, cp2⟩, ⟨ct1, ct2⟩, cp3, ct3, hkin, hpro, husu, hgiv, hthg⟩ := h
  intro n
  have h24 := hkin.1.1
  have hl := (hpro q h2 h3).2.2.2.1
  induction n with
  | zero =>
    intro k s hn h0 hN hs hsk
    have hk : k = 0 := by omega
    have e : w32 (w32 (q * 24) + k) = 24 * q + k := by rw [w32_add, w32_i (by omega) (by omega)]; omega
    obtain ⟨u1, u2⟩ := husu.1 q k h2 h3 h0 (by omega)
    rw [s_X9_valueOf_29, if_neg (by omega), if_pos (by omega), e, if_pos (by omega), u1]
    unfold vuN
    by_cases hu : (V 71 0 ((12 * k + q).toNat)) = 0
    · rw [if_pos hu, if_pos hu, if_pos (by omega), s_X9_valueOf_29, show k.toNat = 0 by omega, hkin.2.2, if_pos (by omega), y_empty _ _ h2 (by omega), cl_r, hl]
    · rw [if_neg hu, if_neg hu, if_pos (by omega), (u2 hu).1]
  | succ n ih =>
    intro k s hn h0 hN hs hsk
    have e : w32 (w32 (q * 24) + k) = 24 * q + k := by rw [w32_add, w32_i (by omega) (by omega)]; omega
    obtain ⟨u1, u2⟩ := husu.1 q k h2 h3 h0 (by omega)
    rw [s_X9_valueOf_29, if_neg (by omega), if_pos (by omega), e, if_pos (by omega), u1]
    unfold vuN
    by_cases hu : (V 71 0 ((12 * k + q).toNat)) = 0
    · rw [if_pos hu, if_pos hu, if_pos (by omega)]
      by_cases hk : k = 0
      · rw [s_X9_valueOf_29, show k.toNat = 0 by omega, hkin.2.2, if_pos (by omega), y_empty _ _ h2 (by omega), cl_r, hl, if_pos hk]
      · have := hkin.1.at (k := k) (by omega) hN
        rw [if_neg hk, hkin.2.1 k.toNat (by omega) (by omega), w32_i (by omega) (by omega)]
        exact ih _ _ (by omega) (by omega) (by omega) (by omega) (by omega)
    · rw [if_neg hu, if_neg hu, if_pos (by omega), (u2 hu).1]
theorem y_cval' (d : Nat) (V : XM) (h : IV V) {t q : Int} (h0 : 0 ≤ t) (h1 : t < (V 14 0 9)) (h2 : 0 ≤ q) (h3 : q < (V 14 0 3)) : Yf (d + 3) 115 [xr 5 0, xi t, xi q] V = some (xl (valueF V t q), V) := by
  have hx := x_cval' (d + 1) V h h2 h3 24
  obtain ⟨⟨ck1, ck2⟩, ⟨cp1, cp2⟩, ⟨ct1, ct2⟩, cp3, ct3, hkin, hpro, husu, hgiv, hthg⟩ := h
  obtain ⟨g1, g2, g3, g4⟩ := hgiv q t h2 h3 h0 (by omega)
  obtain ⟨t1, t2, t3, _⟩ := hthg t h0 h1
  rw [s_X9_valueOf, y_givenBy _ _ h0 (by omega) h2 (by omega), ci_r, g1]
  unfold valueF
  by_cases hg : (V 83 0 ((64 * q + t).toNat)) = -9
  · rw [if_pos (by omega), if_pos hg, if_pos (by omega), t1]
    exact hx _ 0 (by omega) t2 t3 (by omega) (by omega)
  · rw [if_neg (by omega), if_neg hg, y_givenCell _ _ h0 (by omega) h2 (by omega), cl_r, (g4 hg).1]
def pvF (V : XM) (t q : Nat) : Option Int := if kfit (V 67 0) (V 73 0 t) (V 68 0 q) = true then some (w32 (valueF V (t : Int) (q : Int))) else none
def plF (V : XM) (t : Nat) : Int := if (V 80 0 t) = 0 then -9 else (V 78 0 (6 * t))
theorem wpA_s (f : Nat → Option Int) (l : List Int) (q : Nat) : wpA f l (q + 1) = match f q with | some x => wpA f l q ++ [x] | none => wpA f l q := rfl
theorem x_aw41 (d : Nat) (V : XM) (h : Inv V) {t P : Nat} (ht : (t : Int) < (V 14 0 9)) (hP : (V 14 0 3) = (P : Int)) (l : List Int) (hl : l.length + 12 ≤ 1490) : ∀ (m q : Nat), P - q ≤ m → q ≤ P → Xf (d + 3) 178 41 [xr 2 0, xi (t : Int), xi (q : Int)] [] (aS V (wpA (pvF V t) l q)) = some (xi 0, aS V (wpA (pvF V t) l P)) := by
  have hi := h.iv
  obtain ⟨⟨ck1, ck2⟩, ⟨cp1, cp2⟩, ⟨ct1, ct2⟩, cp3, ct3, hkin, hpro, husu, hgiv, hthg⟩ := id hi
  have e5 : ∀ l, (aS V l) 5 0 9 = (P : Int) := fun l => by show V 5 0 9 = _; omega
  obtain ⟨t1, t2, t3, _⟩ := hthg (t : Int) (by omega) ht
  rw [Int.toNat_natCast] at t1 t2 t3
  intro m
  induction m with
  | zero =>
    intro q hm hq
    have : q = P := by omega
    subst this
    rw [s_X11_addWordsOfThing_41, e5, if_neg (by omega)]
  | succ m ih =>
    intro q hm hq
    by_cases hlt : q < P
    · have hlen := wpA_len (pvF V t) l q
      obtain ⟨o1, o2, o3, _⟩ := hpro (q : Int) (by omega) (by omega)
      rw [Int.toNat_natCast] at o1 o2 o3
      have ih := ih (q + 1) (by omega) (by omega)
      have F1 : ∀ l, Yf (d + 3) 109 [xr 5 0, xi (t : Int), xi (q : Int)] (aS V l) = some (xi (b2 (kfit (V 67 0) (V 73 0 t) (V 68 0 q) = true)), aS V l) := fun l => by
        have := y_isFor (d + 1) (aS V l) (by exact hkin) (t := (t : Int)) (q := (q : Int)) (by omega) (by omega) (by omega) (by omega) (by show 0 ≤ V 20 0 ((t : Int).toNat); rw [Int.toNat_natCast, t1]; exact t2) (by show V 20 0 ((t : Int).toNat) < V 14 0 1; rw [Int.toNat_natCast, t1]; exact t3) (by show 0 ≤ V 26 0 ((q : Int).toNat); rw [Int.toNat_natCast, o1]; exact o2)
        rw [this]
        refine someb ?_
        show kfit (V 67 0) (V 20 0 ((t : Int).toNat)) (V 26 0 ((q : Int).toNat)) = true ↔ _
        rw [Int.toNat_natCast, Int.toNat_natCast, t1, o1]
      have F2 : ∀ l, Yf (d + 3) 115 [xr 5 0, xi (t : Int), xi (q : Int)] (aS V l) = some (xl (valueF V (t : Int) (q : Int)), aS V l) := fun l => y_cval' d (aS V l) (by exact hi) (by omega) ht (by omega) (by show (q : Int) < V 14 0 3; omega)
      have wq : Unit → w32 ((q : Int) + 1) = ((q + 1 : Nat) : Int) := fun _ => by rw [w32_i (by omega) (by omega)]; omega
      rw [s_X11_addWordsOfThing_41, e5, if_pos (by omega), F1, ci_r, ite_b2, wq (), ← ih, wpA_s]
      by_cases c : kfit (V 67 0) (V 73 0 t) (V 68 0 q) = true
      · have ep : pvF V t q = some (w32 (valueF V (t : Int) (q : Int))) := by unfold pvF; rw [if_pos c]
        rw [if_pos c, F2, cl_r, y_addW _ V _ _ (by omega), cv_r, ep]
      · have ep : pvF V t q = none := by unfold pvF; rw [if_neg c]
        rw [if_neg c, ep]
    · have : q = P := by omega
      subst this
      rw [s_X11_addWordsOfThing_41, e5, if_neg (by omega)]
theorem y_awT (d : Nat) (V : XM) (h : Inv V) {t P : Nat} (ht : (t : Int) < (V 14 0 9)) (hP : (V 14 0 3) = (P : Int)) (l : List Int) (hl : l.length + 15 ≤ 1490) : Yf (d + 4) 178 [xr 2 0, xi (t : Int)] (aS V l) = some (xi 0, aS V (wpA (pvF V t) (l ++ [(V 73 0 t)] ++ [plF V t] ++ [(V 74 0 t)]) P)) := by
  obtain ⟨⟨ck1, ck2⟩, ⟨cp1, cp2⟩, ⟨ct1, ct2⟩, cp3, ct3, hkin, hpro, husu, hgiv, hthg⟩ := h.iv
  have hh := h.ho
  have hc := h.hc
  obtain ⟨t1, t2, t3, t4, t5, t6, t7, _⟩ := hthg (t : Int) (by omega) ht
  rw [Int.toNat_natCast] at t1 t7
  have e20 : ∀ l, (aS V l) 20 0 t = (V 73 0 t) := fun l => t1
  have e22 : ∀ l, (aS V l) 22 0 t = (V 74 0 t) := fun l => t7
  have F1 : ∀ l, Yf (d + 3) 8 [xr 7 0, xi (t : Int), xi 0] (aS V l) = some (xi (plF V t), aS V l) := fun l => by
    have := y_home0 (d + 1) (aS V l) (N := (V 14 0 9)) (by exact hh) (by exact hc) (t := (t : Int)) (by omega) ht
    rw [this]
    have e1 : (6 * (t : Int)).toNat = 6 * t := by omega
    show some (xi (if V 80 0 ((t : Int).toNat) = 0 then -9 else V 78 0 ((6 * (t : Int)).toNat)), aS V l) = _
    rw [Int.toNat_natCast, e1]
    rfl
  have l1 : (l ++ [(V 73 0 t)]).length = l.length + 1 := by rw [List.length_append]; rfl
  have l2 : (l ++ [(V 73 0 t)] ++ [plF V t]).length = l.length + 2 := by rw [List.length_append, l1]; rfl
  have l3 : (l ++ [(V 73 0 t)] ++ [plF V t] ++ [(V 74 0 t)]).length = l.length + 3 := by rw [List.length_append, l2]; rfl
  have hx := x_aw41 d V h ht hP (l ++ [(V 73 0 t)] ++ [plF V t] ++ [(V 74 0 t)]) (by omega) P 0 (by omega) (by omega)
  rw [s_X11_addWordsOfThing, if_pos (by omega), Int.toNat_natCast, e20, y_addW _ V _ _ (by omega), cv_r, F1, ci_r, y_addW _ V _ _ (by omega), cv_r, if_pos (by omega), e22, y_addW _ V _ _ (by omega), cv_r, ← hx]
  rfl
