/-! the coupling of the two memories -/
def zup (f : Nat → Int) (n : Nat) (x : Int) : Nat → Int := fun j => if j = n then x else f j
theorem xu_rw (V : XM) (g i n : Nat) (x : Int) : (xu V g i n x) g i = zup (V g i) n x := by
  funext c; unfold xu zup; by_cases h : c = n <;> simp [h]
theorem xu_ne {V : XM} {g i n : Nat} {x : Int} {g' : Nat} (h : g' ≠ g) : (xu V g i n x) g' = V g' := by
  funext b c; unfold xu; rw [if_neg (by omega)]
theorem xu_ne2 {V : XM} {g i n : Nat} {x : Int} {g' i' : Nat} (h : i' ≠ i) : (xu V g i n x) g' i' = V g' i' := by
  funext c; unfold xu; rw [if_neg (by omega)]
theorem zup_eq (f : Nat → Int) (n : Nat) (x : Int) : zup f n x n = x := by unfold zup; rw [if_pos rfl]
theorem zup_ne {f : Nat → Int} {n j : Nat} {x : Int} (h : j ≠ n) : zup f n x j = f j := by unfold zup; rw [if_neg h]
theorem zup_e (f : Nat → Int) (n j : Nat) (x : Int) : zup f n x j = if j = n then x else f j := rfl
/-- a stretch of a row is filled -/
def xfl (V : XM) (g i : Nat) (lo hi x : Int) : XM := fun a b c => if a = g ∧ b = i ∧ (lo ≤ (c : Int) ∧ (c : Int) < hi) then x else V a b c
def fil (f : Nat → Int) (lo hi x : Int) : Nat → Int := fun j => if lo ≤ (j : Int) ∧ (j : Int) < hi then x else f j
theorem xfl_rw (V : XM) (g i : Nat) (lo hi x : Int) : (xfl V g i lo hi x) g i = fil (V g i) lo hi x := by
  funext c; unfold xfl fil; by_cases h : lo ≤ (c : Int) ∧ (c : Int) < hi <;> simp [h]
theorem xfl_0 (V : XM) (g i : Nat) (lo x : Int) : xfl V g i lo lo x = V := by
  funext a b c; unfold xfl; rw [if_neg (by omega)]
theorem xfl_s (V : XM) (g i : Nat) (lo hi x : Int) (h0 : 0 ≤ lo) (h : lo < hi) : xfl (xu V g i lo.toNat x) g i (lo + 1) hi x = xfl V g i lo hi x := by
  funext a b c; unfold xfl xu
  by_cases h1 : a = g ∧ b = i
  · by_cases h2 : lo ≤ (c : Int) ∧ (c : Int) < hi
    · rw [if_pos (c := a = g ∧ b = i ∧ (lo ≤ (c : Int) ∧ (c : Int) < hi)) (by omega)]
      by_cases h3 : c = lo.toNat
      · rw [if_neg (by omega), if_pos (by omega)]
      · rw [if_pos (by omega)]
    · rw [if_neg (by omega), if_neg (by omega), if_neg (by omega)]
  · rw [if_neg (by omega), if_neg (by omega), if_neg (by omega)]
def I_cnt (V : XM) : Prop :=
  6 ≤ (V 14 0 1) ∧ (V 14 0 1) ≤ 24 ∧ (V 3 0 1) = (V 14 0 1) ∧
  0 ≤ (V 14 0 3) ∧ (V 14 0 3) ≤ 12 ∧ (V 5 0 9) = (V 14 0 3) ∧
  0 ≤ (V 14 0 9) ∧ (V 14 0 9) ≤ 64 ∧ (V 4 0 7) = (V 14 0 9) ∧
  0 ≤ (V 14 0 22) ∧ (V 14 0 22) ≤ 300 ∧ (V 6 0 4) = (V 14 0 22) ∧
  0 ≤ (V 14 0 27) ∧ (V 14 0 27) ≤ 16 ∧ (V 7 0 15) = (V 14 0 27) ∧
  0 ≤ (V 14 0 29) ∧ (V 14 0 29) ≤ 8 ∧ (V 10 0 6) = (V 14 0 29) ∧
  0 ≤ (V 14 0 39) ∧ (V 14 0 39) ≤ 10 ∧ (V 2 0 12) = (V 14 0 39) ∧
  0 ≤ (V 14 0 45) ∧ (V 14 0 45) ≤ 6 ∧ (V 2 0 13) = (V 14 0 45) ∧
  0 ≤ (V 14 0 56) ∧ (V 14 0 56) ≤ 1490 ∧ (V 2 0 14) = (V 14 0 56) ∧
  (V 2 0 15) = (V 14 0 0) ∧ (V 2 0 16) = (V 14 0 44)
/-- kinds -/
def I_kin (V : XM) : Prop := KD (V 67 0) (V 14 0 1) ∧ (∀ k : Nat, 0 < k → (k : Int) < (V 14 0 1) → (V 19 0 k) = (V 67 0 k)) ∧ (V 19 0 0) = -9
/-- properties -/
def I_pro (V : XM) : Prop := ∀ q : Int, 0 ≤ q → q < (V 14 0 3) →
  (V 26 0 (q.toNat)) = (V 68 0 (q.toNat)) ∧ 0 ≤ (V 68 0 (q.toNat)) ∧ (V 68 0 (q.toNat)) < (V 14 0 1) ∧
  (V 27 0 (q.toNat)) = (V 69 0 (q.toNat)) ∧ 0 ≤ (V 69 0 (q.toNat)) ∧ (V 69 0 (q.toNat)) ≤ 8 ∧
  ((V 69 0 (q.toNat)) = 8 → (V 28 0 (q.toNat)) = (V 70 0 (q.toNat)) ∧ 0 ≤ (V 70 0 (q.toNat)) ∧ (V 70 0 (q.toNat)) ≤ 5)
/-- what is usual -/
def I_usu (V : XM) : Prop := (∀ q k : Int, 0 ≤ q → q < (V 14 0 3) → 0 ≤ k → k < 24 →
  (V 30 0 ((24 * q + k).toNat)) = (V 71 0 ((12 * k + q).toNat)) ∧ ((V 71 0 ((12 * k + q).toNat)) ≠ 0 →
    (V 29 0 ((24 * q + k).toNat)) = (V 72 0 ((12 * k + q).toNat)) ∧
    ((V 69 0 (q.toNat)) = 8 → (V 72 0 ((12 * k + q).toNat)) = -9 ∨ (0 ≤ (V 72 0 ((12 * k + q).toNat)) ∧ (V 72 0 ((12 * k + q).toNat)) < (V 14 0 9))))) ∧
  (∀ q k : Int, (V 14 0 3) ≤ q → q < 12 → 0 ≤ k → k < 24 → (V 71 0 ((12 * k + q).toNat)) = 0)
/-- what was given -/
def I_giv (V : XM) : Prop := ∀ q t : Int, 0 ≤ q → q < (V 14 0 3) → 0 ≤ t → t < 64 →
  (V 32 0 ((64 * q + t).toNat)) = (V 83 0 ((64 * q + t).toNat)) ∧
  ((V 83 0 ((64 * q + t).toNat)) = -9 ∨ (0 ≤ (V 83 0 ((64 * q + t).toNat)))) ∧
  ((V 83 0 ((64 * q + t).toNat)) = -9 → (V 31 0 ((64 * q + t).toNat)) = if (V 69 0 (q.toNat)) = 8 then -9 else 0) ∧
  ((V 83 0 ((64 * q + t).toNat)) ≠ -9 → (V 31 0 ((64 * q + t).toNat)) = (V 84 0 ((64 * q + t).toNat)) ∧
    ((V 69 0 (q.toNat)) = 8 → (V 84 0 ((64 * q + t).toNat)) = -9 ∨ (0 ≤ (V 84 0 ((64 * q + t).toNat)) ∧ (V 84 0 ((64 * q + t).toNat)) < (V 14 0 9))))
/-- things -/
def I_thg (V : XM) : Prop := ∀ t : Int, 0 ≤ t → t < (V 14 0 9) →
  (V 20 0 (t.toNat)) = (V 73 0 (t.toNat)) ∧ 0 ≤ (V 73 0 (t.toNat)) ∧ (V 73 0 (t.toNat)) < (V 14 0 1) ∧
  kbase (V 67 0) (V 73 0 (t.toNat)) = (V 21 0 (t.toNat)) ∧ 0 ≤ (V 21 0 (t.toNat)) ∧ (V 21 0 (t.toNat)) ≤ 5 ∧
  (V 22 0 (t.toNat)) = (V 74 0 (t.toNat)) ∧ 0 ≤ (V 74 0 (t.toNat)) ∧ (V 74 0 (t.toNat)) ≤ 1000 ∧
  (V 23 0 (t.toNat)) = (V 75 0 (t.toNat)) ∧
  (V 24 0 (t.toNat)) = (V 76 0 (t.toNat)) ∧ 0 ≤ (V 76 0 (t.toNat)) ∧ (V 76 0 (t.toNat)) ≤ 1000 ∧
  (V 25 0 (t.toNat)) = (V 77 0 (t.toNat)) ∧ ((V 77 0 (t.toNat)) = 0 ∨ (V 77 0 (t.toNat)) = 1)
abbrev isH (b : Int) : Prop := b = 1 ∨ b = 4 ∨ b = 5
abbrev isO (b : Int) : Prop := b = 0 ∨ b = 4 ∨ b = 5
/-- where things lie -/
def I_hom (V : XM) : Prop := ∀ t : Int, 0 ≤ t → t < (V 14 0 9) →
  (V 38 0 (t.toNat)) = (V 80 0 (t.toNat)) ∧ 0 ≤ (V 80 0 (t.toNat)) ∧ (V 80 0 (t.toNat)) ≤ 6 ∧
  ((V 21 0 (t.toNat)) ≠ 3 → (V 80 0 (t.toNat)) ≤ 1) ∧ ((V 21 0 (t.toNat)) = 1 ∨ (V 21 0 (t.toNat)) = 2 → (V 80 0 (t.toNat)) = 0) ∧
  (∀ k : Int, 0 ≤ k → k < (V 80 0 (t.toNat)) →
    (V 37 0 ((6 * t + k).toNat)) = (V 78 0 ((6 * t + k).toNat)) ∧ 0 ≤ (V 78 0 ((6 * t + k).toNat)) ∧ (V 78 0 ((6 * t + k).toNat)) < (V 14 0 9) ∧
    isH (V 21 0 ((V 78 0 ((6 * t + k).toNat)).toNat)) ∧
    (∀ l : Int, 0 ≤ l → l < (V 80 0 (t.toNat)) → (V 78 0 ((6 * t + k).toNat)) = (V 78 0 ((6 * t + l).toNat)) → k = l))
/-- homes and their sentences -/
def I_put (V : XM) : Prop := (∀ t : Int, 0 ≤ t → t < (V 14 0 9) →
    ((V 21 0 (t.toNat)) ≠ 3 → 0 < (V 80 0 (t.toNat)) → (V 39 0 (t.toNat)) = (V 79 0 ((6 * t).toNat))) ∧
    (∀ k : Int, 0 ≤ k → k < (V 80 0 (t.toNat)) → 0 ≤ (V 79 0 ((6 * t + k).toNat)) ∧ (V 79 0 ((6 * t + k).toNat)) < (V 14 0 22) ∧
      (V 85 0 ((V 79 0 ((6 * t + k).toNat)).toNat)) = 0 ∧ (V 86 0 ((V 79 0 ((6 * t + k).toNat)).toNat)) = t ∧
      (V 87 0 ((V 79 0 ((6 * t + k).toNat)).toNat)) = (V 78 0 ((6 * t + k).toNat)))) ∧
  (∀ s : Int, 0 ≤ s → s < (V 14 0 22) → (V 85 0 (s.toNat)) = 0 → 0 ≤ (V 86 0 (s.toNat)) ∧ (V 86 0 (s.toNat)) < (V 14 0 9) ∧
    ∃ k : Int, 0 ≤ k ∧ k < (V 80 0 ((V 86 0 (s.toNat)).toNat)) ∧ (V 79 0 ((6 * (V 86 0 (s.toNat)) + k).toNat)) = s)
/-- no ring of homes -/
def I_rin (V : XM) : Prop := ∃ r : Int → Nat, ∀ t : Int, 0 ≤ t → t < (V 14 0 9) → (V 21 0 (t.toNat)) ≠ 3 → 0 < (V 80 0 (t.toNat)) → r t < r (V 78 0 ((6 * t).toNat))
/-- sentences -/
def I_sen (V : XM) : Prop := ∀ s : Int, 0 ≤ s → s < (V 14 0 22) →
  (V 33 0 (s.toNat)) = (V 85 0 (s.toNat)) ∧ (V 34 0 (s.toNat)) = (V 86 0 (s.toNat)) ∧ (V 35 0 (s.toNat)) = (V 87 0 (s.toNat)) ∧
  ((V 85 0 (s.toNat)) ≤ 5 → (V 36 0 (s.toNat)) = -9) ∧ (6 ≤ (V 85 0 (s.toNat)) → (V 36 0 (s.toNat)) = (V 88 0 (s.toNat))) ∧
  0 ≤ (V 85 0 (s.toNat)) ∧ (V 85 0 (s.toNat)) ≤ 9 ∧ ((V 85 0 (s.toNat)) = 3 ∨ (V 85 0 (s.toNat)) = 9 → 0 ≤ (V 86 0 (s.toNat)) ∧ (V 86 0 (s.toNat)) < (V 14 0 9))
/-- bars and sets -/
def I_bar (V : XM) : Prop := (∀ s : Int, 0 ≤ s → s < (V 14 0 22) → (V 85 0 (s.toNat)) = 1 → 0 ≤ (V 86 0 (s.toNat)) ∧ (V 86 0 (s.toNat)) < (V 14 0 9) ∧ 0 ≤ (V 87 0 (s.toNat)) ∧ (V 87 0 (s.toNat)) < (V 14 0 9)) ∧
  (∀ t w : Int, 0 ≤ t → t < (V 14 0 9) → 0 ≤ w → w < 64 →
    (bt (V 40 0 (t.toNat)) w.toNat = true ↔ ∃ s : Int, 0 ≤ s ∧ s < (V 14 0 22) ∧ (V 85 0 (s.toNat)) = 1 ∧ (V 86 0 (s.toNat)) = t ∧ (V 87 0 (s.toNat)) = w))
def I_set (V : XM) : Prop := ∀ t : Int, 0 ≤ t → t < (V 14 0 9) →
  (V 41 0 (t.toNat)) = (V 81 0 (t.toNat)) ∧ c64 (V 81 0 (t.toNat)) ∧
  (((V 81 0 (t.toNat)) = 0 ∧ (V 42 0 (t.toNat)) = -9) ∨ ((V 81 0 (t.toNat)) ≠ 0 ∧ 0 ≤ (V 42 0 (t.toNat)) ∧ (V 42 0 (t.toNat)) < (V 14 0 22) ∧
    (V 85 0 ((V 42 0 (t.toNat)).toNat)) = 3 ∧ (V 86 0 ((V 42 0 (t.toNat)).toNat)) = t ∧ isO (V 21 0 (t.toNat)))) ∧
  (∀ s : Int, (V 42 0 (t.toNat)) < s → 0 ≤ s → s < (V 14 0 22) → (V 85 0 (s.toNat)) = 3 → (V 86 0 (s.toNat)) ≠ t) ∧
  (∀ w : Int, 0 ≤ w → w < 64 → bt (V 81 0 (t.toNat)) w.toNat = true → w < (V 14 0 9) ∧ w ≠ t ∧ isH (V 21 0 (w.toNat)) ∧ bt (V 40 0 (t.toNat)) w.toNat = false)
/-- how many -/
def cnt (f : Nat → Bool) : Nat → Int
  | 0 => 0
  | n + 1 => cnt f n + (if f n then 1 else 0)
/-- the most, and what is inside -/
def I_mos (V : XM) : Prop := ∀ w : Int, 0 ≤ w → w < (V 14 0 9) →
  (V 43 0 (w.toNat)) = cnt (fun t => decide ((V 21 0 t) ≠ 3 ∧ 0 < (V 80 0 t) ∧ (V 78 0 (6 * t)) = w)) (V 14 0 9).toNat ∧
  (V 43 0 (w.toNat)) = cnt (fun s => decide ((V 85 0 s) = 0 ∧ (V 87 0 s) = w ∧ (V 21 0 ((V 86 0 s).toNat)) ≠ 3)) (V 14 0 22).toNat ∧
  (V 45 0 (w.toNat)) = (V 82 0 (w.toNat)) ∧ ((V 82 0 (w.toNat)) = -9 ∨
    (0 ≤ (V 82 0 (w.toNat)) ∧ (V 82 0 (w.toNat)) < (V 14 0 22) ∧ (V 44 0 (w.toNat)) = (V 87 0 ((V 82 0 (w.toNat)).toNat)) ∧
      (V 43 0 (w.toNat)) ≤ (V 44 0 (w.toNat))))
/-- pairs -/
def I_pai (V : XM) : Prop := (∀ p : Int, 0 ≤ p → p < (V 14 0 27) →
    0 ≤ (V 49 0 (p.toNat)) ∧ (V 49 0 (p.toNat)) < (V 14 0 22) ∧ (V 85 0 ((V 49 0 (p.toNat)).toNat)) = 4 ∧
    (V 46 0 (p.toNat)) = (V 86 0 ((V 49 0 (p.toNat)).toNat)) ∧ (V 47 0 (p.toNat)) = (V 87 0 ((V 49 0 (p.toNat)).toNat)) ∧
    (V 48 0 (p.toNat)) = (V 88 0 ((V 49 0 (p.toNat)).toNat)) ∧ ((V 48 0 (p.toNat)) = 0 ∨ (V 48 0 (p.toNat)) = 1) ∧
    0 ≤ (V 46 0 (p.toNat)) ∧ (V 46 0 (p.toNat)) < (V 14 0 9) ∧ 0 ≤ (V 47 0 (p.toNat)) ∧ (V 47 0 (p.toNat)) < (V 14 0 9) ∧
    (V 46 0 (p.toNat)) ≠ (V 47 0 (p.toNat)) ∧ isO (V 21 0 ((V 46 0 (p.toNat)).toNat)) ∧ isO (V 21 0 ((V 47 0 (p.toNat)).toNat)) ∧
    (0 < (V 80 0 ((V 46 0 (p.toNat)).toNat)) → 0 < (V 80 0 ((V 47 0 (p.toNat)).toNat)) →
      ((V 78 0 ((6 * (V 46 0 (p.toNat))).toNat)) = (V 78 0 ((6 * (V 47 0 (p.toNat))).toNat)) ↔ (V 48 0 (p.toNat)) = 1)) ∧
    (∀ q : Int, p < q → q < (V 14 0 27) → (V 49 0 (p.toNat)) < (V 49 0 (q.toNat)))) ∧
  (∀ s : Int, 0 ≤ s → s < (V 14 0 22) → (V 85 0 (s.toNat)) = 4 → ∃ p : Int, 0 ≤ p ∧ p < (V 14 0 27) ∧ (V 49 0 (p.toNat)) = s)
/-- groups: labels after the first n sentences -/
def glN (so on tw th : Nat → Int) (r : Int) : Nat → Int → Int
  | 0, t => t
  | n + 1, t => if so n = 6 ∧ on n = r ∧ glN so on tw th r n (tw n) ≠ glN so on tw th r n (th n) ∧ glN so on tw th r n t = glN so on tw th r n (th n) then glN so on tw th r n (tw n) else glN so on tw th r n t
/-- relations -/
def I_rel (V : XM) : Prop := (∀ s : Int, 0 ≤ s → s < (V 14 0 22) → (V 85 0 (s.toNat)) = 6 ∨ (V 85 0 (s.toNat)) = 7 →
    0 ≤ (V 86 0 (s.toNat)) ∧ (V 86 0 (s.toNat)) < (V 14 0 29) ∧ 0 ≤ (V 87 0 (s.toNat)) ∧ (V 87 0 (s.toNat)) < (V 14 0 9) ∧
    0 ≤ (V 88 0 (s.toNat)) ∧ (V 88 0 (s.toNat)) < (V 14 0 9) ∧ (V 87 0 (s.toNat)) ≠ (V 88 0 (s.toNat))) ∧
  (∀ r : Int, 0 ≤ r → r < (V 14 0 29) → (V 54 0 (r.toNat)) = (V 90 0 (r.toNat)) ∧ 0 ≤ (V 90 0 (r.toNat)) ∧ (V 90 0 (r.toNat)) ≤ 5 ∧
    (∀ a b : Int, 0 ≤ a → a < 64 → 0 ≤ b → b < 64 →
      (bt (V 55 0 ((64 * r + a).toNat)) b.toNat = true ↔ 
        ((V 90 0 (r.toNat)) = 5 ∧ glN (V 85 0) (V 86 0) (V 87 0) (V 88 0) r (V 14 0 22).toNat a = glN (V 85 0) (V 86 0) (V 87 0) (V 88 0) r (V 14 0 22).toNat b) ∨
        ((V 90 0 (r.toNat)) ≠ 5 ∧ ∃ s : Int, 0 ≤ s ∧ s < (V 14 0 22) ∧ (V 85 0 (s.toNat)) = 6 ∧ (V 86 0 (s.toNat)) = r ∧
          (((V 87 0 (s.toNat)) = a ∧ (V 88 0 (s.toNat)) = b) ∨ ((V 90 0 (r.toNat)) = 4 ∧ (V 87 0 (s.toNat)) = b ∧ (V 88 0 (s.toNat)) = a)))))) ∧
  (∀ s u : Int, 0 ≤ s → s < (V 14 0 22) → 0 ≤ u → u < (V 14 0 22) → (V 85 0 (s.toNat)) = 6 → (V 85 0 (u.toNat)) = 6 → (V 86 0 (s.toNat)) = (V 86 0 (u.toNat)) → (V 90 0 ((V 86 0 (s.toNat)).toNat)) = 4 → ¬ ((V 87 0 (s.toNat)) = (V 88 0 (u.toNat)) ∧ (V 88 0 (s.toNat)) = (V 87 0 (u.toNat))))
/-- the map -/
def I_map (V : XM) : Prop := (∀ e : Int, 0 ≤ e → e < 512 →
    (8 * (V 14 0 9) ≤ e → (V 95 0 (e.toNat)) = 0 ∧ (V 96 0 (e.toNat)) = -9 ∧ (V 97 0 (e.toNat)) = -9) ∧
    (e < 8 * (V 14 0 9) → (V 57 0 (e.toNat)) = (V 95 0 (e.toNat)) ∧ (V 58 0 (e.toNat)) = (V 96 0 (e.toNat)) ∧ (V 60 0 (e.toNat)) = (V 97 0 (e.toNat)) ∧
      (V 59 0 (e.toNat)) = (if (V 95 0 (e.toNat)) = 3 then (V 98 0 (e.toNat)) else -9) ∧
      0 ≤ (V 95 0 (e.toNat)) ∧ (V 95 0 (e.toNat)) ≤ 4 ∧ (2 ≤ (V 95 0 (e.toNat)) ∧ 0 ≤ (V 97 0 (e.toNat)) ∨ (V 95 0 (e.toNat)) ≤ 1 ∧ (V 97 0 (e.toNat)) = -9) ∧
      ((V 95 0 (e.toNat)) = 0 ∨ (V 95 0 (e.toNat)) = 4 → (V 96 0 (e.toNat)) = -9) ∧
      (1 ≤ (V 95 0 (e.toNat)) ∧ (V 95 0 (e.toNat)) ≤ 3 → 0 ≤ (V 96 0 (e.toNat)) ∧ (V 96 0 (e.toNat)) < (V 14 0 9) ∧ (V 21 0 ((V 96 0 (e.toNat)).toNat)) = 1) ∧
      ((V 95 0 (e.toNat)) = 3 → 0 ≤ (V 98 0 (e.toNat)) ∧ (V 98 0 (e.toNat)) < (V 14 0 9))))
def I_doo (V : XM) : Prop := ∀ t : Int, 0 ≤ t → t < (V 14 0 9) →
  ((V 61 0 (t.toNat)) = -9 ∧ (∀ s : Int, 0 ≤ s → s < (V 14 0 22) → (V 85 0 (s.toNat)) = 9 → (V 86 0 (s.toNat)) ≠ t)) ∨
  (0 ≤ (V 61 0 (t.toNat)) ∧ (V 61 0 (t.toNat)) < (V 14 0 22) ∧ (V 85 0 ((V 61 0 (t.toNat)).toNat)) = 9 ∧ (V 86 0 ((V 61 0 (t.toNat)).toNat)) = t ∧
    (∀ s : Int, 0 ≤ s → s < (V 14 0 22) → (V 85 0 (s.toNat)) = 9 → (V 86 0 (s.toNat)) = t → s = (V 61 0 (t.toNat))))
/-- shelves -/
def I_she (V : XM) : Prop := ∀ s : Int, 0 ≤ s → s < (V 14 0 39) →
  (V 12 (s.toNat) 1) = (V 99 0 (s.toNat)) ∧ 0 ≤ (V 99 0 (s.toNat)) ∧ (V 99 0 (s.toNat)) ≤ 5 ∧
  (V 12 (s.toNat) 2) = (V 100 0 (s.toNat)) ∧ 0 ≤ (V 100 0 (s.toNat)) ∧ (V 100 0 (s.toNat)) ≤ 16 ∧
  (∀ i : Int, 0 ≤ i → i < 16 → (V 62 (s.toNat) (i.toNat)) = (V 101 0 ((16 * s + i).toNat)) ∧
    ((V 101 0 ((16 * s + i).toNat)) = -9 ∨ (0 ≤ (V 101 0 ((16 * s + i).toNat)) ∧ (V 101 0 ((16 * s + i).toNat)) < (V 14 0 9))))
/-- a lane's cell and its real -/
def isReal (l c r : Int) : Prop := ∃ v : Int, c64 v ∧ ((l = 6 ∧ c = fF2L (fL2F v) ∧ r = fF2D (fL2F v)) ∨ (l = 7 ∧ c = fD2L (fL2D v) ∧ r = fL2D v))
/-- tables -/
def I_tab (V : XM) : Prop := ∀ t : Int, 0 ≤ t → t < (V 14 0 45) →
  (V 13 (t.toNat) 4) = (V 103 0 (t.toNat)) ∧ 1 ≤ (V 103 0 (t.toNat)) ∧ (V 103 0 (t.toNat)) ≤ 16 ∧
  (V 13 (t.toNat) 5) = (V 104 0 (t.toNat)) ∧ 1 ≤ (V 104 0 (t.toNat)) ∧ (V 104 0 (t.toNat)) ≤ 5 ∧
  (∀ c : Int, 0 ≤ c → c < (V 104 0 (t.toNat)) → (V 65 (t.toNat) (c.toNat)) = (V 105 0 ((5 * t + c).toNat)) ∧
    0 ≤ (V 105 0 ((5 * t + c).toNat)) ∧ (V 105 0 ((5 * t + c).toNat)) ≤ 7 ∧
    (∀ r : Int, 0 ≤ r → r < (V 103 0 (t.toNat)) →
      ((V 106 0 ((80 * t + 5 * r + c).toNat)) = 0 ∨ (V 106 0 ((80 * t + 5 * r + c).toNat)) = 1) ∧
      (V 64 (t.toNat) ((5 * r + c).toNat)) = 1 - (V 106 0 ((80 * t + 5 * r + c).toNat)) ∧
      ((V 106 0 ((80 * t + 5 * r + c).toNat)) = 0 → (V 63 (t.toNat) ((5 * r + c).toNat)) = (V 107 0 ((80 * t + 5 * r + c).toNat)) ∧ c64 (V 107 0 ((80 * t + 5 * r + c).toNat)) ∧
        (6 ≤ (V 105 0 ((5 * t + c).toNat)) → isReal (V 105 0 ((5 * t + c).toNat)) (V 107 0 ((80 * t + 5 * r + c).toNat)) (V 108 0 ((80 * t + 5 * r + c).toNat))))))
/-- words -/
def I_wor (V : XM) : Prop := ∀ i : Int, 0 ≤ i → i < (V 14 0 56) → (V 18 0 (i.toNat)) = (V 113 0 (i.toNat))
def Inv (V : XM) : Prop := I_cnt V ∧ I_kin V ∧ I_pro V ∧ I_usu V ∧ I_giv V ∧ I_thg V ∧ I_hom V ∧ I_put V ∧ I_rin V ∧ I_sen V ∧ I_bar V ∧ I_set V ∧ I_mos V ∧ I_pai V ∧ I_rel V ∧ I_map V ∧ I_doo V ∧ I_she V ∧ I_tab V ∧ I_wor V
def AG (d m1 m2 : Nat) (as : List XS) (V : XM) : Prop := ∃ x V1 V2, Yf (d + 30) m1 (xr 2 0 :: as) V = some (x, V1) ∧ Yf (d + 30) m2 (xr 14 0 :: as) V1 = some (x, V2) ∧ Inv V2 ∧ V2 1 = V 1
theorem AG.mk {d m1 m2 : Nat} {as : List XS} {V : XM} {x : XS} {V1 V2 : XM} (hc : Yf (d + 30) m1 (xr 2 0 :: as) V = some (x, V1)) (hr : Yf (d + 30) m2 (xr 14 0 :: as) V1 = some (x, V2)) (hi : Inv V2) (h1 : V2 1 = V 1) : AG d m1 m2 as V := ⟨x, V1, V2, hc, hr, hi, h1⟩
theorem AG.no {d m1 m2 : Nat} {as : List XS} {V : XM} {x : XS} (hi : Inv V) (hc : Yf (d + 30) m1 (xr 2 0 :: as) V = some (x, V)) (hr : Yf (d + 30) m2 (xr 14 0 :: as) V = some (x, V)) : AG d m1 m2 as V := ⟨x, V, V, hc, hr, hi, rfl⟩
theorem Inv.flt {V : XM} (h : Inv V) (f : Int) : Inv (xu (xu V 2 0 15 f) 14 0 0 f) := by
  obtain ⟨h1, h2, h3, h4, h5, h6, h7, h8, h9, h10, h11, h12, h13, h14, h15, h16, h17, h18, h19, h20⟩ := h
  refine ⟨?_, h2, h3, h4, h5, h6, h7, h8, h9, h10, h11, h12, h13, h14, h15, h16, h17, h18, h19, h20⟩
  obtain ⟨ck1, ck2, ck3, cp1, cp2, cp3, ct1, ct2, ct3, cs1, cs2, cs3, cq1, cq2, cq3, cr1, cr2, cr3, cf1, cf2, cf3, cb1, cb2, cb3, cw1, cw2, cw3, clf, clc⟩ := h1
  exact ⟨ck1, ck2, ck3, cp1, cp2, cp3, ct1, ct2, ct3, cs1, cs2, cs3, cq1, cq2, cq3, cr1, cr2, cr3, cf1, cf2, cf3, cb1, cb2, cb3, cw1, cw2, cw3, rfl, clc⟩
theorem AG.flt {d m1 m2 : Nat} {as : List XS} {V : XM} {x : XS} {f : Int} (hi : Inv V) (hc : Yf (d + 30) m1 (xr 2 0 :: as) V = some (x, xu V 2 0 15 f)) (hr : Yf (d + 30) m2 (xr 14 0 :: as) (xu V 2 0 15 f) = some (x, xu (xu V 2 0 15 f) 14 0 0 f)) : AG d m1 m2 as V := ⟨x, _, _, hc, hr, hi.flt f, rfl⟩
