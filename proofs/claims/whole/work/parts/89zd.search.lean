/-! settle: the search, and what keeps -/
def sr1 (f : Nat → Option (Nat → Int)) (s : Int) : Nat → Nat → Option (Nat → Int)
  | 0, _ => none
  | k + 1, w => if bt s w = true then (match f w with | some q => some q | none => sr1 f s k (w + 1)) else sr1 f s k (w + 1)
def sr (K : (Nat → Int) → Bool) (u : Nat → Bool) (S : Nat → Int) : Nat → Nat → (Nat → Int) → Option (Nat → Int)
  | 0, _, p => if K p = true then some p else none
  | m + 1, t, p => if u t = true then sr1 (fun w => sr K u S m (t + 1) (zup p t (w : Int))) (S t) 64 0 else sr K u S m (t + 1) p
def dfs (L : (Nat → Int) → Nat → Nat → Bool) (u : Nat → Bool) (S : Nat → Int) : Nat → Nat → (Nat → Int) → Option (Nat → Int)
  | 0, _, p => some p
  | m + 1, t, p => if u t = true then sr1 (fun w => if L p t w = true then dfs L u S m (t + 1) (zup p t (w : Int)) else none) (S t) 64 0 else dfs L u S m (t + 1) p
theorem sr1_s (f : Nat → Option (Nat → Int)) (s : Int) (k w : Nat) : sr1 f s (k + 1) w = if bt s w = true then (match f w with | some q => some q | none => sr1 f s k (w + 1)) else sr1 f s k (w + 1) := rfl
theorem sr1_congr {f g : Nat → Option (Nat → Int)} {s : Int} : ∀ (k w : Nat), w + k = 64 → (∀ x, w ≤ x → x < 64 → bt s x = true → f x = g x) → sr1 f s k w = sr1 g s k w := by
  intro k
  induction k with
  | zero => intro w _ _; rfl
  | succ k ih =>
    intro w hw h
    have ih := ih (w + 1) (by omega) (fun x h1 h2 h3 => h x (by omega) h2 h3)
    rw [sr1_s, sr1_s, ih]
    by_cases c : bt s w = true
    · rw [if_pos c, if_pos c, h w (by omega) (by omega) c]
    · rw [if_neg c, if_neg c]
theorem sr1_some {f : Nat → Option (Nat → Int)} {s : Int} {q : Nat → Int} : ∀ (k w : Nat), w + k = 64 → sr1 f s k w = some q → ∃ x, w ≤ x ∧ x < 64 ∧ bt s x = true ∧ f x = some q := by
  intro k
  induction k with
  | zero => intro w _ h; cases h
  | succ k ih =>
    intro w hw h
    rw [sr1_s] at h
    by_cases c : bt s w = true
    · rw [if_pos c] at h
      cases hf : f w with
      | some q' =>
        rw [hf] at h
        have h : some q' = some q := h
        exact ⟨w, by omega, by omega, c, by rw [hf]; exact h⟩
      | none =>
        rw [hf] at h
        obtain ⟨x, x1, x2, x3, x4⟩ := ih (w + 1) (by omega) h
        exact ⟨x, by omega, x2, x3, x4⟩
    · rw [if_neg c] at h
      obtain ⟨x, x1, x2, x3, x4⟩ := ih (w + 1) (by omega) h
      exact ⟨x, by omega, x2, x3, x4⟩
theorem sr1_skip (f : Nat → Option (Nat → Int)) (s : Int) : ∀ (n a b : Nat), b - a = n → a ≤ b → b ≤ 64 → (∀ x, a ≤ x → x < b → bt s x = false) → sr1 f s (64 - a) a = sr1 f s (64 - b) b := by
  intro n
  induction n with
  | zero => intro a b hn h1 h2 _; rw [show a = b by omega]
  | succ n ih =>
    intro a b hn h1 h2 h
    rw [show 64 - a = (64 - (a + 1)) + 1 by omega, sr1_s, if_neg (by rw [h a (by omega) (by omega)]; simp)]
    exact ih (a + 1) b (by omega) (by omega) h2 (fun x x1 x2 => h x (by omega) x2)
theorem sr1_none {f : Nat → Option (Nat → Int)} {s : Int} {a : Nat} (ha : a ≤ 64) (h : ∀ x, a ≤ x → x < 64 → bt s x = false) : sr1 f s (64 - a) a = none := by
  rw [sr1_skip f s (64 - a) a 64 rfl ha (Nat.le_refl _) h]
  rfl
/-- a way found keeps, and is the beginning's own outside what is searched -/
theorem sr_some {K : (Nat → Int) → Bool} {u : Nat → Bool} {S : Nat → Int} {q : Nat → Int} : ∀ (m t : Nat) (p : Nat → Int), sr K u S m t p = some q → K q = true ∧ (∀ k, (k < t ∨ t + m ≤ k ∨ u k = false) → q k = p k) ∧ (∀ k, t ≤ k → k < t + m → u k = true → ∃ w : Nat, w < 64 ∧ bt (S k) w = true ∧ q k = (w : Int)) := by
  intro m
  induction m with
  | zero =>
    intro t p h
    have h : (if K p = true then some p else none) = some q := h
    by_cases c : K p = true
    · rw [if_pos c] at h
      have h : p = q := by simpa using h
      subst h
      exact ⟨c, fun k _ => rfl, fun k h1 h2 => by omega⟩
    · rw [if_neg c] at h; cases h
  | succ m ih =>
    intro t p h
    have h : (if u t = true then sr1 (fun w => sr K u S m (t + 1) (zup p t (w : Int))) (S t) 64 0 else sr K u S m (t + 1) p) = some q := h
    by_cases c : u t = true
    · rw [if_pos c] at h
      obtain ⟨w, _, w2, w3, w4⟩ := sr1_some 64 0 (by omega) h
      obtain ⟨i1, i2, i3⟩ := ih (t + 1) _ w4
      refine ⟨i1, fun k hk => ?_, fun k k1 k2 k3 => ?_⟩
      · have hkt : k ≠ t := fun e => by
          subst e
          rcases hk with z | z | z
          · omega
          · omega
          · rw [c] at z; cases z
        rw [i2 k (by rcases hk with z | z | z; exact .inl (by omega); exact .inr (.inl (by omega)); exact .inr (.inr z)), zup_ne hkt]
      · by_cases e : k = t
        · subst e
          exact ⟨w, w2, w3, by rw [i2 k (by omega), zup_eq]⟩
        · exact i3 k (by omega) (by omega) k3
    · rw [if_neg c] at h
      obtain ⟨i1, i2, i3⟩ := ih (t + 1) _ h
      refine ⟨i1, fun k hk => i2 k (by
        by_cases e : k = t
        · subst e; right; right; cases hu : u k with
          | false => rfl
          | true => exact absurd hu c
        · rcases hk with z | z | z
          · exact .inl (by omega)
          · exact .inr (.inl (by omega))
          · exact .inr (.inr z)), fun k k1 k2 k3 => ?_⟩
      by_cases e : k = t
      · subst e; exact absurd k3 c
      · exact i3 k (by omega) (by omega) k3
/-- up the places: is t met -/
def rg (p : Nat → Int) (t : Int) : Nat → Int → Bool
  | 0, _ => false
  | k + 1, h => if h = -9 then false else if h = t then true else rg p t k (p h.toNat)
def wi (p : Nat → Int) (t : Int) : Nat → Int → Bool
  | 0, _ => false
  | k + 1, h => if h = t then true else if p h.toNat = -9 then false else wi p t k (p h.toNat)
def endp (p : Nat → Int) : Nat → Int → Prop
  | 0, _ => False
  | k + 1, h => p h.toNat = -9 ∨ endp p k (p h.toNat)
/-- so many no backdrops lie there -/
def inC (B p : Nat → Int) (N : Nat) (w : Int) : Int := cnt (fun k => decide (B k ≠ 3 ∧ p k = w)) N
def badT (V : XM) (B : Nat → Int) (N : Nat) (p : Nat → Int) (t : Nat) : Bool := rg p (t : Int) 65 (p t) || decide ((V 82 0 t) ≠ -9 ∧ (V 87 0 ((V 82 0 t).toNat)) < inC B p N (t : Int))
def badP (V : XM) (p : Nat → Int) (s : Nat) : Bool := decide ((V 85 0 s) = 4 ∧ p ((V 86 0 s).toNat) ≠ -9 ∧ p ((V 87 0 s).toNat) ≠ -9 ∧ ¬ (p ((V 86 0 s).toNat) = p ((V 87 0 s).toNat) ↔ (V 88 0 s) = 1))
def kpB (V : XM) (B : Nat → Int) (N : Nat) (p : Nat → Int) : Bool := decide (ff (badT V B N p) N 0 = -9 ∧ ff (badP V p) (V 14 0 22).toNat 0 = -9)
/-- what lets a thing lie there -/
def ltB (V : XM) (B : Nat → Int) (N : Nat) (p : Nat → Int) (t w : Nat) : Bool := decide (wi p (t : Int) 64 (w : Int) = false ∧ ¬ ((V 82 0 w) ≠ -9 ∧ (V 87 0 ((V 82 0 w).toNat)) ≤ inC B p N (w : Int)) ∧ ff (fun s => decide ((V 85 0 s) = 4 ∧ (((V 86 0 s) = (t : Int) ∧ p ((V 87 0 s).toNat) ≠ -9 ∧ ¬ (p ((V 87 0 s).toNat) = (w : Int) ↔ (V 88 0 s) = 1)) ∨ ((V 87 0 s) = (t : Int) ∧ p ((V 86 0 s).toNat) ≠ -9 ∧ ¬ (p ((V 86 0 s).toNat) = (w : Int) ↔ (V 88 0 s) = 1))))) (V 14 0 22).toNat 0 = -9)
/-- a beginning that keeps -/
def gd (V : XM) (B : Nat → Int) (N : Nat) (u : Nat → Bool) (p : Nat → Int) (t : Nat) : Prop :=
  (∀ k, k < N → p k = -9 ∨ (0 ≤ p k ∧ p k < N)) ∧ (∀ k, k < N → B k = 3 → p k = -9) ∧ (∃ r : Nat → Nat, ∀ k, k < N → p k ≠ -9 → r k < r (p k).toNat) ∧
  (∀ w, w < N → (V 82 0 w) ≠ -9 → inC B p N (w : Int) ≤ (V 87 0 ((V 82 0 w).toNat))) ∧
  (∀ s, s < (V 14 0 22).toNat → (V 85 0 s) = 4 → p ((V 86 0 s).toNat) ≠ -9 → p ((V 87 0 s).toNat) ≠ -9 → (p ((V 86 0 s).toNat) = p ((V 87 0 s).toNat) ↔ (V 88 0 s) = 1)) ∧
  (∀ k, k < N → t ≤ k → u k = true → p k = -9)
/-- what is given of things and pairs -/
def gv (V : XM) (B : Nat → Int) (N : Nat) (u : Nat → Bool) (S : Nat → Int) : Prop :=
  N ≤ 64 ∧ (∀ k, k < N → u k = true → B k ≠ 3) ∧ (∀ k w, k < N → u k = true → w < 64 → bt (S k) w = true → w < N ∧ w ≠ k) ∧
  (∀ s, s < (V 14 0 22).toNat → (V 85 0 s) = 4 → 0 ≤ (V 86 0 s) ∧ (V 86 0 s) < N ∧ 0 ≤ (V 87 0 s) ∧ (V 87 0 s) < N ∧ (V 86 0 s) ≠ (V 87 0 s))
theorem endp_mono {p : Nat → Int} : ∀ {n m : Nat} {h : Int}, n ≤ m → endp p n h → endp p m h := by
  intro n
  induction n with
  | zero => intro m h _ hh; exact hh.elim
  | succ n ih =>
    intro m h hm hh
    cases m with
    | zero => omega
    | succ m =>
      rcases hh with hh | hh
      · exact .inl hh
      · exact .inr (ih (by omega) hh)
theorem wi_fuel {p : Nat → Int} {t : Int} : ∀ (n m : Nat) (h : Int), n ≤ m → endp p n h → wi p t m h = wi p t n h := by
  intro n
  induction n with
  | zero => intro m h _ he; exact he.elim
  | succ n ih =>
    intro m h hm he
    cases m with
    | zero => omega
    | succ m =>
      show (if h = t then true else if p h.toNat = -9 then false else wi p t m (p h.toNat)) = (if h = t then true else if p h.toNat = -9 then false else wi p t n (p h.toNat))
      by_cases c : p h.toNat = -9
      · rw [if_pos c, if_pos c]
      · rw [if_neg c, if_neg c, ih m _ (by omega) (he.resolve_left c)]
theorem endp_rank {p : Nat → Int} {N : Nat} {r : Nat → Nat} (hv : ∀ k, k < N → p k = -9 ∨ (0 ≤ p k ∧ p k < N)) (hr : ∀ k, k < N → p k ≠ -9 → r k < r (p k).toNat) : ∀ (m h : Nat), h < N → cnt (fun k => decide (r h < r k)) N < m → endp p m (h : Int) := by
  intro m
  induction m with
  | zero =>
    intro h _ hc
    have := (cnt_b (fun k => decide (r h < r k)) N).1
    omega
  | succ m ih =>
    intro h hh hc
    by_cases c : p h = -9
    · exact .inl (by rw [Int.toNat_natCast]; exact c)
    · right
      rw [Int.toNat_natCast]
      have v := (hv h hh).resolve_left c
      have hlt := hr h hh c
      obtain ⟨x, hx⟩ : ∃ x : Nat, p h = (x : Int) := ⟨(p h).toNat, by omega⟩
      rw [hx] at hlt ⊢
      rw [Int.toNat_natCast] at hlt
      refine ih x (by omega) ?_
      have := cnt_lt (f := fun k => decide (r x < r k)) (g := fun k => decide (r h < r k)) (j := x) (n := N) (fun k _ hf => by
        simp only [decide_eq_true_eq] at hf ⊢
        omega) (by omega) (by simp) (by simp only [decide_eq_true_eq]; exact hlt)
      omega
theorem endp64 {p : Nat → Int} {N : Nat} (h64 : N ≤ 64) (hv : ∀ k, k < N → p k = -9 ∨ (0 ≤ p k ∧ p k < N)) (hr : ∃ r : Nat → Nat, ∀ k, k < N → p k ≠ -9 → r k < r (p k).toNat) {h : Nat} (hh : h < N) : endp p 64 (h : Int) := by
  obtain ⟨r, hr⟩ := hr
  refine endp_rank hv hr 64 h hh ?_
  have := cnt_lt_n (f := fun k => decide (r h < r k)) (j := h) (n := N) hh (by simp)
  omega
/-- one more thing lies: the ranks -/
theorem rank_up {p : Nat → Int} {N t w : Nat} (h64 : N ≤ 64) (hv : ∀ k, k < N → p k = -9 ∨ (0 ≤ p k ∧ p k < N)) (hr : ∃ r : Nat → Nat, ∀ k, k < N → p k ≠ -9 → r k < r (p k).toNat) (ht : t < N) (hw : w < N) (hwi : wi p (t : Int) 64 (w : Int) = false) : ∃ r : Nat → Nat, ∀ k, k < N → zup p t (w : Int) k ≠ -9 → r k < r (zup p t (w : Int) k).toNat := by
  have E := fun {h : Nat} (hh : h < N) => endp64 h64 hv hr hh
  obtain ⟨r, hr⟩ := hr
  refine ⟨fun x => if wi p (t : Int) 64 (x : Int) = true then r x else r x + r t + 1, fun k hk hp => ?_⟩
  have wt : wi p (t : Int) 64 (t : Int) = true := by
    show (if (t : Int) = (t : Int) then true else _) = true
    rw [if_pos rfl]
  by_cases c : k = t
  · subst c
    rw [zup_eq, Int.toNat_natCast]
    show (if wi p (k : Int) 64 (k : Int) = true then r k else r k + r k + 1) < (if wi p (k : Int) 64 (w : Int) = true then r w else r w + r k + 1)
    rw [if_pos wt, if_neg (by rw [hwi]; simp)]
    omega
  · rw [zup_ne c] at hp ⊢
    have v := (hv k hk).resolve_left hp
    have hlt := hr k hk hp
    obtain ⟨x, hx⟩ : ∃ x : Nat, p k = (x : Int) := ⟨(p k).toNat, by omega⟩
    rw [hx, Int.toNat_natCast] at hlt
    rw [hx, Int.toNat_natCast]
    have hs : wi p (t : Int) 64 (k : Int) = wi p (t : Int) 64 (x : Int) := by
      have e1 : wi p (t : Int) 64 (k : Int) = wi p (t : Int) 65 (k : Int) := (wi_fuel 64 65 _ (by omega) (E hk)).symm
      have e2 : wi p (t : Int) 65 (k : Int) = wi p (t : Int) 64 (x : Int) := by
        show (if (k : Int) = (t : Int) then true else if p (k : Int).toNat = -9 then false else wi p (t : Int) 64 (p (k : Int).toNat)) = _
        rw [if_neg (by omega), Int.toNat_natCast, if_neg hp, hx]
      rw [e1, e2]
    show (if wi p (t : Int) 64 (k : Int) = true then r k else r k + r t + 1) < (if wi p (t : Int) 64 (x : Int) = true then r x else r x + r t + 1)
    rw [hs]
    split <;> omega
theorem rg_wi {p q : Nat → Int} {N t : Nat} (hv : ∀ k, k < N → p k = -9 ∨ (0 ≤ p k ∧ p k < N)) (hq : ∀ k, k < N → k ≠ t → p k ≠ -9 → q k = p k) : ∀ (n m h : Nat), n ≤ m → h < N → wi p (t : Int) n (h : Int) = true → rg q (t : Int) m (h : Int) = true := by
  intro n
  induction n with
  | zero => intro m h _ _ hw; cases hw
  | succ n ih =>
    intro m h hm hh hw
    cases m with
    | zero => omega
    | succ m =>
      have hw : (if (h : Int) = (t : Int) then true else if p (h : Int).toNat = -9 then false else wi p (t : Int) n (p (h : Int).toNat)) = true := hw
      show (if (h : Int) = -9 then false else if (h : Int) = (t : Int) then true else rg q (t : Int) m (q (h : Int).toNat)) = true
      rw [if_neg (by omega)]
      by_cases c : (h : Int) = (t : Int)
      · rw [if_pos c]
      · rw [if_neg c] at hw ⊢
        rw [Int.toNat_natCast] at hw ⊢
        by_cases c2 : p h = -9
        · rw [if_pos c2] at hw; cases hw
        · rw [if_neg c2] at hw
          have v := (hv h hh).resolve_left c2
          rw [hq h hh (by omega) c2]
          obtain ⟨x, hx⟩ : ∃ x : Nat, p h = (x : Int) := ⟨(p h).toNat, by omega⟩
          rw [hx] at hw ⊢
          exact ih m x (by omega) (by omega) hw
theorem rg_rank {p : Nat → Int} {N t : Nat} {r : Nat → Nat} (hv : ∀ k, k < N → p k = -9 ∨ (0 ≤ p k ∧ p k < N)) (hr : ∀ k, k < N → p k ≠ -9 → r k < r (p k).toNat) : ∀ (n : Nat) (h : Int), (h = -9 ∨ (0 ≤ h ∧ h < N ∧ r t < r h.toNat)) → rg p (t : Int) n h = false := by
  intro n
  induction n with
  | zero => intro h _; rfl
  | succ n ih =>
    intro h hh
    show (if h = -9 then false else if h = (t : Int) then true else rg p (t : Int) n (p h.toNat)) = false
    by_cases c : h = -9
    · rw [if_pos c]
    · obtain ⟨h0, h1, h2⟩ := hh.resolve_left c
      rw [if_neg c, if_neg (fun e => by rw [e, Int.toNat_natCast] at h2; omega)]
      refine ih _ ?_
      by_cases c2 : p h.toNat = -9
      · exact .inl c2
      · have v := (hv h.toNat (by omega)).resolve_left c2
        have := hr h.toNat (by omega) c2
        exact .inr ⟨v.1, v.2, by omega⟩
