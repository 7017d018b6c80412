/-! kinds: what a kind is, and its base -/
def KD (p : Nat → Int) (n : Int) : Prop := n ≤ 24 ∧ ∀ k : Nat, 0 < k → (k : Int) < n → 0 ≤ p k ∧ p k < k
def kfitN (p : Nat → Int) (o : Int) : Nat → Int → Bool
  | 0, k => decide (k = o)
  | n + 1, k => if k = o then true else if k = 0 then false else kfitN p o n (p k.toNat)
def kfit (p : Nat → Int) (k o : Int) : Bool := kfitN p o k.toNat k
def kbaseN (p : Nat → Int) : Nat → Int → Int
  | 0, k => k
  | n + 1, k => if 5 < k then kbaseN p n (p k.toNat) else k
def kbase (p : Nat → Int) (k : Int) : Int := kbaseN p k.toNat k
theorem KD.at {p : Nat → Int} {n : Int} (h : KD p n) {k : Int} (h1 : 0 < k) (h2 : k < n) : 0 ≤ p k.toNat ∧ p k.toNat < k := by
  have := h.2 k.toNat (by omega) (by omega)
  omega
theorem kfitN_fuel {p : Nat → Int} {o N : Int} (hp : KD p N) : ∀ (n m : Nat) (k : Int), 0 ≤ k → k < N → k.toNat ≤ n → k.toNat ≤ m → kfitN p o n k = kfitN p o m k := by
  intro n
  induction n with
  | zero =>
    intro m k h0 hN hn hm
    have hk : k = 0 := by omega
    subst hk
    cases m with
    | zero => rfl
    | succ m => unfold kfitN; by_cases h : (0 : Int) = o <;> simp [h]
  | succ n ih =>
    intro m k h0 hN hn hm
    cases m with
    | zero =>
      have hk : k = 0 := by omega
      subst hk
      unfold kfitN; by_cases h : (0 : Int) = o <;> simp [h]
    | succ m =>
      unfold kfitN
      by_cases h : k = o
      · simp [h]
      · by_cases hk : k = 0
        · simp [h, hk]
        · rw [if_neg h, if_neg h, if_neg hk, if_neg hk]
          have := hp.at (by omega) hN
          exact ih m _ (by omega) (by omega) (by omega) (by omega)
theorem kfit_eq {p : Nat → Int} {N : Int} (hp : KD p N) (k o : Int) (h0 : 0 ≤ k) (hN : k < N) : kfit p k o = if k = o then true else if k = 0 then false else kfit p (p k.toNat) o := by
  unfold kfit
  by_cases hk : k = 0
  · subst hk
    show kfitN p o 0 0 = _
    unfold kfitN
    by_cases h : (0 : Int) = o <;> simp [h]
  · have := hp.at (by omega) hN
    rw [kfitN_fuel hp k.toNat (k.toNat + 1) k h0 hN (by omega) (by omega)]
    show (if k = o then true else if k = 0 then false else kfitN p o k.toNat (p k.toNat)) = _
    rw [kfitN_fuel hp k.toNat (p k.toNat).toNat (p k.toNat) (by omega) (by omega) (by omega) (by omega)]
theorem kfit_lt {p : Nat → Int} {N : Int} (hp : KD p N) : ∀ (n : Nat) (k o : Int), k.toNat ≤ n → 0 ≤ k → k < N → k < o → kfit p k o = false := by
  intro n
  induction n with
  | zero =>
    intro k o hn h0 hN ho
    rw [kfit_eq hp k o h0 hN, if_neg (by omega), if_pos (by omega)]
  | succ n ih =>
    intro k o hn h0 hN ho
    rw [kfit_eq hp k o h0 hN, if_neg (by omega)]
    by_cases hk : k = 0
    · rw [if_pos hk]
    · rw [if_neg hk]
      have := hp.at (by omega) hN
      exact ih _ o (by omega) (by omega) (by omega) (by omega)
theorem x_comesTo (d : Nat) (V : XM) {N : Int} (hp : KD (V 67 0) N) (o : Int) : ∀ (n : Nat) (k : Int), k.toNat ≤ n → 0 ≤ k → k < N → Xf d 194 2 [xr 14 0, xr 0 0, xi o, xi k] [] V = some (xi (b2 (kfit (V 67 0) k o = true)), V) := by
  intro n
  induction n with
  | zero =>
    intro k hn h0 hN
    have hk : k = 0 := by omega
    rw [s_X12_comesTo_2, kfit_eq hp k o h0 hN]
    by_cases h : k = o
    · rw [if_pos h, if_pos h, if_pos h]; rfl
    · rw [if_neg h, if_pos hk, if_neg h, if_neg h, if_pos hk]; rfl
  | succ n ih =>
    intro k hn h0 hN
    rw [s_X12_comesTo_2, kfit_eq hp k o h0 hN]
    by_cases h : k = o
    · unfold b2; simp [h]
    · by_cases hk : k = 0
      · rw [if_neg h, if_pos hk, if_neg h, if_neg h, if_pos hk]; rfl
      · have h24 := hp.1
        have := hp.at (by omega) hN
        rw [if_neg h, if_neg hk, if_pos (by omega), if_neg h, if_neg hk]
        exact ih _ (by omega) (by omega) (by omega)
theorem y_comesTo (d : Nat) (V : XM) {N : Int} (hp : KD (V 67 0) N) (k o : Int) (h0 : 0 ≤ k) (hN : k < N) : Yf (d + 1) 194 [xr 14 0, xi k, xi o] V = some (xi (b2 (kfit (V 67 0) k o = true)), V) := by
  rw [s_X12_comesTo]
  exact x_comesTo d V hp o k.toNat k (Nat.le_refl _) h0 hN
theorem x_fits (d : Nat) (V : XM) (p : Nat → Int) {N : Int} (hp : KD p N) (hc : ∀ j : Nat, 0 < j → (j : Int) < N → (V 19 0 j) = p j) (o : Int) (ho : 0 ≤ o) : ∀ (n : Nat) (k s : Int), k.toNat ≤ n → 0 ≤ k → k < N → 0 ≤ s → s + k ≤ 24 → Xf d 4 5 [xr 3 0, xr 0 0, xi o, xi k, xi s] [] V = some (xi (b2 (kfit p k o = true)), V) := by
  intro n
  induction n with
  | zero =>
    intro k s hn h0 hN hs hsk
    rw [s_X0_fits_5, if_neg (by omega), kfit_eq hp k o h0 hN]
    unfold b2
    by_cases h : k = o
    · simp [h]
    · have hk : k = 0 := by omega
      rw [if_neg h, if_neg h, if_pos hk]; rfl
  | succ n ih =>
    intro k s hn h0 hN hs hsk
    rw [s_X0_fits_5]
    by_cases hl : o < k
    · have h24 := hp.1
      have := hp.at (by omega) hN
      rw [if_pos hl, if_pos (by omega), if_pos (by omega), hc k.toNat (by omega) (by omega), w32_i (by omega) (by omega), kfit_eq hp k o h0 hN, if_neg (by omega), if_neg (by omega)]
      exact ih _ _ (by omega) (by omega) (by omega) (by omega) (by omega)
    · rw [if_neg hl]
      by_cases h : k = o
      · rw [if_pos h, kfit_eq hp k o h0 hN, if_pos h]; rfl
      · rw [if_neg h, kfit_lt hp k.toNat k o (Nat.le_refl _) h0 hN (by omega)]; rfl
theorem y_fits (d : Nat) (V : XM) (p : Nat → Int) {N : Int} (hp : KD p N) (hc : ∀ j : Nat, 0 < j → (j : Int) < N → (V 19 0 j) = p j) (k o : Int) (ho : 0 ≤ o) (h0 : 0 ≤ k) (hN : k < N) : Yf (d + 1) 4 [xr 3 0, xi k, xi o] V = some (xi (b2 (kfit p k o = true)), V) := by
  rw [s_X0_fits]
  have h24 := hp.1
  exact x_fits d V p hp hc o ho k.toNat k 0 (Nat.le_refl _) h0 hN (by omega) (by omega)
theorem kbaseN_fuel {p : Nat → Int} {N : Int} (hp : KD p N) : ∀ (n m : Nat) (k : Int), 0 ≤ k → k < N → k.toNat ≤ n → k.toNat ≤ m → kbaseN p n k = kbaseN p m k := by
  intro n
  induction n with
  | zero =>
    intro m k h0 hN hn hm
    have hk : k = 0 := by omega
    subst hk
    cases m with
    | zero => rfl
    | succ m => rfl
  | succ n ih =>
    intro m k h0 hN hn hm
    cases m with
    | zero =>
      have hk : k = 0 := by omega
      subst hk
      rfl
    | succ m =>
      unfold kbaseN
      by_cases h : 5 < k
      · rw [if_pos h, if_pos h]
        have := hp.at (by omega) hN
        exact ih m _ (by omega) (by omega) (by omega) (by omega)
      · rw [if_neg h, if_neg h]
theorem kbase_eq {p : Nat → Int} {N : Int} (hp : KD p N) (k : Int) (h0 : 0 ≤ k) (hN : k < N) : kbase p k = if 5 < k then kbase p (p k.toNat) else k := by
  unfold kbase
  rw [kbaseN_fuel hp k.toNat (k.toNat + 1) k h0 hN (by omega) (by omega)]
  show (if 5 < k then kbaseN p k.toNat (p k.toNat) else k) = _
  by_cases h : 5 < k
  · have := hp.at (by omega) hN
    rw [if_pos h, if_pos h, kbaseN_fuel hp k.toNat (p k.toNat).toNat (p k.toNat) (by omega) (by omega) (by omega) (by omega)]
  · rw [if_neg h, if_neg h]
theorem kbase_in {p : Nat → Int} {N : Int} (hp : KD p N) : ∀ (n : Nat) (k : Int), k.toNat ≤ n → 0 ≤ k → k < N → 0 ≤ kbase p k ∧ kbase p k ≤ 5 ∧ kbase p k ≤ k := by
  intro n
  induction n with
  | zero =>
    intro k hn h0 hN
    rw [kbase_eq hp k h0 hN, if_neg (by omega)]
    omega
  | succ n ih =>
    intro k hn h0 hN
    rw [kbase_eq hp k h0 hN]
    by_cases h : 5 < k
    · rw [if_pos h]
      have h1 := hp.at (by omega) hN
      have := ih _ (by omega) h1.1 (by omega)
      omega
    · rw [if_neg h]; omega
theorem x_rbaseOf (d : Nat) (V : XM) {N : Int} (hp : KD (V 67 0) N) : ∀ (n : Nat) (k : Int), k.toNat ≤ n → 0 ≤ k → k < N → Xf d 195 2 [xr 14 0, xr 0 0, xi k] [] V = some (xi (kbase (V 67 0) k), V) := by
  intro n
  induction n with
  | zero =>
    intro k hn h0 hN
    rw [s_X12_baseOf_2, kbase_eq hp k h0 hN, if_neg (by omega), if_neg (by omega)]
  | succ n ih =>
    intro k hn h0 hN
    rw [s_X12_baseOf_2, kbase_eq hp k h0 hN]
    by_cases h : 5 < k
    · have h24 := hp.1
      have := hp.at (by omega) hN
      rw [if_pos h, if_pos (by omega), if_pos h]
      exact ih _ (by omega) (by omega) (by omega)
    · rw [if_neg h, if_neg h]
theorem y_rbaseOf (d : Nat) (V : XM) {N : Int} (hp : KD (V 67 0) N) (k : Int) (h0 : 0 ≤ k) (hN : k < N) : Yf (d + 1) 195 [xr 14 0, xi k] V = some (xi (kbase (V 67 0) k), V) := by
  rw [s_X12_baseOf]
  exact x_rbaseOf d V hp k.toNat k (Nat.le_refl _) h0 hN
theorem x_baseOf (d : Nat) (V : XM) (p : Nat → Int) {N : Int} (hp : KD p N) (hc : ∀ j : Nat, 0 < j → (j : Int) < N → (V 19 0 j) = p j) : ∀ (n : Nat) (k s : Int), k.toNat ≤ n → 0 ≤ k → k < N → 0 ≤ s → s + k ≤ 24 → Xf d 5 4 [xr 3 0, xr 0 0, xi k, xi s] [] V = some (xi (kbase p k), V) := by
  intro n
  induction n with
  | zero =>
    intro k s hn h0 hN hs hsk
    rw [s_X0_baseOf_4, if_neg (by omega), kbase_eq hp k h0 hN, if_neg (by omega)]
  | succ n ih =>
    intro k s hn h0 hN hs hsk
    rw [s_X0_baseOf_4, kbase_eq hp k h0 hN]
    by_cases hl : 5 < k
    · have h24 := hp.1
      have := hp.at (by omega) hN
      rw [if_pos hl, if_pos (by omega), if_pos (by omega), hc k.toNat (by omega) (by omega), w32_i (by omega) (by omega), if_pos hl]
      exact ih _ _ (by omega) (by omega) (by omega) (by omega) (by omega)
    · rw [if_neg hl, if_neg hl]
theorem y_baseOf (d : Nat) (V : XM) (p : Nat → Int) {N : Int} (hp : KD p N) (hc : ∀ j : Nat, 0 < j → (j : Int) < N → (V 19 0 j) = p j) (k : Int) (h0 : 0 ≤ k) (hN : k < N) : Yf (d + 1) 5 [xr 3 0, xi k] V = some (xi (kbase p k), V) := by
  rw [s_X0_baseOf]
  have h24 := hp.1
  exact x_baseOf d V p hp hc k.toNat k 0 (Nat.le_refl _) h0 hN (by omega) (by omega)
