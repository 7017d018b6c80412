/-! how many bits a long has -/
def rep8 (b : Nat) : Nat → Nat
  | 0 => 0
  | k + 1 => 256 * rep8 b k + b
theorem and_split (a b c e : Nat) (hb : b < 256) (he : e < 256) : (256 * a + b) &&& (256 * c + e) = 256 * (a &&& c) + (b &&& e) := by
  have h8 : (256 : Nat) = 2 ^ 8 := by decide
  have hbe : (b &&& e) < 2 ^ 8 := Nat.lt_of_le_of_lt Nat.and_le_left (by omega)
  rw [h8]
  apply Nat.eq_of_testBit_eq
  intro i
  rw [Nat.testBit_and, Nat.testBit_two_pow_mul_add _ (by omega), Nat.testBit_two_pow_mul_add _ (by omega), Nat.testBit_two_pow_mul_add _ hbe]
  by_cases hi : i < 8
  · rw [if_pos hi, if_pos hi, if_pos hi, Nat.testBit_and]
  · rw [if_neg hi, if_neg hi, if_neg hi, Nat.testBit_and]
def sA (k n : Nat) : Nat := n - ((n / 2) &&& rep8 85 k)
def sB (k n : Nat) : Nat := (n &&& rep8 51 k) + ((n / 4) &&& rep8 51 k)
def sC (k n : Nat) : Nat := (n + n / 16) &&& rep8 15 k
def bA (l : Nat) : Nat := l - ((l / 2) &&& 85)
def bB (l : Nat) : Nat := (l &&& 51) + ((l / 4) &&& 51)
def bC (l : Nat) : Nat := (l + l / 16) % 16
theorem byA : ∀ l : Fin 256, (128 + l.val / 2) &&& 85 = (l.val / 2) &&& 85 := by decide +kernel
theorem byB : ∀ (l : Fin 256) (r : Fin 4), (64 * r.val + l.val / 4) &&& 51 = (l.val / 4) &&& 51 := by decide +kernel
theorem byC : ∀ l : Fin 256, bA l.val < 256 ∧ bB (bA l.val) ≤ 68 ∧ bB (bA l.val) % 16 ≤ 4 ∧ ((bC (bB (bA l.val)) : Nat) : Int) = cnt (fun i => l.val.testBit i) 8 := by decide +kernel
theorem sA_s (k h l : Nat) (hl : l < 256) : sA (k + 1) (256 * h + l) = 256 * sA k h + bA l := by
  unfold sA bA
  have e1 : (256 * h + l) / 2 = 256 * (h / 2) + (128 * (h % 2) + l / 2) := by omega
  have e2 : rep8 85 (k + 1) = 256 * rep8 85 k + 85 := rfl
  have e3 : (128 * (h % 2) + l / 2) &&& 85 = (l / 2) &&& 85 := by
    have : h % 2 = 0 ∨ h % 2 = 1 := by omega
    rcases this with q | q
    · rw [q, Nat.mul_zero, Nat.zero_add]
    · rw [q, Nat.mul_one]; exact byA ⟨l, hl⟩
  rw [e1, e2, and_split _ _ _ _ (by omega) (by omega), e3]
  have a1 : (h / 2) &&& rep8 85 k ≤ h / 2 := Nat.and_le_left
  have a2 : (l / 2) &&& 85 ≤ l / 2 := Nat.and_le_left
  omega
theorem sB_s (k h l : Nat) (hl : l < 256) : sB (k + 1) (256 * h + l) = 256 * sB k h + bB l := by
  unfold sB bB
  have e1 : (256 * h + l) / 4 = 256 * (h / 4) + (64 * (h % 4) + l / 4) := by omega
  have e2 : rep8 51 (k + 1) = 256 * rep8 51 k + 51 := rfl
  have e3 : (64 * (h % 4) + l / 4) &&& 51 = (l / 4) &&& 51 := byB ⟨l, hl⟩ ⟨h % 4, by omega⟩
  rw [e1, e2, and_split _ _ _ _ hl (by omega), and_split _ _ _ _ (by omega) (by omega), e3]
  omega
theorem and15 (x : Nat) : x &&& 15 = x % 16 := Nat.and_two_pow_sub_one_eq_mod x 4
theorem sC_s (k h l : Nat) (hl : l ≤ 68) (hh : h % 16 ≤ 4) : sC (k + 1) (256 * h + l) = 256 * sC k h + bC l := by
  unfold sC bC
  have e1 : (256 * h + l) + (256 * h + l) / 16 = 256 * (h + h / 16) + (l + 16 * (h % 16) + l / 16) := by omega
  have e2 : rep8 15 (k + 1) = 256 * rep8 15 k + 15 := rfl
  rw [e1, e2, and_split _ _ _ _ (by omega) (by omega), and15]
  omega
theorem rep8_0 (b n : Nat) : n &&& rep8 b 0 = 0 := Nat.and_zero n
/-- the three first steps on k bytes -/
def sT (k n : Nat) : Nat := sC k (sB k (sA k n))
def bT (l : Nat) : Nat := bC (bB (bA l))
theorem sB_16 : ∀ (k n : Nat), n < 256 ^ k → sB k (sA k n) % 16 ≤ 4 := by
  intro k
  cases k with
  | zero =>
    intro n hn
    unfold sB
    rw [rep8_0, rep8_0]
    omega
  | succ k =>
    intro n hn
    have hb := byC ⟨n % 256, by omega⟩
    rw [show n = 256 * (n / 256) + n % 256 by omega, sA_s _ _ _ (by omega), sB_s _ _ _ hb.1]
    have := hb.2.2.1
    omega
theorem sT_s (k n : Nat) (hn : n < 256 ^ (k + 1)) : sT (k + 1) n = 256 * sT k (n / 256) + bT (n % 256) := by
  have hb := byC ⟨n % 256, by omega⟩
  have hk : n / 256 < 256 ^ k := by
    rw [Nat.pow_succ] at hn
    omega
  unfold sT bT
  have e : n = 256 * (n / 256) + n % 256 := by omega
  have e1 : sA (k + 1) n = 256 * sA k (n / 256) + bA (n % 256) := by
    have := sA_s k (n / 256) (n % 256) (by omega)
    rw [← e] at this
    exact this
  rw [e1, sB_s _ _ _ hb.1, sC_s _ _ _ hb.2.1 (sB_16 k _ hk)]
theorem cnt_add (f : Nat → Bool) (a : Nat) : ∀ b : Nat, cnt f (a + b) = cnt f a + cnt (fun i => f (a + i)) b := by
  intro b
  induction b with
  | zero => show cnt f a = cnt f a + 0; omega
  | succ b ih =>
    show cnt f (a + b) + (if f (a + b) = true then 1 else 0) = cnt f a + (cnt (fun i => f (a + i)) b + (if f (a + b) = true then 1 else 0))
    omega
theorem cnt_byte (n m : Nat) : cnt (fun i => n.testBit i) (8 + m) = ((bT (n % 256) : Nat) : Int) + cnt (fun i => (n / 256).testBit i) m := by
  have hb := (byC ⟨n % 256, by omega⟩).2.2.2
  rw [cnt_add]
  congr 1
  · unfold bT
    rw [hb]
    refine cnt_congr (fun k hk => ?_)
    have : (256 : Nat) = 2 ^ 8 := by decide
    show n.testBit k = (n % 256).testBit k
    rw [this, Nat.testBit_mod_two_pow]
    simp [hk]
  · refine cnt_congr (fun k hk => ?_)
    have : (256 : Nat) = 2 ^ 8 := by decide
    show n.testBit (8 + k) = (n / 256).testBit k
    rw [Nat.add_comm, this, Nat.testBit_add]
/-- the last steps -/
def sZ (y : Nat) : Nat := ((y + y / 256 + (y + y / 256) / 65536) + (y + y / 256 + (y + y / 256) / 65536) / 4294967296) % 128
theorem bT_8 (n : Nat) : bT (n % 256) ≤ 8 := by
  have hb := (byC ⟨n % 256, by omega⟩).2.2.2
  have := (cnt_b (fun i => (n % 256).testBit i) 8).2
  unfold bT
  have h2 : ((bC (bB (bA (n % 256))) : Nat) : Int) = cnt (fun i => (n % 256).testBit i) 8 := hb
  omega
theorem dvl {K lo : Nat} (hi : Nat) (h : lo < K) : (lo + K * hi) / K = hi := by
  rw [Nat.add_mul_div_left _ _ (by omega), Nat.div_eq_of_lt h, Nat.zero_add]
theorem eq_lin (x0 x1 x2 x3 x4 x5 x6 x7 : Nat) : 256 * (256 * (256 * (256 * (256 * (256 * (256 * (256 * 0 + x7) + x6) + x5) + x4) + x3) + x2) + x1) + x0 = x0 + 256 * (x1 + 256 * (x2 + 256 * (x3 + 256 * (x4 + 256 * (x5 + 256 * (x6 + 256 * x7)))))) := by omega
theorem sZ_sum {x0 x1 x2 x3 x4 x5 x6 x7 : Nat} (b0 : x0 ≤ 8) (b1 : x1 ≤ 8) (b2 : x2 ≤ 8) (b3 : x3 ≤ 8) (b4 : x4 ≤ 8) (b5 : x5 ≤ 8) (b6 : x6 ≤ 8) (b7 : x7 ≤ 8) : sZ (x0 + 256 * (x1 + 256 * (x2 + 256 * (x3 + 256 * (x4 + 256 * (x5 + 256 * (x6 + 256 * x7))))))) = x0 + x1 + x2 + x3 + x4 + x5 + x6 + x7 := by
  unfold sZ
  rw [dvl (K := 256) (lo := x0) _ (by omega)]
  have f2 : x0 + 256 * (x1 + 256 * (x2 + 256 * (x3 + 256 * (x4 + 256 * (x5 + 256 * (x6 + 256 * x7)))))) + (x1 + 256 * (x2 + 256 * (x3 + 256 * (x4 + 256 * (x5 + 256 * (x6 + 256 * x7)))))) = ((x0 + x1) + 256 * (x1 + x2)) + 65536 * ((x2 + x3) + 256 * ((x3 + x4) + 256 * ((x4 + x5) + 256 * ((x5 + x6) + 256 * ((x6 + x7) + 256 * x7))))) := by clear b0 b1 b2 b3 b4 b5 b6 b7; omega
  rw [f2, dvl (K := 65536) _ (by clear f2 b3 b4 b5 b6 b7; omega)]
  have f4 : ((x0 + x1) + 256 * (x1 + x2)) + 65536 * ((x2 + x3) + 256 * ((x3 + x4) + 256 * ((x4 + x5) + 256 * ((x5 + x6) + 256 * ((x6 + x7) + 256 * x7))))) + ((x2 + x3) + 256 * ((x3 + x4) + 256 * ((x4 + x5) + 256 * ((x5 + x6) + 256 * ((x6 + x7) + 256 * x7))))) = ((x0 + x1 + x2 + x3) + 256 * ((x1 + x2 + x3 + x4) + 256 * ((x2 + x3 + x4 + x5) + 256 * (x3 + x4 + x5 + x6)))) + 4294967296 * ((x4 + x5 + x6 + x7) + 256 * ((x5 + x6 + x7) + 256 * ((x6 + x7) + 256 * x7))) := by clear f2 b0 b1 b2 b3 b4 b5 b6 b7; omega
  rw [f4, dvl (K := 4294967296) _ (by clear f2 f4 b7; omega)]
  have f6 : ((x0 + x1 + x2 + x3) + 256 * ((x1 + x2 + x3 + x4) + 256 * ((x2 + x3 + x4 + x5) + 256 * (x3 + x4 + x5 + x6)))) + 4294967296 * ((x4 + x5 + x6 + x7) + 256 * ((x5 + x6 + x7) + 256 * ((x6 + x7) + 256 * x7))) + ((x4 + x5 + x6 + x7) + 256 * ((x5 + x6 + x7) + 256 * ((x6 + x7) + 256 * x7))) = (x0 + x1 + x2 + x3 + x4 + x5 + x6 + x7) + 128 * (2 * ((x1 + x2 + x3 + x4) + 256 * ((x2 + x3 + x4 + x5) + 256 * (x3 + x4 + x5 + x6))) + 33554432 * ((x4 + x5 + x6 + x7) + 256 * ((x5 + x6 + x7) + 256 * ((x6 + x7) + 256 * x7))) + 2 * ((x5 + x6 + x7) + 256 * ((x6 + x7) + 256 * x7))) := by clear f2 f4 b0 b1 b2 b3 b4 b5 b6 b7; omega
  rw [f6, Nat.add_mul_mod_self_left, Nat.mod_eq_of_lt]
  clear f2 f4 f6
  omega
theorem sT_le {x0 x1 x2 x3 x4 x5 x6 x7 : Nat} (b0 : x0 ≤ 8) (b1 : x1 ≤ 8) (b2 : x2 ≤ 8) (b3 : x3 ≤ 8) (b4 : x4 ≤ 8) (b5 : x5 ≤ 8) (b6 : x6 ≤ 8) (b7 : x7 ≤ 8) : x0 + 256 * (x1 + 256 * (x2 + 256 * (x3 + 256 * (x4 + 256 * (x5 + 256 * (x6 + 256 * x7)))))) ≤ 578721382704613384 := by omega
theorem pop_nat {n : Nat} (hn : n < 256 ^ 8) : ((sZ (sT 8 n) : Nat) : Int) = cnt (fun i => n.testBit i) 64 ∧ sT 8 n ≤ 578721382704613384 := by
  have d : ∀ k m, m < 256 ^ (k + 1) → m / 256 < 256 ^ k := fun k m h => by rw [Nat.pow_succ] at h; omega
  have n1 := d 7 n hn
  have n2 := d 6 _ n1
  have n3 := d 5 _ n2
  have n4 := d 4 _ n3
  have n5 := d 3 _ n4
  have n6 := d 2 _ n5
  have n7 := d 1 _ n6
  have t0 : ∀ m, sT 0 m = 0 := fun m => by unfold sT sC; exact rep8_0 _ _
  have e : sT 8 n = bT (n % 256) + 256 * (bT (n / 256 % 256) + 256 * (bT (n / 256 / 256 % 256) + 256 * (bT (n / 256 / 256 / 256 % 256) + 256 * (bT (n / 256 / 256 / 256 / 256 % 256) + 256 * (bT (n / 256 / 256 / 256 / 256 / 256 % 256) + 256 * (bT (n / 256 / 256 / 256 / 256 / 256 / 256 % 256) + 256 * bT (n / 256 / 256 / 256 / 256 / 256 / 256 / 256 % 256))))))) := by
    rw [sT_s 7 n hn, sT_s 6 _ n1, sT_s 5 _ n2, sT_s 4 _ n3, sT_s 3 _ n4, sT_s 2 _ n5, sT_s 1 _ n6, sT_s 0 _ n7, t0]
    exact eq_lin _ _ _ _ _ _ _ _
  have c : cnt (fun i => n.testBit i) 64 = ((bT (n % 256) : Nat) : Int) + (((bT (n / 256 % 256) : Nat) : Int) + (((bT (n / 256 / 256 % 256) : Nat) : Int) + (((bT (n / 256 / 256 / 256 % 256) : Nat) : Int) + (((bT (n / 256 / 256 / 256 / 256 % 256) : Nat) : Int) + (((bT (n / 256 / 256 / 256 / 256 / 256 % 256) : Nat) : Int) + (((bT (n / 256 / 256 / 256 / 256 / 256 / 256 % 256) : Nat) : Int) + (((bT (n / 256 / 256 / 256 / 256 / 256 / 256 / 256 % 256) : Nat) : Int) + 0))))))) := by
    rw [show 64 = 8 + (8 + (8 + (8 + (8 + (8 + (8 + (8 + 0))))))) by decide, cnt_byte, cnt_byte, cnt_byte, cnt_byte, cnt_byte, cnt_byte, cnt_byte, cnt_byte]
    rfl
  have b0 := bT_8 n
  have b1 := bT_8 (n / 256)
  have b2 := bT_8 (n / 256 / 256)
  have b3 := bT_8 (n / 256 / 256 / 256)
  have b4 := bT_8 (n / 256 / 256 / 256 / 256)
  have b5 := bT_8 (n / 256 / 256 / 256 / 256 / 256)
  have b6 := bT_8 (n / 256 / 256 / 256 / 256 / 256 / 256)
  have b7 := bT_8 (n / 256 / 256 / 256 / 256 / 256 / 256 / 256)
  rw [e, c, sZ_sum b0 b1 b2 b3 b4 b5 b6 b7]
  refine ⟨?_, sT_le b0 b1 b2 b3 b4 b5 b6 b7⟩
  clear e c n1 n2 n3 n4 n5 n6 n7 d hn b0 b1 b2 b3 b4 b5 b6 b7 t0
  generalize bT (n % 256) = x0
  generalize bT (n / 256 % 256) = x1
  generalize bT (n / 256 / 256 % 256) = x2
  generalize bT (n / 256 / 256 / 256 % 256) = x3
  generalize bT (n / 256 / 256 / 256 / 256 % 256) = x4
  generalize bT (n / 256 / 256 / 256 / 256 / 256 % 256) = x5
  generalize bT (n / 256 / 256 / 256 / 256 / 256 / 256 % 256) = x6
  generalize bT (n / 256 / 256 / 256 / 256 / 256 / 256 / 256 % 256) = x7
  omega
