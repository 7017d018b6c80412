/-! how the abstract machine's state lies in the machine's -/
def ar (ad : Nat → Nat → Nat) (g i : Nat) : Option Nat := match g with
  | 0 => none
  | g + 1 => some (ad (g + 1) i)
def tv (ad : Nat → Nat → Nat) : XS → Value
  | .inl x => .int (Int32.ofInt x)
  | .inr (.inl x) => .long (Int64.ofInt x)
  | .inr (.inr (.inl x)) => .float (UInt32.ofNat x.toNat)
  | .inr (.inr (.inr (.inl x))) => .double (UInt64.ofNat x.toNat)
  | .inr (.inr (.inr (.inr (g, i)))) => va_rf (ar ad g i)
def rfv (md : Bool) (ad : Nat → Nat → Nat) (a b : Nat) (x : Int) : Option Nat := if md = false ∨ x = 1 then ar ad a b else none
def fv (md : Bool) (row : Nat → Int) (ad : Nat → Nat → Nat) (g i k : Nat) : Value := if isI (vty (WW.1 g - 10) k) = true then .int (Int32.ofInt (row k)) else va_rf (rfv md ad (WW.2.2.1 g k) (WW.2.2.2.1 g i k) (row k))
def ce (md : Bool) (row : Nat → Int) (ad : Nat → Nat → Nat) (dA : Nat → ClassId) (g i : Nat) : va_E := match WW.1 g with
  | 1 => .inl (dA 1, (WW.2.1 g).toNat, .inl (fun j => Int32.ofInt (row j)))
  | 2 => .inl (dA 2, (WW.2.1 g).toNat, .inr (.inl (fun j => Int64.ofInt (row j))))
  | 3 => .inl (dA 3, (WW.2.1 g).toNat, .inl (fun j => Int32.ofInt (row j)))
  | 4 => .inl (dA 4, (WW.2.1 g).toNat, .inr (.inr (.inr (.inl (fun j => UInt64.ofNat (row j).toNat)))))
  | 5 => .inl (dA 5, (WW.2.1 g).toNat, .inr (.inr (.inr (.inr (fun j => rfv md ad (WW.2.2.1 g 0) (WW.2.2.2.1 g i j) (row j))))))
  | 6 => .inl (dA 6, (WW.2.1 g).toNat, .inr (.inr (.inr (.inr (fun j => rfv md ad (WW.2.2.1 g 0) (WW.2.2.2.1 g i j) (row j))))))
  | k => .inr (k - 10, (List.range (vcl (k - 10)).2.2).map (fv md row ad g i))
abbrev tau (k : Nat) : Nat × Nat := WW.2.2.2.2.1 k
def wof (md : Bool) (n : Nat) (V : XM) (ad : Nat → Nat → Nat) (dA : Nat → ClassId) : va_W := (List.range n).map (fun k => (ad (tau k).1 (tau k).2, ce md (V (tau k).1 (tau k).2) ad dA (tau k).1 (tau k).2))
def al (n g i : Nat) : Prop := ∃ k, k < n ∧ tau k = (g, i)
def cK (k : Nat) (x : Int) : Prop := match k with
  | 2 => c64 x
  | 3 => x = 0 ∨ x = 1
  | 4 => 0 ≤ x ∧ x < 18446744073709551616
  | _ => c32 x
def cV (V : XM) : Prop := ∀ g i j, cK (WW.1 g) (V g i j)
def cS (sc : Bool) (n : Nat) : XS → Prop
  | .inl x => c32 x
  | .inr (.inl x) => c64 x
  | .inr (.inr (.inl x)) => 0 ≤ x ∧ x < 4294967296
  | .inr (.inr (.inr (.inl x))) => 0 ≤ x ∧ x < 18446744073709551616
  | .inr (.inr (.inr (.inr (g, i)))) => g = 0 ∨ (sc = true ∧ g = 1 ∧ i = 0) ∨ al n g i
/-- what references hold is there -/
def Iof (n : Nat) : Prop := (∀ (g i j : Nat), al n g i → (WW.1 g = 5 ∨ WW.1 g = 6) → (j : Int) < WW.2.1 g → al n (WW.2.2.1 g 0) (WW.2.2.2.1 g i j)) ∧ ∀ g i k, al n g i → 10 ≤ WW.1 g → k < (vcl (WW.1 g - 10)).2.2 → isI (vty (WW.1 g - 10) k) = false → al n (WW.2.2.1 g k) (WW.2.2.2.1 g i k)
def Iot (n : Nat) (V : XM) : Prop := (∀ g i j, al n g i → (WW.1 g = 5 ∨ WW.1 g = 6) → V g i j = 1 → al n (WW.2.2.1 g 0) (WW.2.2.2.1 g i j)) ∧ ∀ g i k, al n g i → 10 ≤ WW.1 g → isI (vty (WW.1 g - 10) k) = false → V g i k = 1 → al n (WW.2.2.1 g k) (WW.2.2.2.1 g i k)
def Io (md : Bool) (n : Nat) (V : XM) : Prop := match md with
  | false => Iof n
  | true => Iot n V ∧ V 0 0 0 = (n : Int)
/-- the addresses stay -/
def axt (n : Nat) (ad ad' : Nat → Nat → Nat) : Prop := ∀ g i, (g = 1 ∨ al n g i) → ad' g i = ad g i
def dead : XS → Bool
  | .inr (.inr (.inr (.inr (0, _)))) => true
  | _ => false
def lvl (ad : Nat → Nat → Nat) (ls : List XS) : List (Nat × Value) := (List.range ls.length).filterMap (fun k => if dead (xget ls k) = true then none else some (k, tv ad (xget ls k)))
-- facts that the kernel decides
theorem wt_1 : ((List.range 155).all fun k => Nat.blt 1 (tau k).1 && (Nat.beq (WW.1 (tau k).1) 1 || Nat.beq (WW.1 (tau k).1) 2 || Nat.beq (WW.1 (tau k).1) 3 || Nat.beq (WW.1 (tau k).1) 4 || Nat.beq (WW.1 (tau k).1) 5 || Nat.beq (WW.1 (tau k).1) 6 || (Nat.ble 10 (WW.1 (tau k).1) && Nat.blt (WW.1 (tau k).1 - 10) 13))) = true := by decide +kernel
theorem wt_2 : ((List.range 155).map tau).Nodup := by decide +kernel
theorem wt_3 : ((List.range 155).all fun k => decide (0 ≤ WW.2.1 (tau k).1)) = true := by decide +kernel
theorem wt_n : WW.2.2.2.2.2 = 155 := rfl
theorem tau_inj {a b : Nat} (ha : a < 155) (hb : b < 155) (h : tau a = tau b) : a = b := by
  have h1 : ((List.range 155).map tau)[a]? = some (tau a) := by simp [ha]
  have h2 : ((List.range 155).map tau)[b]? = some (tau a) := by rw [h]; simp [hb]
  exact (List.getElem?_inj (by simpa using ha) wt_2).mp (h1.trans h2.symm)
theorem al_kind {n g i : Nat} (hn : n ≤ 155) (h : al n g i) : 1 < g ∧ 0 ≤ WW.2.1 g ∧ (WW.1 g = 1 ∨ WW.1 g = 2 ∨ WW.1 g = 3 ∨ WW.1 g = 4 ∨ WW.1 g = 5 ∨ WW.1 g = 6 ∨ (10 ≤ WW.1 g ∧ WW.1 g - 10 < 13)) := by
  obtain ⟨k, hk, e⟩ := h
  have h1 := List.all_eq_true.mp wt_1 k (List.mem_range.mpr (by omega))
  have h3 := List.all_eq_true.mp wt_3 k (List.mem_range.mpr (by omega))
  rw [e] at h1 h3
  simp only [Bool.and_eq_true, Bool.or_eq_true, decide_eq_true_eq] at h1 h3
  refine ⟨Nat.le_of_ble_eq_true h1.1, h3, ?_⟩
  rcases h1.2 with (((((q | q) | q) | q) | q) | q) | ⟨q1, q2⟩
  · exact Or.inl (Nat.eq_of_beq_eq_true q)
  · exact Or.inr (Or.inl (Nat.eq_of_beq_eq_true q))
  · exact Or.inr (Or.inr (Or.inl (Nat.eq_of_beq_eq_true q)))
  · exact Or.inr (Or.inr (Or.inr (Or.inl (Nat.eq_of_beq_eq_true q))))
  · exact Or.inr (Or.inr (Or.inr (Or.inr (Or.inl (Nat.eq_of_beq_eq_true q)))))
  · exact Or.inr (Or.inr (Or.inr (Or.inr (Or.inr (Or.inl (Nat.eq_of_beq_eq_true q))))))
  · exact Or.inr (Or.inr (Or.inr (Or.inr (Or.inr (Or.inr ⟨Nat.le_of_ble_eq_true q1, Nat.le_of_ble_eq_true q2⟩)))))
theorem al_mono {n n' g i : Nat} (h : al n g i) (hn : n ≤ n') : al n' g i := by
  obtain ⟨k, hk, e⟩ := h
  exact ⟨k, by omega, e⟩
theorem wof_get {md : Bool} {n : Nat} {V : XM} {ad : Nat → Nat → Nat} {dA : Nat → ClassId} {g i k : Nat} (hk : k < n) (e : tau k = (g, i)) : (wof md n V ad dA)[k]? = some (ad g i, ce md (V g i) ad dA g i) := by
  unfold wof
  simp [hk, e]
theorem wof_len {md : Bool} {n : Nat} {V : XM} {ad : Nat → Nat → Nat} {dA : Nat → ClassId} : (wof md n V ad dA).length = n := by unfold wof; simp
/-- one cell is written -/
theorem wof_set {md : Bool} {n : Nat} {V : XM} {ad : Nat → Nat → Nat} {dA : Nat → ClassId} {g i j k : Nat} {x : Int} (hn : n ≤ 155) (hk : k < n) (e : tau k = (g, i)) {c : va_E} (hc : c = ce md (xu V g i j x g i) ad dA g i) : (wof md n V ad dA).set k (ad g i, c) = wof md n (xu V g i j x) ad dA := by
  apply List.ext_getElem?
  intro q
  by_cases hq : q < n
  · by_cases hqk : q = k
    · subst hqk
      rw [List.getElem?_set_self (by rw [wof_len]; exact hk), wof_get hk e, hc]
    · rw [List.getElem?_set_ne (fun h => hqk h.symm)]
      rw [wof_get (g := (tau q).1) (i := (tau q).2) hq rfl, wof_get (g := (tau q).1) (i := (tau q).2) hq rfl]
      have hne : ¬ ((tau q).1 = g ∧ (tau q).2 = i) := by
        intro h
        exact hqk (tau_inj (by omega) (by omega) (by rw [e]; exact Prod.ext h.1 h.2))
      have hr : xu V g i j x (tau q).1 (tau q).2 = V (tau q).1 (tau q).2 := by
        funext c
        unfold xu
        rw [if_neg (fun h => hne ⟨h.1, h.2.1⟩)]
      rw [hr]
  · rw [List.getElem?_eq_none (by rw [List.length_set, wof_len]; omega), List.getElem?_eq_none (by rw [wof_len]; omega)]
theorem xu_row {V : XM} {g i j : Nat} {x : Int} : xu V g i j x g i = fun c => if c = j then x else V g i c := by
  funext c
  unfold xu
  by_cases h : c = j <;> simp [h]
theorem lvl_mem {ad : Nat → Nat → Nat} {ls : List XS} {q : Nat × Value} : q ∈ lvl ad ls ↔ q.1 < ls.length ∧ dead (xget ls q.1) = false ∧ q.2 = tv ad (xget ls q.1) := by
  unfold lvl
  rw [List.mem_filterMap]
  constructor
  · rintro ⟨k, hk, h⟩
    cases hd : dead (xget ls k) with
    | true => rw [hd] at h; simp at h
    | false =>
      rw [hd] at h
      simp only [Bool.false_eq_true, if_false, Option.some.injEq] at h
      subst h
      exact ⟨List.mem_range.mp hk, hd, rfl⟩
  · rintro ⟨h1, h2, h3⟩
    refine ⟨q.1, List.mem_range.mpr h1, ?_⟩
    rw [h2]
    simp only [Bool.false_eq_true, if_false, Option.some.injEq]
    exact Prod.ext rfl h3.symm
theorem xset_length (v : XS) : ∀ (ls : List XS) (i : Nat), (xset ls i v).length = ls.length := by
  intro ls
  induction ls with
  | nil => intro i; rfl
  | cons a l ih => intro i; cases i with
    | zero => rfl
    | succ n => simp [xset, ih n]
theorem xget_set (v : XS) : ∀ (ls : List XS) (i k : Nat), i < ls.length → xget (xset ls i v) k = if k = i then v else xget ls k := by
  intro ls
  induction ls with
  | nil => intro i k h; simp at h
  | cons a l ih =>
    intro i k h
    cases i with
    | zero => cases k with
      | zero => rfl
      | succ k => simp [xset, xget]
    | succ i => cases k with
      | zero => simp [xset, xget]
      | succ k =>
        simp only [xset, xget, Nat.succ.injEq, Nat.add_right_cancel_iff]
        exact ih i k (by simpa using h)
theorem xget_mem : ∀ (ls : List XS) (k : Nat), k < ls.length → xget ls k ∈ ls := by
  intro ls
  induction ls with
  | nil => intro k h; simp at h
  | cons a l ih => intro k h; cases k with
    | zero => exact List.mem_cons_self
    | succ k => exact List.mem_cons_of_mem _ (ih k (by simpa using h))
theorem xget_out : ∀ (ls : List XS) (k : Nat), ls.length ≤ k → xget ls k = xr 0 0 := by
  intro ls
  induction ls with
  | nil => intro k h; rfl
  | cons a l ih => intro k h; cases k with
    | zero => simp at h
    | succ k => exact ih k (by simpa using h)
theorem xset_mem {v w : XS} : ∀ (ls : List XS) (i : Nat), w ∈ xset ls i v → w = v ∨ w ∈ ls := by
  intro ls
  induction ls with
  | nil => intro i h; exact Or.inr h
  | cons a l ih => intro i h; cases i with
    | zero =>
      rcases List.mem_cons.mp h with h | h
      · exact Or.inl h
      · exact Or.inr (List.mem_cons_of_mem _ h)
    | succ i =>
      rcases List.mem_cons.mp h with h | h
      · exact Or.inr (h ▸ List.mem_cons_self)
      · rcases ih i h with h | h
        · exact Or.inl h
        · exact Or.inr (List.mem_cons_of_mem _ h)
theorem xmask_length : ∀ (b : List Bool) (ls : List XS), b.length = ls.length → (xmask b ls).length = ls.length := by
  intro b
  induction b with
  | nil => intro ls h; cases ls with
    | nil => rfl
    | cons a l => simp at h
  | cons a b ih => intro ls h; cases ls with
    | nil => simp at h
    | cons v l => cases a <;> simp [xmask, ih l (by simpa using h)]
theorem xmask_get : ∀ (b : List Bool) (ls : List XS) (k : Nat), xget (xmask b ls) k = xget ls k ∨ xget (xmask b ls) k = xr 0 0 := by
  intro b
  induction b with
  | nil => intro ls k; cases ls <;> exact Or.inr rfl
  | cons a b ih => intro ls k; cases ls with
    | nil => cases a <;> exact Or.inr rfl
    | cons v l => cases k with
      | zero => cases a with
        | false => exact Or.inr rfl
        | true => exact Or.inl rfl
      | succ k => cases a <;> exact ih l k
theorem xmask_mem {w : XS} : ∀ (b : List Bool) (ls : List XS), w ∈ xmask b ls → w = xr 0 0 ∨ w ∈ ls := by
  intro b
  induction b with
  | nil => intro ls h; cases ls <;> cases h
  | cons a b ih => intro ls h; cases ls with
    | nil => cases a <;> cases h
    | cons v l => cases a with
      | false =>
        rcases List.mem_cons.mp h with h | h
        · exact Or.inl h
        · exact (ih l h).imp id (List.mem_cons_of_mem _)
      | true =>
        rcases List.mem_cons.mp h with h | h
        · exact Or.inr (h ▸ List.mem_cons_self)
        · exact (ih l h).imp id (List.mem_cons_of_mem _)
