/-! settle: the reference goes through all ways -/
def lowT (u : Nat → Bool) (S : Nat → Int) (N : Nat) (p : Nat → Int) (t : Nat) : Nat → Int := fun k => if t ≤ k ∧ k < N ∧ u k = true then (lwN (S k) : Int) else p k
noncomputable def oDone (d : Nat) (V : XM) (n : Int) (q : Nat → Int) : XR := Xf (d + 5) 249 194 [xr 14 0, xi n, xr 0 0, xr 0 0, xr 0 0, xi 0, xr 0 0] [] (xrow V 89 q)
noncomputable def oLoop (d : Nat) (V : XM) (n : Int) (p : Nat → Int) : XR := Xf (d + 5) 249 162 [xr 14 0, xi n, xr 0 0, xr 0 0, xi 1, xr 0 0, xr 0 0] [] (xrow V 89 p)
noncomputable def oCont (d : Nat) (V : XM) (n : Int) (t : Nat) (p : Nat → Int) : XR := ci (Xf (d + 4) 248 7 [xr 14 0, xi ((t : Int) - 1), xr 0 0, xr 0 0] [] (xrow V 89 p)) (fun x V3 => Xf (d + 5) 249 162 [xr 14 0, xi n, xr 0 0, xr 0 0, xi x, xr 0 0, xr 0 0] [] V3)
def odR (o : Option (Nat → Int)) (f : (Nat → Int) → XR) (z : XR) : XR := match o with
  | some q => f q
  | none => z
theorem oLoop_eq (d : Nat) (V : XM) {B p : Nat → Int} {N : Nat} (n : Int) (h : KR V B N) (hv : vp N p) : oLoop d V n p = if kpB V B N p = true then oDone d V n p else oCont d V n N p := by
  have t2 : N ≤ 64 := by have := h.1.2.2.1; have := h.2.1; omega
  have e9 : (xrow V 89 p) 14 0 9 = (N : Int) := h.2.1
  have wn : Unit → w32 ((N : Int) - 1) = (N : Int) - 1 := fun _ => w32_i (by omega) (by omega)
  unfold oLoop oDone oCont
  rw [s_X12_settle_162, if_neg (by omega), y_keeps (d + 1) V h hv, ci_r]
  by_cases c : kpB V B N p = true
  · rw [if_pos c, if_pos c, if_neg (by omega), if_neg (by omega)]
  · rw [if_neg c, if_neg c, if_pos rfl, s_X12_goesOn, e9, wn ()]
theorem oCont_0 (d : Nat) (V : XM) (n : Int) (p : Nat → Int) : oCont d V n 0 p = some (xi (-5), xrow V 89 p) := by
  unfold oCont
  rw [s_X12_goesOn_7, if_pos (by omega), ci_r, s_X12_settle_162, if_pos rfl, if_pos rfl]
theorem oCont_skip (d : Nat) (V : XM) (n : Int) {t : Nat} (p : Nat → Int) (ht : t < 64) (hu : ¬ unsB V t = true) : oCont d V n (t + 1) p = oCont d V n t p := by
  have e1 : ((t + 1 : Nat) : Int) - 1 = (t : Int) := by omega
  have wt : Unit → w32 ((t : Int) + -1) = (t : Int) - 1 := fun _ => by rw [w32_i (by omega) (by omega)]; omega
  have F := y_rUns (d + 3) (xrow V 89 p) (t := (t : Int)) (by omega) (by omega)
  rw [Int.toNat_natCast] at F
  have hn : ¬ unsB (xrow V 89 p) t = true := hu
  unfold oCont
  rw [e1, s_X12_goesOn_7, if_neg (by omega), F, ci_r, ite_b2, if_neg hn, wt ()]
/-- the bits behind a place -/
theorem more_bt (s : Int) {w : Nat} (hw : w < 64) (i : Nat) : bt (lUshr (lUshr s (w : Int)) 1) i = bt s (w + 1 + i) := by
  rw [bt_ushr _ (by omega) (by omega), bt_ushr _ (by omega) (by omega), Int.toNat_natCast]
  rw [show (1 : Int).toNat = 1 by decide, Nat.add_assoc]
theorem more_0 (s : Int) {w : Nat} (hw : w < 64) : lUshr (lUshr s (w : Int)) 1 = 0 ↔ ∀ x, w < x → x < 64 → bt s x = false := by
  rw [bt_eq0 (lUshr_c _ _)]
  constructor
  · intro h x x1 x2
    have := h (x - w - 1) (by omega)
    rw [more_bt s hw, show w + 1 + (x - w - 1) = x by omega] at this
    exact this
  · intro h i hi
    rw [more_bt s hw]
    by_cases c : w + 1 + i < 64
    · exact h _ (by omega) c
    · exact bt_big _ (by omega)
theorem oCont_next (d : Nat) (V : XM) (n : Int) {t w b : Nat} {p : Nat → Int} (ht : t < 64) (hu : unsB V t = true) (hp : p t = (w : Int)) (hw : w < b) (hb : b < 64) (h1 : bt (V 81 0 t) b = true) (h2 : ∀ x, w < x → x < b → bt (V 81 0 t) x = false) : oCont d V n (t + 1) p = oLoop d V n (zup p t (b : Int)) := by
  have e1 : ((t + 1 : Nat) : Int) - 1 = (t : Int) := by omega
  have F := y_rUns (d + 3) (xrow V 89 p) (t := (t : Int)) (by omega) (by omega)
  rw [Int.toNat_natCast] at F
  have hn : unsB (xrow V 89 p) t = true := hu
  have i6 : 0 ≤ (t : Int) ∧ (t : Int) < 64 := by omega
  have e81 : (xrow V 89 p) 81 0 t = (V 81 0 t) := rfl
  have e89 : (xrow V 89 p) 89 0 t = (w : Int) := hp
  have hw64 : w < 64 := by omega
  have mz : ¬ lUshr (lUshr (V 81 0 t) (w : Int)) 1 = 0 := fun z => by
    have := (more_0 _ hw64).mp z b hw hb
    rw [h1] at this; cases this
  have mb : ∃ x, x < 64 ∧ bt (lUshr (lUshr (V 81 0 t) (w : Int)) 1) x = true := ⟨b - w - 1, by omega, by rw [more_bt _ hw64, show w + 1 + (b - w - 1) = b by omega]; exact h1⟩
  have ml : lwN (lUshr (lUshr (V 81 0 t) (w : Int)) 1) = b - w - 1 := by
    obtain ⟨l1, l2, l3⟩ := lw_spec mb
    have a1 : ¬ b - w - 1 < lwN (lUshr (lUshr (V 81 0 t) (w : Int)) 1) := fun z => by
      have := l3 _ z
      rw [more_bt _ hw64, show w + 1 + (b - w - 1) = b by omega, h1] at this; cases this
    have a2 : ¬ lwN (lUshr (lUshr (V 81 0 t) (w : Int)) 1) < b - w - 1 := fun z => by
      rw [more_bt _ hw64] at l2
      have := h2 (w + 1 + lwN (lUshr (lUshr (V 81 0 t) (w : Int)) 1)) (by omega) (by omega)
      rw [l2] at this; cases this
    omega
  have L := y_low (d + 3) (xrow V 89 p) mb
  rw [ml] at L
  have ww : Unit → w32 (w32 ((w : Int) + 1) + ((b - w - 1 : Nat) : Int)) = (b : Int) := fun _ => by rw [w32_add, w32_i (by omega) (by omega)]; omega
  unfold oCont oLoop
  rw [e1, s_X12_goesOn_7, if_neg (by omega), F, ci_r, ite_b2, if_pos hn, if_pos i6, if_pos i6, Int.toNat_natCast, e81, e89]
  simp only [cmp3_eq]
  rw [if_neg mz, if_pos i6, L, ci_r, if_pos i6, ci_r, ww (), xrow_u]
theorem oCont_over (d : Nat) (V : XM) (n : Int) {t w : Nat} {p : Nat → Int} (ht : t < 64) (hu : unsB V t = true) (hp : p t = (w : Int)) (hw : w < 64) (h1 : bt (V 81 0 t) w = true) (h2 : ∀ x, w < x → x < 64 → bt (V 81 0 t) x = false) : oCont d V n (t + 1) p = oCont d V n t (zup p t (lwN (V 81 0 t) : Int)) := by
  have e1 : ((t + 1 : Nat) : Int) - 1 = (t : Int) := by omega
  have wt : Unit → w32 ((t : Int) + -1) = (t : Int) - 1 := fun _ => by rw [w32_i (by omega) (by omega)]; omega
  have F := y_rUns (d + 3) (xrow V 89 p) (t := (t : Int)) (by omega) (by omega)
  rw [Int.toNat_natCast] at F
  have hn : unsB (xrow V 89 p) t = true := hu
  have i6 : 0 ≤ (t : Int) ∧ (t : Int) < 64 := by omega
  have e81 : (xrow V 89 p) 81 0 t = (V 81 0 t) := rfl
  have e89 : (xrow V 89 p) 89 0 t = (w : Int) := hp
  have mz : lUshr (lUshr (V 81 0 t) (w : Int)) 1 = 0 := (more_0 _ hw).mpr h2
  have L := y_low (d + 3) (xrow V 89 p) (s := (V 81 0 t)) ⟨w, hw, h1⟩
  unfold oCont
  rw [e1, s_X12_goesOn_7, if_neg (by omega), F, ci_r, ite_b2, if_pos hn, if_pos i6, if_pos i6, Int.toNat_natCast, e81, e89]
  simp only [cmp3_eq]
  rw [if_pos mz, if_pos i6, L, ci_r, if_pos i6, wt (), xrow_u]
theorem x_odo (d : Nat) (V : XM) {B : Nat → Int} {N : Nat} (n : Int) (h : KR V B N) (g : gv V B N (unsB V) (V 81 0)) (hne : ∀ k, k < N → unsB V k = true → ∃ x, x < 64 ∧ bt (V 81 0 k) x = true) : ∀ (m t : Nat) (p : Nat → Int), t + m = N → vp N p → oLoop d V n (lowT (unsB V) (V 81 0) N p t) = odR (sr (kpB V B N) (unsB V) (V 81 0) m t p) (oDone d V n) (oCont d V n t (lowT (unsB V) (V 81 0) N p t)) := by
  have h64 := g.1
  have hvl : ∀ p t, vp N p → vp N (lowT (unsB V) (V 81 0) N p t) := fun p t hv k hk => by
    unfold lowT
    by_cases c : t ≤ k ∧ k < N ∧ unsB V k = true
    · rw [if_pos c]
      obtain ⟨l1, l2, _⟩ := lw_spec (hne k hk c.2.2)
      have := g.2.2.1 k _ hk c.2.2 l1 l2
      exact .inr (by omega)
    · rw [if_neg c]; exact hv k hk
  intro m
  induction m with
  | zero =>
    intro t p ht hv
    have e : lowT (unsB V) (V 81 0) N p t = p := by
      funext k; unfold lowT; rw [if_neg (by omega)]
    have ht : t = N := by omega
    rw [e, oLoop_eq d V n h hv, ht]
    show _ = odR (if kpB V B N p = true then some p else none) _ _
    by_cases c : kpB V B N p = true
    · rw [if_pos c, if_pos c]; rfl
    · rw [if_neg c, if_neg c]; rfl
  | succ m ih =>
    intro t p ht hv
    have htN : t < N := by omega
    show _ = odR (if unsB V t = true then sr1 (fun w => sr (kpB V B N) (unsB V) (V 81 0) m (t + 1) (zup p t (w : Int))) (V 81 0 t) 64 0 else sr (kpB V B N) (unsB V) (V 81 0) m (t + 1) p) _ _
    by_cases c : unsB V t = true
    · rw [if_pos c]
      obtain ⟨l1, l2, l3⟩ := lw_spec (hne t htN c)
      have zl : ∀ x y : Int, zup (lowT (unsB V) (V 81 0) N (zup p t x) (t + 1)) t y = lowT (unsB V) (V 81 0) N (zup p t y) (t + 1) := fun x y => by
        funext k
        by_cases e : k = t
        · subst e
          rw [zup_eq]
          unfold lowT
          rw [if_neg (by omega), zup_eq]
        · rw [zup_ne e]
          unfold lowT
          rw [zup_ne e, zup_ne e]
      have inner : ∀ (k w : Nat), w + k = 64 → bt (V 81 0 t) w = true → oLoop d V n (lowT (unsB V) (V 81 0) N (zup p t (w : Int)) (t + 1)) = odR (sr1 (fun w => sr (kpB V B N) (unsB V) (V 81 0) m (t + 1) (zup p t (w : Int))) (V 81 0 t) k w) (oDone d V n) (oCont d V n t (lowT (unsB V) (V 81 0) N (zup p t (lwN (V 81 0 t) : Int)) (t + 1))) := by
        intro k
        induction k using Nat.strongRecOn with
        | ind k ihk =>
          intro w hw hbw
          cases k with
          | zero =>
            have := bt_big (V 81 0 t) (i := w) (by omega)
            rw [hbw] at this; cases this
          | succ k =>
            have hwN := (g.2.2.1 t w htN c (by omega) hbw).1
            have i1 := ih (t + 1) (zup p t (w : Int)) (by omega) (fun x hx => by
              by_cases e : x = t
              · subst e; rw [zup_eq]; exact .inr (by omega)
              · rw [zup_ne e]; exact hv x hx)
            rw [i1, sr1_s, if_pos hbw]
            cases hf : sr (kpB V B N) (unsB V) (V 81 0) m (t + 1) (zup p t (w : Int)) with
            | some q => rfl
            | none =>
              show oCont d V n (t + 1) (lowT (unsB V) (V 81 0) N (zup p t (w : Int)) (t + 1)) = odR (sr1 (fun w => sr (kpB V B N) (unsB V) (V 81 0) m (t + 1) (zup p t (w : Int))) (V 81 0 t) k (w + 1)) (oDone d V n) _
              have pt : lowT (unsB V) (V 81 0) N (zup p t (w : Int)) (t + 1) t = (w : Int) := by
                unfold lowT; rw [if_neg (by omega), zup_eq]
              have ek : k = 64 - (w + 1) := by omega
              rcases ff_spec (bt (V 81 0 t)) k (w + 1) with ⟨y1, y2⟩ | ⟨b, y1, y2, y3, y4, y5⟩
              · rw [ek, sr1_none (by omega) (fun x x1 x2 => y2 x x1 (by omega)), oCont_over d V n (by omega) c pt (by omega) hbw (fun x x1 x2 => y2 x (by omega) (by omega)), zl]
                rfl
              · rw [ek, sr1_skip _ _ (b - (w + 1)) (w + 1) b rfl y2 (by omega) (fun x x1 x2 => y5 x x1 x2), oCont_next d V n (by omega) c pt (by omega) (by omega) y4 (fun x x1 x2 => y5 x (by omega) x2), zl]
                exact ihk (64 - b) (by omega) b (by omega) y4
      have e1 : lowT (unsB V) (V 81 0) N p t = lowT (unsB V) (V 81 0) N (zup p t (lwN (V 81 0 t) : Int)) (t + 1) := by
        funext k
        unfold lowT
        by_cases e : k = t
        · subst e
          rw [if_pos ⟨by omega, htN, c⟩, if_neg (by omega), zup_eq]
        · rw [zup_ne e]
          by_cases c2 : t + 1 ≤ k ∧ k < N ∧ unsB V k = true
          · rw [if_pos c2, if_pos ⟨by omega, c2.2⟩]
          · rw [if_neg c2, if_neg (fun z => c2 ⟨by omega, z.2⟩)]
      have e2 := sr1_skip (fun w => sr (kpB V B N) (unsB V) (V 81 0) m (t + 1) (zup p t (w : Int))) (V 81 0 t) (lwN (V 81 0 t)) 0 (lwN (V 81 0 t)) (by omega) (by omega) (by omega) (fun x _ hx => l3 x hx)
      rw [e1, inner (64 - lwN (V 81 0 t)) (lwN (V 81 0 t)) (by omega) l2, ← e2]
    · rw [if_neg c]
      have e1 : lowT (unsB V) (V 81 0) N p t = lowT (unsB V) (V 81 0) N p (t + 1) := by
        funext k
        unfold lowT
        by_cases c2 : t + 1 ≤ k ∧ k < N ∧ unsB V k = true
        · rw [if_pos c2, if_pos ⟨by omega, c2.2⟩]
        · by_cases e : k = t
          · rw [if_neg (fun z => c (by rw [← e]; exact z.2.2)), if_neg c2]
          · rw [if_neg c2, if_neg (fun z => c2 ⟨by omega, z.2⟩)]
      rw [e1, ih (t + 1) p (by omega) hv, oCont_skip d V n _ (by omega) c]
