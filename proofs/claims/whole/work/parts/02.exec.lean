/-! the runs of the abstract machine: with fuel, then without -/
/-- one call deeper -/
def xdn (g : Nat → Nat → List XS → XM → XR) : Nat → Nat → List XS → XM → XR
  | 0, _, _, _ => none
  | d + 1, m, as, V => g d m as V
def xex (w : XW) (P : Nat → List XB) (ml : Nat → Nat) (md : Bool) : Nat → Nat → Nat → Nat → List XS → List XS → XM → XR
  | 0, _, _, _, _, _, _ => none
  | f + 1, d, m, pc, ls, st, V => xmac w md (P m) (fun pc ls st V => xex w P ml md f d m pc ls st V) (xdn (fun d m as V => xex w P ml md f d m 0 (xpad (ml m) (xsl as)) [] V) d) pc ls st V
/-- from some fuel on -/
def xev (p : Nat → Prop) : Prop := ∃ f0 : Nat, ∀ f : Nat, f0 ≤ f → p f
theorem xev_of {p : Nat → Prop} (h : ∀ f, p f) : xev p := ⟨0, fun f _ => h f⟩
theorem ci_some {x : XR} {k : Int → XM → XR} {r : XS × XM} (h : ci x k = some r) : ∃ v V, x = some (xi v, V) ∧ k v V = some r := by
  match x, h with
  | some (.inl v, V), h => exact ⟨v, V, rfl, h⟩
theorem cl_some {x : XR} {k : Int → XM → XR} {r : XS × XM} (h : cl x k = some r) : ∃ v V, x = some (xl v, V) ∧ k v V = some r := by
  match x, h with
  | some (.inr (.inl v), V), h => exact ⟨v, V, rfl, h⟩
theorem cr_some {x : XR} {k : XM → XR} {r : XS × XM} (h : cr x k = some r) : ∃ V, x = some (xr 9 0, V) ∧ k V = some r := by
  unfold cr at h
  split at h
  · exact ⟨_, rfl, h⟩
  · cases h
theorem cv_some {x : XR} {k : XM → XR} {r : XS × XM} (h : cv x k = some r) : ∃ v V, x = some (v, V) ∧ k V = some r := by
  match x, h with
  | some (v, V), h => exact ⟨v, V, rfl, h⟩
section
variable {w : XW} {md : Bool} {F : Nat → List XS → List XS → XM → XR} {C : Nat → List XS → XM → XR} {K : List XS → List XS → XM → XR}
  {F' : Nat → Nat → List XS → List XS → XM → XR} {C' : Nat → Nat → List XS → XM → XR} {K' : Nat → List XS → List XS → XM → XR}
theorem xsw_ev {x : Int} {d : Nat} {G : Nat → XR} {G' : Nat → Nat → XR} (hG : ∀ t r, G t = some r → xev fun f => G' f t = some r) {r : XS × XM} : ∀ (l : List Nat) (lo : Int), xsw x lo d G l = some r → xev fun f => xsw x lo d (G' f) l = some r := by
  intro l
  induction l with
  | nil => intro lo h; exact hG d r h
  | cons t l ih =>
    intro lo h
    simp only [xsw] at h ⊢
    split at h
    · rename_i hc
      simp only [hc, if_true]
      exact hG t r h
    · rename_i hc
      simp only [hc, if_false]
      exact ih _ h
theorem xif_some {b : Bool} {a : XR} {r : XS × XM} (h : xif b a = some r) : b = true ∧ a = some r := by
  cases b with
  | true => exact ⟨rfl, h⟩
  | false => cases h
theorem xif_ev {b : Bool} {a : XR} {a' : Nat → XR} (ha : ∀ r, a = some r → xev fun f => a' f = some r) {r : XS × XM} (h : xif b a = some r) : xev fun f => xif b (a' f) = some r := by
  obtain ⟨rfl, h1⟩ := xif_some h
  exact ha _ h1
theorem xite_ev {c : Prop} [Decidable c] {a : XR} {a' : Nat → XR} (ha : ∀ r, a = some r → xev fun f => a' f = some r) {r : XS × XM} (h : (if c then a else none) = some r) : xev fun f => (if c then a' f else none) = some r := by
  split at h
  · rename_i hc
    simp only [hc, if_true]
    exact ha _ h
  · cases h
theorem xload_ev {g i k : Nat} {j : Int} {V : XM} {G : Int → XR} {G' : Nat → Int → XR} (hG : ∀ x r, G x = some r → xev fun f => G' f x = some r) {r : XS × XM} (h : xload w g i k j G V = some r) : xev fun f => xload w g i k j (G' f) V = some r := by
  unfold xload at h ⊢
  refine xif_ev (fun r h => ?_) h
  split at h
  · rename_i h2
    simp only [h2, and_self, if_true]
    exact hG _ r h
  · cases h
theorem xnew_ev {k : Nat} {c : Int} {V : XM} {G : Nat → Nat → XM → XR} {G' : Nat → Nat → Nat → XM → XR} (hG : ∀ g i V r, G g i V = some r → xev fun f => G' f g i V = some r) {r : XS × XM} (h : xnew w V k c G = some r) : xev fun f => xnew w V k c (G' f) = some r := by
  unfold xnew at h ⊢
  exact xif_ev (fun r h => xif_ev (fun r h => xif_ev (fun r h => hG _ _ _ _ h) h) h) h
theorem ci_ev {x : XR} {x' : Nat → XR} {k : Int → XM → XR} {k' : Nat → Int → XM → XR} (hx : ∀ r, x = some r → xev fun f => x' f = some r) (hk : ∀ v V r, k v V = some r → xev fun f => k' f v V = some r) {r : XS × XM} (h : ci x k = some r) : xev fun f => ci (x' f) (k' f) = some r := by
  obtain ⟨v, V, h1, h2⟩ := ci_some h
  obtain ⟨f1, a1⟩ := hx _ h1
  obtain ⟨f2, a2⟩ := hk _ _ _ h2
  refine ⟨max f1 f2, fun f hf => ?_⟩
  show ci (x' f) (k' f) = some r
  rw [show x' f = _ from a1 f (by omega)]
  exact a2 f (by omega)
theorem cl_ev {x : XR} {x' : Nat → XR} {k : Int → XM → XR} {k' : Nat → Int → XM → XR} (hx : ∀ r, x = some r → xev fun f => x' f = some r) (hk : ∀ v V r, k v V = some r → xev fun f => k' f v V = some r) {r : XS × XM} (h : cl x k = some r) : xev fun f => cl (x' f) (k' f) = some r := by
  obtain ⟨v, V, h1, h2⟩ := cl_some h
  obtain ⟨f1, a1⟩ := hx _ h1
  obtain ⟨f2, a2⟩ := hk _ _ _ h2
  refine ⟨max f1 f2, fun f hf => ?_⟩
  show cl (x' f) (k' f) = some r
  rw [show x' f = _ from a1 f (by omega)]
  exact a2 f (by omega)
theorem cr_ev {x : XR} {x' : Nat → XR} {k : XM → XR} {k' : Nat → XM → XR} (hx : ∀ r, x = some r → xev fun f => x' f = some r) (hk : ∀ V r, k V = some r → xev fun f => k' f V = some r) {r : XS × XM} (h : cr x k = some r) : xev fun f => cr (x' f) (k' f) = some r := by
  obtain ⟨V, h1, h2⟩ := cr_some h
  obtain ⟨f1, a1⟩ := hx _ h1
  obtain ⟨f2, a2⟩ := hk _ _ h2
  refine ⟨max f1 f2, fun f hf => ?_⟩
  show cr (x' f) (k' f) = some r
  rw [show x' f = _ from a1 f (by omega)]
  exact a2 f (by omega)
theorem cv_ev {x : XR} {x' : Nat → XR} {k : XM → XR} {k' : Nat → XM → XR} (hx : ∀ r, x = some r → xev fun f => x' f = some r) (hk : ∀ V r, k V = some r → xev fun f => k' f V = some r) {r : XS × XM} (h : cv x k = some r) : xev fun f => cv (x' f) (k' f) = some r := by
  obtain ⟨v, V, h1, h2⟩ := cv_some h
  obtain ⟨f1, a1⟩ := hx _ h1
  obtain ⟨f2, a2⟩ := hk _ _ h2
  refine ⟨max f1 f2, fun f hf => ?_⟩
  show cv (x' f) (k' f) = some r
  rw [show x' f = _ from a1 f (by omega)]
  exact a2 f (by omega)
end
