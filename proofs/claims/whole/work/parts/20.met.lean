/-! soundness: runs, and the contract of a call -/
theorem xblk_mem {B : List XB} {pc : Nat} {b : XB} : xblk B pc = some b → b ∈ B ∧ b.1 = pc := by
  induction B with
  | nil => intro h; cases h
  | cons a B ih =>
    intro h
    simp only [xblk] at h
    split at h
    · rename_i q
      cases h
      exact ⟨List.mem_cons_self, bq q⟩
    · exact ⟨List.mem_cons_of_mem _ (ih h).1, (ih h).2⟩
theorem xsl_len : ∀ (as : List XS), (xsl as).length = xsum as := by
  intro as
  induction as with
  | nil => rfl
  | cons v l ih =>
    match v with
    | .inl x => simp only [xsl, List.length_cons, xsum, xcat, ih]; omega
    | .inr (.inl x) => simp only [xsl, List.length_cons, xsum, xcat, ih]; omega
    | .inr (.inr (.inl x)) => simp only [xsl, List.length_cons, xsum, xcat, ih]; omega
    | .inr (.inr (.inr (.inl x))) => simp only [xsl, List.length_cons, xsum, xcat, ih]; omega
    | .inr (.inr (.inr (.inr (g, i)))) => simp only [xsl, List.length_cons, xsum, xcat, ih]; omega
theorem xpad_len : ∀ (n : Nat) (l : List XS), (xpad n l).length = n := by
  intro n
  induction n with
  | zero => intro l; rfl
  | succ n ih => intro l; cases l <;> simp [xpad, ih]
theorem xpad_mem {v : XS} : ∀ (n : Nat) (l : List XS), v ∈ xpad n l → v = xr 0 0 ∨ v ∈ l := by
  intro n
  induction n with
  | zero => intro l h; cases h
  | succ n ih =>
    intro l h
    cases l with
    | nil =>
      rcases List.mem_cons.mp h with h | h
      · exact Or.inl h
      · exact (ih [] h)
    | cons a l =>
      rcases List.mem_cons.mp h with h | h
      · exact Or.inr (h ▸ List.mem_cons_self)
      · exact (ih l h).imp id (List.mem_cons_of_mem _)
theorem xsl_mem {v : XS} : ∀ (l : List XS), v ∈ xsl l → v = xr 0 0 ∨ v ∈ l := by
  intro l
  induction l with
  | nil => intro h; cases h
  | cons a l ih =>
    intro h
    have one : v ∈ a :: xsl l → v = xr 0 0 ∨ v ∈ a :: l := fun h => by
      rcases List.mem_cons.mp h with h | h
      · exact Or.inr (h ▸ List.mem_cons_self)
      · exact (ih h).imp id (List.mem_cons_of_mem _)
    have two : v ∈ a :: xr 0 0 :: xsl l → v = xr 0 0 ∨ v ∈ a :: l := fun h => by
      rcases List.mem_cons.mp h with h | h
      · exact Or.inr (h ▸ List.mem_cons_self)
      · rcases List.mem_cons.mp h with h | h
        · exact Or.inl h
        · exact (ih h).imp id (List.mem_cons_of_mem _)
    match a, h, one, two with
    | .inl x, h, one, _ => exact one h
    | .inr (.inl x), h, _, two => exact two h
    | .inr (.inr (.inl x)), h, one, _ => exact one h
    | .inr (.inr (.inr (.inl x))), h, _, two => exact two h
    | .inr (.inr (.inr (.inr (g, i)))), h, one, _ => exact one h
theorem xpad_get : ∀ (n : Nat) (l : List XS) (k : Nat), dead (xget (xpad n l) k) = false → k < l.length ∧ xget (xpad n l) k = xget l k := by
  intro n
  induction n with
  | zero => intro l k h; cases h
  | succ n ih =>
    intro l k h
    cases l with
    | nil => cases k with
      | zero => cases h
      | succ k => exact absurd (ih [] k h).1 (by simp)
    | cons a l => cases k with
      | zero => exact ⟨by simp, rfl⟩
      | succ k =>
        obtain ⟨h1, h2⟩ := ih l k h
        exact ⟨by simpa using h1, h2⟩
theorem xsl_args (ad : Nat → Nat → Nat) : ∀ (as : List XS) (o k : Nat), dead (xget (xsl as) k) = false → (o + k, tv ad (xget (xsl as) k)) ∈ lv_args o (as.map (tv ad)) := by
  intro as
  induction as with
  | nil => intro o k h; cases h
  | cons a l ih =>
    intro o k h
    have one : xsl (a :: l) = a :: xsl l → xcat a = 1 → (o + k, tv ad (xget (xsl (a :: l)) k)) ∈ lv_args o ((a :: l).map (tv ad)) := fun e hc => by
      rw [e] at h ⊢
      show _ ∈ (o, tv ad a) :: lv_args (if (tv ad a).category = 2 then o + 2 else o + 1) (l.map (tv ad))
      rw [tv_cat, hc, if_neg (by omega)]
      cases k with
      | zero => exact List.mem_cons_self
      | succ k =>
        have := ih (o + 1) k h
        rw [show o + (k + 1) = o + 1 + k by omega]
        exact List.mem_cons_of_mem _ this
    have two : xsl (a :: l) = a :: xr 0 0 :: xsl l → xcat a = 2 → (o + k, tv ad (xget (xsl (a :: l)) k)) ∈ lv_args o ((a :: l).map (tv ad)) := fun e hc => by
      rw [e] at h ⊢
      show _ ∈ (o, tv ad a) :: lv_args (if (tv ad a).category = 2 then o + 2 else o + 1) (l.map (tv ad))
      rw [tv_cat, hc, if_pos rfl]
      match k, h with
      | 0, h => exact List.mem_cons_self
      | 1, h => cases h
      | k + 2, h =>
        have := ih (o + 2) k h
        rw [show o + (k + 2) = o + 2 + k by omega]
        exact List.mem_cons_of_mem _ this
    match a, one, two with
    | .inl x, one, _ => exact one rfl rfl
    | .inr (.inl x), _, two => exact two rfl rfl
    | .inr (.inr (.inl x)), one, _ => exact one rfl rfl
    | .inr (.inr (.inr (.inl x))), _, two => exact two rfl rfl
    | .inr (.inr (.inr (.inr (g, i)))), one, _ => exact one rfl rfl
theorem lg_len (ad : Nat → Nat → Nat) : ∀ (as : List XS), (lg_sl (as.map (tv ad))).length = xsum as := by
  intro as
  induction as with
  | nil => rfl
  | cons v l ih =>
    show ((if (tv ad v).category = 2 then [Slot.val (tv ad v), .second] else [Slot.val (tv ad v)]) ++ lg_sl (l.map (tv ad))).length = xcat v + xsum l
    rw [List.length_append, ih, tv_cat]
    have : xcat v = 1 ∨ xcat v = 2 := by rw [← tv_cat ad]; exact lv_cat _
    rcases this with q | q
    · rw [q, if_neg (by omega)]; rfl
    · rw [q, if_pos rfl]; rfl
theorem nm_init : ((List.range 310).filter (fun m => mN m)).map (fun m => (mY m).name) = ((List.range 310).filter (fun m => mN m)).map (fun _ => "<init>") := rfl
