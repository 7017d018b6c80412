section
variable {w : XW} {md : Bool} {F : Nat → List XS → List XS → XM → XR} {C : Nat → List XS → XM → XR} {K : List XS → List XS → XM → XR}
  {F' : Nat → Nat → List XS → List XS → XM → XR} {C' : Nat → Nat → List XS → XM → XR} {K' : Nat → List XS → List XS → XM → XR}
set_option maxHeartbeats 4000000 in
theorem xone_ev (hF : ∀ t ls st V r, F t ls st V = some r → xev fun f => F' f t ls st V = some r) (hC : ∀ m as V r, C m as V = some r → xev fun f => C' f m as V = some r) (hK : ∀ ls st V r, K ls st V = some r → xev fun f => K' f ls st V = some r)
    {e : XE} {ls st : List XS} {V : XM} {r : XS × XM} (h : xone w md F C K e ls st V = some r) : xev fun f => xone w md (F' f) (C' f) (K' f) e ls st V = some r := by
  obtain ⟨pc, ins, len, c, r1, r2, r3, tg⟩ := e
  simp only [xone] at h ⊢
  cases ins
  case ifCond cnd off => cases cnd <;> (simp only [xins, xsetK_eq, o_il, o_ll, o_al, o_is, o_ls, o_as, o_inc, o_dup, o_dup2, o_dupx, o_pop, o_i2, o_div, o_i1, o_l2, o_ldiv, o_lsh, o_lcmp, o_i2l, o_l2i, o_l2f, o_l2d, o_f2l, o_d2l, o_f2d, o_dcmp, o_gf, o_pf, o_iald, o_bald, o_lald, o_dald, o_aald, o_iast, o_bast, o_last, o_dast, o_aast, o_alen, o_new, o_newa, o_inv, o_iret, o_lret, o_aret, o_vret, o_ifeq, o_ifne, o_iflt, o_ifge, o_ifgt, o_ifle, o_iceq, o_icne, o_iclt, o_icge, o_icgt, o_icle, o_sw] at h ⊢; (split at h <;> (try (rename_i hc; simp only [hc, if_true, if_false])))) <;> (first | (cases h; done) | exact hK _ _ _ _ h | exact hF _ _ _ _ _ h | exact xev_of (fun _ => h) | exact xsw_ev (fun t r h => hF _ _ _ _ _ h) _ _ h | exact xload_ev (fun x r h => hK _ _ _ _ h) h | exact ci_ev (hC _ _ _) (fun v V r h => hK _ _ _ _ h) h | exact cl_ev (hC _ _ _) (fun v V r h => hK _ _ _ _ h) h | exact cr_ev (hC _ _ _) (fun V r h => hK _ _ _ _ h) h | exact cv_ev (hC _ _ _) (fun V r h => hK _ _ _ _ h) h | exact xif_ev (fun r h => xnew_ev (fun g i V r h => hK _ _ _ _ h) h) h | exact xif_ev (fun r h => hK _ _ _ _ h) h | exact xif_ev (fun r h => xif_ev (fun r h => ci_ev (hC _ _ _) (fun v V r h => hK _ _ _ _ h) h) h) h | exact xif_ev (fun r h => xif_ev (fun r h => cl_ev (hC _ _ _) (fun v V r h => hK _ _ _ _ h) h) h) h | exact xif_ev (fun r h => xif_ev (fun r h => cr_ev (hC _ _ _) (fun V r h => hK _ _ _ _ h) h) h) h | exact xif_ev (fun r h => xif_ev (fun r h => cv_ev (hC _ _ _) (fun V r h => hK _ _ _ _ h) h) h) h | skip) <;> (split at h <;> (try (rename_i hc; simp only [hc, if_true, if_false]))) <;> (first | (cases h; done) | exact hK _ _ _ _ h | exact hF _ _ _ _ _ h | exact xev_of (fun _ => h) | exact xsw_ev (fun t r h => hF _ _ _ _ _ h) _ _ h | exact xload_ev (fun x r h => hK _ _ _ _ h) h | exact ci_ev (hC _ _ _) (fun v V r h => hK _ _ _ _ h) h | exact cl_ev (hC _ _ _) (fun v V r h => hK _ _ _ _ h) h | exact cr_ev (hC _ _ _) (fun V r h => hK _ _ _ _ h) h | exact cv_ev (hC _ _ _) (fun V r h => hK _ _ _ _ h) h | exact xif_ev (fun r h => xnew_ev (fun g i V r h => hK _ _ _ _ h) h) h | exact xif_ev (fun r h => hK _ _ _ _ h) h | exact xif_ev (fun r h => xif_ev (fun r h => ci_ev (hC _ _ _) (fun v V r h => hK _ _ _ _ h) h) h) h | exact xif_ev (fun r h => xif_ev (fun r h => cl_ev (hC _ _ _) (fun v V r h => hK _ _ _ _ h) h) h) h | exact xif_ev (fun r h => xif_ev (fun r h => cr_ev (hC _ _ _) (fun V r h => hK _ _ _ _ h) h) h) h | exact xif_ev (fun r h => xif_ev (fun r h => cv_ev (hC _ _ _) (fun V r h => hK _ _ _ _ h) h) h) h | exact xif_ev (fun r h => xif_ev (fun r h => hK _ _ _ _ h) h) h | skip)
  case if_icmp cnd off => cases cnd <;> (simp only [xins, xsetK_eq, o_il, o_ll, o_al, o_is, o_ls, o_as, o_inc, o_dup, o_dup2, o_dupx, o_pop, o_i2, o_div, o_i1, o_l2, o_ldiv, o_lsh, o_lcmp, o_i2l, o_l2i, o_l2f, o_l2d, o_f2l, o_d2l, o_f2d, o_dcmp, o_gf, o_pf, o_iald, o_bald, o_lald, o_dald, o_aald, o_iast, o_bast, o_last, o_dast, o_aast, o_alen, o_new, o_newa, o_inv, o_iret, o_lret, o_aret, o_vret, o_ifeq, o_ifne, o_iflt, o_ifge, o_ifgt, o_ifle, o_iceq, o_icne, o_iclt, o_icge, o_icgt, o_icle, o_sw] at h ⊢; (split at h <;> (try (rename_i hc; simp only [hc, if_true, if_false])))) <;> (first | (cases h; done) | exact hK _ _ _ _ h | exact hF _ _ _ _ _ h | exact xev_of (fun _ => h) | exact xsw_ev (fun t r h => hF _ _ _ _ _ h) _ _ h | exact xload_ev (fun x r h => hK _ _ _ _ h) h | exact ci_ev (hC _ _ _) (fun v V r h => hK _ _ _ _ h) h | exact cl_ev (hC _ _ _) (fun v V r h => hK _ _ _ _ h) h | exact cr_ev (hC _ _ _) (fun V r h => hK _ _ _ _ h) h | exact cv_ev (hC _ _ _) (fun V r h => hK _ _ _ _ h) h | exact xif_ev (fun r h => xnew_ev (fun g i V r h => hK _ _ _ _ h) h) h | exact xif_ev (fun r h => hK _ _ _ _ h) h | exact xif_ev (fun r h => xif_ev (fun r h => ci_ev (hC _ _ _) (fun v V r h => hK _ _ _ _ h) h) h) h | exact xif_ev (fun r h => xif_ev (fun r h => cl_ev (hC _ _ _) (fun v V r h => hK _ _ _ _ h) h) h) h | exact xif_ev (fun r h => xif_ev (fun r h => cr_ev (hC _ _ _) (fun V r h => hK _ _ _ _ h) h) h) h | exact xif_ev (fun r h => xif_ev (fun r h => cv_ev (hC _ _ _) (fun V r h => hK _ _ _ _ h) h) h) h | skip) <;> (split at h <;> (try (rename_i hc; simp only [hc, if_true, if_false]))) <;> (first | (cases h; done) | exact hK _ _ _ _ h | exact hF _ _ _ _ _ h | exact xev_of (fun _ => h) | exact xsw_ev (fun t r h => hF _ _ _ _ _ h) _ _ h | exact xload_ev (fun x r h => hK _ _ _ _ h) h | exact ci_ev (hC _ _ _) (fun v V r h => hK _ _ _ _ h) h | exact cl_ev (hC _ _ _) (fun v V r h => hK _ _ _ _ h) h | exact cr_ev (hC _ _ _) (fun V r h => hK _ _ _ _ h) h | exact cv_ev (hC _ _ _) (fun V r h => hK _ _ _ _ h) h | exact xif_ev (fun r h => xnew_ev (fun g i V r h => hK _ _ _ _ h) h) h | exact xif_ev (fun r h => hK _ _ _ _ h) h | exact xif_ev (fun r h => xif_ev (fun r h => ci_ev (hC _ _ _) (fun v V r h => hK _ _ _ _ h) h) h) h | exact xif_ev (fun r h => xif_ev (fun r h => cl_ev (hC _ _ _) (fun v V r h => hK _ _ _ _ h) h) h) h | exact xif_ev (fun r h => xif_ev (fun r h => cr_ev (hC _ _ _) (fun V r h => hK _ _ _ _ h) h) h) h | exact xif_ev (fun r h => xif_ev (fun r h => cv_ev (hC _ _ _) (fun V r h => hK _ _ _ _ h) h) h) h | exact xif_ev (fun r h => xif_ev (fun r h => hK _ _ _ _ h) h) h | skip)
  all_goals (simp only [xins, xsetK_eq, o_il, o_ll, o_al, o_is, o_ls, o_as, o_inc, o_dup, o_dup2, o_dupx, o_pop, o_i2, o_div, o_i1, o_l2, o_ldiv, o_lsh, o_lcmp, o_i2l, o_l2i, o_l2f, o_l2d, o_f2l, o_d2l, o_f2d, o_dcmp, o_gf, o_pf, o_iald, o_bald, o_lald, o_dald, o_aald, o_iast, o_bast, o_last, o_dast, o_aast, o_alen, o_new, o_newa, o_inv, o_iret, o_lret, o_aret, o_vret, o_ifeq, o_ifne, o_iflt, o_ifge, o_ifgt, o_ifle, o_iceq, o_icne, o_iclt, o_icge, o_icgt, o_icle, o_sw] at h ⊢)
  all_goals (first | (cases h; done) | exact hK _ _ _ _ h | exact hF _ _ _ _ _ h | exact xev_of (fun _ => h) | exact xsw_ev (fun t r h => hF _ _ _ _ _ h) _ _ h | exact xload_ev (fun x r h => hK _ _ _ _ h) h | exact ci_ev (hC _ _ _) (fun v V r h => hK _ _ _ _ h) h | exact cl_ev (hC _ _ _) (fun v V r h => hK _ _ _ _ h) h | exact cr_ev (hC _ _ _) (fun V r h => hK _ _ _ _ h) h | exact cv_ev (hC _ _ _) (fun V r h => hK _ _ _ _ h) h | exact xif_ev (fun r h => xnew_ev (fun g i V r h => hK _ _ _ _ h) h) h | exact xif_ev (fun r h => hK _ _ _ _ h) h | exact xif_ev (fun r h => xif_ev (fun r h => ci_ev (hC _ _ _) (fun v V r h => hK _ _ _ _ h) h) h) h | exact xif_ev (fun r h => xif_ev (fun r h => cl_ev (hC _ _ _) (fun v V r h => hK _ _ _ _ h) h) h) h | exact xif_ev (fun r h => xif_ev (fun r h => cr_ev (hC _ _ _) (fun V r h => hK _ _ _ _ h) h) h) h | exact xif_ev (fun r h => xif_ev (fun r h => cv_ev (hC _ _ _) (fun V r h => hK _ _ _ _ h) h) h) h | exact xif_ev (fun r h => xif_ev (fun r h => hK _ _ _ _ h) h) h | skip)
  all_goals (first | (split at h <;> (try (rename_i hc; simp only [hc, if_true, if_false]))) | exact xif_ev (fun r h => xif_ev (fun r h => hK _ _ _ _ h) h) h | skip)
  all_goals (first | (cases h; done) | exact hK _ _ _ _ h | exact hF _ _ _ _ _ h | exact xev_of (fun _ => h) | exact xsw_ev (fun t r h => hF _ _ _ _ _ h) _ _ h | exact xload_ev (fun x r h => hK _ _ _ _ h) h | exact ci_ev (hC _ _ _) (fun v V r h => hK _ _ _ _ h) h | exact cl_ev (hC _ _ _) (fun v V r h => hK _ _ _ _ h) h | exact cr_ev (hC _ _ _) (fun V r h => hK _ _ _ _ h) h | exact cv_ev (hC _ _ _) (fun V r h => hK _ _ _ _ h) h | exact xif_ev (fun r h => xnew_ev (fun g i V r h => hK _ _ _ _ h) h) h | exact xif_ev (fun r h => hK _ _ _ _ h) h | exact xif_ev (fun r h => xif_ev (fun r h => ci_ev (hC _ _ _) (fun v V r h => hK _ _ _ _ h) h) h) h | exact xif_ev (fun r h => xif_ev (fun r h => cl_ev (hC _ _ _) (fun v V r h => hK _ _ _ _ h) h) h) h | exact xif_ev (fun r h => xif_ev (fun r h => cr_ev (hC _ _ _) (fun V r h => hK _ _ _ _ h) h) h) h | exact xif_ev (fun r h => xif_ev (fun r h => cv_ev (hC _ _ _) (fun V r h => hK _ _ _ _ h) h) h) h | exact xif_ev (fun r h => xif_ev (fun r h => hK _ _ _ _ h) h) h | skip)
  all_goals (first | (split at h <;> (try (rename_i hc; simp only [hc, if_true, if_false]))) | exact xif_ev (fun r h => xif_ev (fun r h => hK _ _ _ _ h) h) h | skip)
  all_goals (first | (cases h; done) | exact hK _ _ _ _ h | exact hF _ _ _ _ _ h | exact xev_of (fun _ => h) | exact xsw_ev (fun t r h => hF _ _ _ _ _ h) _ _ h | exact xload_ev (fun x r h => hK _ _ _ _ h) h | exact ci_ev (hC _ _ _) (fun v V r h => hK _ _ _ _ h) h | exact cl_ev (hC _ _ _) (fun v V r h => hK _ _ _ _ h) h | exact cr_ev (hC _ _ _) (fun V r h => hK _ _ _ _ h) h | exact cv_ev (hC _ _ _) (fun V r h => hK _ _ _ _ h) h | exact xif_ev (fun r h => xnew_ev (fun g i V r h => hK _ _ _ _ h) h) h | exact xif_ev (fun r h => hK _ _ _ _ h) h | exact xif_ev (fun r h => xif_ev (fun r h => ci_ev (hC _ _ _) (fun v V r h => hK _ _ _ _ h) h) h) h | exact xif_ev (fun r h => xif_ev (fun r h => cl_ev (hC _ _ _) (fun v V r h => hK _ _ _ _ h) h) h) h | exact xif_ev (fun r h => xif_ev (fun r h => cr_ev (hC _ _ _) (fun V r h => hK _ _ _ _ h) h) h) h | exact xif_ev (fun r h => xif_ev (fun r h => cv_ev (hC _ _ _) (fun V r h => hK _ _ _ _ h) h) h) h | exact xif_ev (fun r h => xif_ev (fun r h => hK _ _ _ _ h) h) h | skip)
  all_goals (first | (split at h <;> (try (rename_i hc; simp only [hc, if_true, if_false]))) | exact xif_ev (fun r h => xif_ev (fun r h => hK _ _ _ _ h) h) h | skip)
  all_goals (first | (cases h; done) | exact hK _ _ _ _ h | exact hF _ _ _ _ _ h | exact xev_of (fun _ => h) | exact xsw_ev (fun t r h => hF _ _ _ _ _ h) _ _ h | exact xload_ev (fun x r h => hK _ _ _ _ h) h | exact ci_ev (hC _ _ _) (fun v V r h => hK _ _ _ _ h) h | exact cl_ev (hC _ _ _) (fun v V r h => hK _ _ _ _ h) h | exact cr_ev (hC _ _ _) (fun V r h => hK _ _ _ _ h) h | exact cv_ev (hC _ _ _) (fun V r h => hK _ _ _ _ h) h | exact xif_ev (fun r h => xnew_ev (fun g i V r h => hK _ _ _ _ h) h) h | exact xif_ev (fun r h => hK _ _ _ _ h) h | exact xif_ev (fun r h => xif_ev (fun r h => ci_ev (hC _ _ _) (fun v V r h => hK _ _ _ _ h) h) h) h | exact xif_ev (fun r h => xif_ev (fun r h => cl_ev (hC _ _ _) (fun v V r h => hK _ _ _ _ h) h) h) h | exact xif_ev (fun r h => xif_ev (fun r h => cr_ev (hC _ _ _) (fun V r h => hK _ _ _ _ h) h) h) h | exact xif_ev (fun r h => xif_ev (fun r h => cv_ev (hC _ _ _) (fun V r h => hK _ _ _ _ h) h) h) h | exact xif_ev (fun r h => xif_ev (fun r h => hK _ _ _ _ h) h) h | skip)
  all_goals (first | (split at h <;> (try (rename_i hc; simp only [hc, if_true, if_false]))) | exact xif_ev (fun r h => xif_ev (fun r h => hK _ _ _ _ h) h) h | skip)
  all_goals (first | (cases h; done) | exact hK _ _ _ _ h | exact hF _ _ _ _ _ h | exact xev_of (fun _ => h) | exact xsw_ev (fun t r h => hF _ _ _ _ _ h) _ _ h | exact xload_ev (fun x r h => hK _ _ _ _ h) h | exact ci_ev (hC _ _ _) (fun v V r h => hK _ _ _ _ h) h | exact cl_ev (hC _ _ _) (fun v V r h => hK _ _ _ _ h) h | exact cr_ev (hC _ _ _) (fun V r h => hK _ _ _ _ h) h | exact cv_ev (hC _ _ _) (fun V r h => hK _ _ _ _ h) h | exact xif_ev (fun r h => xnew_ev (fun g i V r h => hK _ _ _ _ h) h) h | exact xif_ev (fun r h => hK _ _ _ _ h) h | exact xif_ev (fun r h => xif_ev (fun r h => ci_ev (hC _ _ _) (fun v V r h => hK _ _ _ _ h) h) h) h | exact xif_ev (fun r h => xif_ev (fun r h => cl_ev (hC _ _ _) (fun v V r h => hK _ _ _ _ h) h) h) h | exact xif_ev (fun r h => xif_ev (fun r h => cr_ev (hC _ _ _) (fun V r h => hK _ _ _ _ h) h) h) h | exact xif_ev (fun r h => xif_ev (fun r h => cv_ev (hC _ _ _) (fun V r h => hK _ _ _ _ h) h) h) h | exact xif_ev (fun r h => xif_ev (fun r h => hK _ _ _ _ h) h) h | skip)
  all_goals (first | exact xload_ev (fun x r h => xite_ev (fun r h => hK _ _ _ _ h) h) h | exact xif_ev (fun r h => xif_ev (fun r h => hK _ _ _ _ h) h) h | skip)
  all_goals (try simp only [hc.2, ne_eq, not_false_eq_true, and_self, if_true])
  all_goals (first | exact xif_ev (fun r h => xif_ev (fun r h => hK _ _ _ _ h) h) h | exact xif_ev (fun r h => xload_ev (fun x r h => hK _ _ _ _ h) h) h | exact xif_ev (fun r h => xif_ev (fun r h => hK _ _ _ _ h) h) h | skip)
theorem xrun_ev (nx : Nat) (hF : ∀ t ls st V r, F t ls st V = some r → xev fun f => F' f t ls st V = some r) (hC : ∀ m as V r, C m as V = some r → xev fun f => C' f m as V = some r) :
    ∀ (l : List XE) (ls st : List XS) (V : XM) (r : XS × XM), xrun w md F C nx l ls st V = some r → xev fun f => xrun w md (F' f) (C' f) nx l ls st V = some r := by
  intro l
  induction l with
  | nil => intro ls st V r h; exact hF _ _ _ _ _ h
  | cons e l ih =>
    intro ls st V r h
    simp only [xrun] at h ⊢
    exact xone_ev hF hC ih h
theorem xmac_ev (B : List XB) (hF : ∀ t ls st V r, F t ls st V = some r → xev fun f => F' f t ls st V = some r) (hC : ∀ m as V r, C m as V = some r → xev fun f => C' f m as V = some r)
    {pc : Nat} {ls st : List XS} {V : XM} {r : XS × XM} (h : xmac w md B F C pc ls st V = some r) : xev fun f => xmac w md B (F' f) (C' f) pc ls st V = some r := by
  unfold xmac at h ⊢
  cases hb : xblk B pc with
  | none => rw [hb] at h; cases h
  | some b =>
    rw [hb] at h
    dsimp only at h ⊢
    simp only [xmkK_eq] at h ⊢
    exact xrun_ev _ (fun t ls st V r h => hF _ _ _ _ _ h) hC _ _ _ _ _ h
end
section
variable {w : XW} {P : Nat → List XB} {ml : Nat → Nat} {md : Bool}
theorem xev_const {p : Prop} (h : xev fun _ => p) : p := h.elim fun f0 a => a f0 (Nat.le_refl _)
theorem xex_succ : ∀ (f d m pc : Nat) (ls st : List XS) (V : XM) (r : XS × XM), xex w P ml md f d m pc ls st V = some r → xex w P ml md (f + 1) d m pc ls st V = some r := by
  intro f
  induction f with
  | zero => intro d m pc ls st V r h; simp only [xex] at h; cases h
  | succ f ih =>
    intro d m pc ls st V r h
    refine xev_const (xmac_ev (P m) (F' := fun _ pc ls st V => xex w P ml md (f + 1) d m pc ls st V) (C' := fun _ => xdn (fun d m as V => xex w P ml md (f + 1) d m 0 (xpad (ml m) (xsl as)) [] V) d) (fun t ls st V r h => xev_of fun _ => ih _ _ _ _ _ _ _ h) (fun m as V r h => xev_of fun _ => ?_) (show xmac w md (P m) _ _ pc ls st V = some r from h))
    cases d with
    | zero => cases h
    | succ d => exact ih _ _ _ _ _ _ _ h
theorem xex_le {f f' : Nat} (hf : f ≤ f') {d m pc : Nat} {ls st : List XS} {V : XM} {r : XS × XM} (h : xex w P ml md f d m pc ls st V = some r) : xex w P ml md f' d m pc ls st V = some r := by
  induction hf with
  | refl => exact h
  | step _ ih => exact xex_succ _ _ _ _ _ _ _ _ ih
end
/-- the run without fuel: what some fuel gives -/
noncomputable def Xx (w : XW) (P : Nat → List XB) (ml : Nat → Nat) (md : Bool) (d m pc : Nat) (ls st : List XS) (V : XM) : XR :=
  @dite XR (∃ (f : Nat) (r : XS × XM), xex w P ml md f d m pc ls st V = some r) (Classical.propDecidable _) (fun h => some h.choose_spec.choose) (fun _ => none)
noncomputable def Xc (w : XW) (P : Nat → List XB) (ml : Nat → Nat) (md : Bool) (d m : Nat) (as : List XS) (V : XM) : XR := xdn (fun d m as V => Xx w P ml md d m 0 (xpad (ml m) (xsl as)) [] V) d m as V
section
variable {w : XW} {P : Nat → List XB} {ml : Nat → Nat} {md : Bool}
theorem Xx_of {f d m pc : Nat} {ls st : List XS} {V : XM} {r : XS × XM} (h : xex w P ml md f d m pc ls st V = some r) : Xx w P ml md d m pc ls st V = some r := by
  have hex : ∃ (f : Nat) (r : XS × XM), xex w P ml md f d m pc ls st V = some r := ⟨f, r, h⟩
  unfold Xx
  rw [dif_pos hex]
  have h1 := hex.choose_spec.choose_spec
  have h2 := xex_le (Nat.le_max_left hex.choose f) h1
  have h3 := xex_le (Nat.le_max_right hex.choose f) h
  exact h2.symm.trans h3
theorem Xx_some {d m pc : Nat} {ls st : List XS} {V : XM} {r : XS × XM} (h : Xx w P ml md d m pc ls st V = some r) : ∃ f, xex w P ml md f d m pc ls st V = some r := by
  unfold Xx at h
  split at h
  · rename_i hex
    cases h
    exact ⟨_, hex.choose_spec.choose_spec⟩
  · cases h
theorem Xx_ev {d m pc : Nat} {ls st : List XS} {V : XM} {r : XS × XM} (h : Xx w P ml md d m pc ls st V = some r) : xev fun f => xex w P ml md f d m pc ls st V = some r := by
  obtain ⟨f, hf⟩ := Xx_some h
  exact ⟨f, fun f' h' => xex_le h' hf⟩
theorem Xc_of {f d m : Nat} {as : List XS} {V : XM} {r : XS × XM} (h : xdn (fun d m as V => xex w P ml md f d m 0 (xpad (ml m) (xsl as)) [] V) d m as V = some r) : Xc w P ml md d m as V = some r := by
  cases d with
  | zero => cases h
  | succ d => exact Xx_of h
theorem Xc_ev {d m : Nat} {as : List XS} {V : XM} {r : XS × XM} (h : Xc w P ml md d m as V = some r) : xev fun f => xdn (fun d m as V => xex w P ml md f d m 0 (xpad (ml m) (xsl as)) [] V) d m as V = some r := by
  cases d with
  | zero => cases h
  | succ d => exact Xx_ev h
/-- THE EQUATION of a run: a block, then on -/
theorem Xx_eq (d m pc : Nat) (ls st : List XS) (V : XM) : Xx w P ml md d m pc ls st V = xmac w md (P m) (Xx w P ml md d m) (Xc w P ml md d) pc ls st V := by
  have key : ∀ r, Xx w P ml md d m pc ls st V = some r ↔ xmac w md (P m) (Xx w P ml md d m) (Xc w P ml md d) pc ls st V = some r := by
    intro r
    constructor
    · intro h
      obtain ⟨f, hf⟩ := Xx_some h
      cases f with
      | zero => simp only [xex] at hf; cases hf
      | succ f => exact xev_const (xmac_ev (P m) (F' := fun _ => Xx w P ml md d m) (C' := fun _ => Xc w P ml md d) (fun t ls st V r h => xev_of fun _ => Xx_of h) (fun m as V r h => xev_of fun _ => Xc_of h) (show xmac w md (P m) _ _ pc ls st V = some r from hf))
    · intro h
      obtain ⟨f, hf⟩ := xmac_ev (P m) (F' := fun f pc ls st V => xex w P ml md f d m pc ls st V) (C' := fun f => xdn (fun d m as V => xex w P ml md f d m 0 (xpad (ml m) (xsl as)) [] V) d) (fun t ls st V r h => Xx_ev h) (fun m as V r h => Xc_ev h) h
      exact Xx_of (f := f + 1) (hf f (Nat.le_refl _))
  cases h1 : Xx w P ml md d m pc ls st V with
  | some r => exact ((key r).mp h1).symm
  | none =>
    cases h2 : xmac w md (P m) (Xx w P ml md d m) (Xc w P ml md d) pc ls st V with
    | none => rfl
    | some r => rw [(key r).mpr h2] at h1; cases h1
/-- several blocks, up to the places where one stops -/
def xes (w : XW) (md : Bool) (B : List XB) (F : Nat → List XS → List XS → XM → XR) (C : Nat → List XS → XM → XR) (stop : List Nat) : Nat → Nat → List XS → List XS → XM → XR
  | 0, pc, ls, st, V => F pc ls st V
  | n + 1, pc, ls, st, V => match xblk B pc with
    | some b => xrun w md (fun t ls st V => xmkK B t ls (fun ls => match xmem stop t with
      | true => F t ls st V
      | false => xes w md B F C stop n t ls st V)) C b.2.2.2 b.2.2.1 ls st V
    | none => none
theorem Xx_es (stop : List Nat) {d m : Nat} {B : List XB} (hB : P m = B) : ∀ (n pc : Nat) (ls st : List XS) (V : XM), Xx w P ml md d m pc ls st V = xes w md B (Xx w P ml md d m) (Xc w P ml md d) stop n pc ls st V := by
  intro n
  induction n with
  | zero => intro pc ls st V; rfl
  | succ n ih =>
    intro pc ls st V
    rw [Xx_eq, hB]
    have hF : (fun (t : Nat) (ls st : List XS) (V : XM) => xmkK B t ls (fun ls => Xx w P ml md d m t ls st V)) = (fun t ls st V => xmkK B t ls (fun ls => match xmem stop t with
      | true => Xx w P ml md d m t ls st V
      | false => xes w md B (Xx w P ml md d m) (Xc w P ml md d) stop n t ls st V)) := by
      funext t ls st V
      rw [xmkK_eq, xmkK_eq]
      cases xmem stop t with
      | true => rfl
      | false => exact ih _ _ _ _
    simp only [xmac, xes]
    rw [hF]
    cases xblk B pc <;> rfl
theorem Xc_es (stop : List Nat) {d m : Nat} {B : List XB} (hB : P m = B) (n : Nat) (as : List XS) (V : XM) : Xc w P ml md (d + 1) m as V = xpadK (ml m) (xsl as) (fun ls => xes w md B (Xx w P ml md d m) (Xc w P ml md d) stop n 0 ls [] V) := by
  rw [xpadK_eq]
  exact Xx_es stop hB n 0 _ [] V
end
