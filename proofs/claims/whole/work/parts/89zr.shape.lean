/-! what a call gives back is of the kind that its returns have -/
def PS (S : XS → Prop) (x : XR) : Prop := ∀ r V, x = some (r, V) → S r
section
variable {S : XS → Prop}
theorem PS.no : PS S none := fun _ _ h => by cases h
theorem PS.ok {x : XS} {V : XM} (h : S x) : PS S (some (x, V)) := fun r V' e => by cases e; exact h
theorem PS.it {c : Prop} [Decidable c] {a b : XR} (ha : PS S a) (hb : PS S b) : PS S (if c then a else b) := by
  by_cases h : c
  · rw [if_pos h]; exact ha
  · rw [if_neg h]; exact hb
theorem PS.xif {b : Bool} {a : XR} (ha : PS S a) : PS S (xif b a) := by cases b; exact PS.no; exact ha
theorem PS.ci {x : XR} {k : Int → XM → XR} (hk : ∀ v V, PS S (k v V)) : PS S (ci x k) := fun r V e => by
  obtain ⟨v, V1, _, h2⟩ := ci_some e
  exact hk v V1 r V h2
theorem PS.cl {x : XR} {k : Int → XM → XR} (hk : ∀ v V, PS S (k v V)) : PS S (cl x k) := fun r V e => by
  obtain ⟨v, V1, _, h2⟩ := cl_some e
  exact hk v V1 r V h2
theorem PS.cr {x : XR} {k : XM → XR} (hk : ∀ V, PS S (k V)) : PS S (cr x k) := fun r V e => by
  obtain ⟨V1, _, h2⟩ := cr_some e
  exact hk V1 r V h2
theorem PS.cv {x : XR} {k : XM → XR} (hk : ∀ V, PS S (k V)) : PS S (cv x k) := fun r V e => by
  obtain ⟨v, V1, _, h2⟩ := cv_some e
  exact hk V1 r V h2
theorem PS.load {w : XW} {g i k : Nat} {j : Int} {K : Int → XR} {V : XM} (hk : ∀ x, PS S (K x)) : PS S (xload w g i k j K V) := PS.xif (PS.it (hk _) PS.no)
theorem PS.new {w : XW} {V : XM} {k : Nat} {c : Int} {K : Nat → Nat → XM → XR} (hk : ∀ g i V, PS S (K g i V)) : PS S (xnew w V k c K) := PS.xif (PS.xif (PS.xif (hk _ _ _)))
theorem PS.sw {x : Int} {d : Nat} {F : Nat → XR} (hF : ∀ t, PS S (F t)) : ∀ (l : List Nat) (lo : Int), PS S (xsw x lo d F l) := by
  intro l
  induction l with
  | nil => intro lo; exact hF d
  | cons t l ih => intro lo; exact PS.it (hF t) (ih _)
variable {w : XW} {md : Bool} {F : Nat → List XS → List XS → XM → XR} {C : Nat → List XS → XM → XR} {K : List XS → List XS → XM → XR}
def rOk (S : XS → Prop) (ins : Instr) : Prop := match ins with
  | .ireturn => ∀ x, S (xi x)
  | .lreturn => ∀ x, S (xl x)
  | .areturn => ∀ g i, S (xr g i)
  | .return_ => ∀ x, S (xi x)
  | _ => True
set_option maxHeartbeats 4000000 in
theorem xins_ps (hF : ∀ t ls st V, PS S (F t ls st V)) (hK : ∀ ls st V, PS S (K ls st V)) {ins : Instr} {c : Int} {r1 r2 r3 : Nat} {tg : List Nat} (hr : rOk S ins) (ls st : List XS) (V : XM) : PS S (xins w md F C K ins c r1 r2 r3 tg ls st V) := by
  unfold xins
  split <;> (try simp only [rOk] at hr)
  all_goals (try simp only [xsetK_eq, o_il, o_ll, o_al, o_is, o_ls, o_as, o_inc, o_dup, o_dup2, o_dupx, o_pop, o_i2, o_div, o_i1, o_l2, o_ldiv, o_lsh, o_lcmp, o_i2l, o_l2i, o_l2f, o_l2d, o_f2l, o_d2l, o_f2d, o_dcmp, o_gf, o_pf, o_iald, o_bald, o_lald, o_dald, o_aald, o_iast, o_bast, o_last, o_dast, o_aast, o_alen, o_new, o_newa, o_inv, o_iret, o_lret, o_aret, o_vret, o_ifeq, o_ifne, o_iflt, o_ifge, o_ifgt, o_ifle, o_iceq, o_icne, o_iclt, o_icge, o_icgt, o_icle, o_sw])
  all_goals repeat' (first | exact PS.no | exact hK _ _ _ | exact hF _ _ _ _ | exact PS.ok (hr _) | exact PS.ok (hr _ _) | exact PS.sw (fun t => hF _ _ _ _) _ _ | apply PS.xif | (apply PS.it) | (apply PS.load; intro _) | (apply PS.new; intro _ _ _) | (apply PS.ci; intro _ _) | (apply PS.cl; intro _ _) | (apply PS.cr; intro _) | (apply PS.cv; intro _) | split)
theorem xrun_ps (hF : ∀ t ls st V, PS S (F t ls st V)) (nx : Nat) : ∀ (es : List XE), (∀ e ∈ es, rOk S e.2.1) → ∀ (ls st : List XS) (V : XM), PS S (xrun w md F C nx es ls st V) := by
  intro es
  induction es with
  | nil => intro _ ls st V; exact hF _ _ _ _
  | cons e l ih =>
    intro h ls st V
    obtain ⟨pc, ins, len, c, r1, r2, r3, tg⟩ := e
    exact xins_ps hF (ih (fun e he => h e (List.mem_cons_of_mem _ he))) (h _ List.mem_cons_self) ls st V
end
theorem xblk_in : ∀ {B : List XB} {pc : Nat} {b : XB}, xblk B pc = some b → b ∈ B := by
  intro B
  induction B with
  | nil => intro pc b h; cases h
  | cons a l ih =>
    intro pc b h
    simp only [xblk] at h
    split at h
    · cases h; exact List.mem_cons_self
    · exact List.mem_cons_of_mem _ (ih h)
theorem xex_ps {w : XW} {P : Nat → List XB} {ml : Nat → Nat} {md : Bool} {S : XS → Prop} {m : Nat} (hm : ∀ b ∈ P m, ∀ e ∈ b.2.2.1, rOk S e.2.1) (d : Nat) : ∀ (f pc : Nat) (ls st : List XS) (V : XM), PS S (xex w P ml md f d m pc ls st V) := by
  intro f
  induction f with
  | zero => intro pc ls st V; exact PS.no
  | succ f ih =>
    intro pc ls st V
    show PS S (xmac w md (P m) _ _ pc ls st V)
    unfold xmac
    cases hb : xblk (P m) pc with
    | none => exact PS.no
    | some b => exact xrun_ps (fun t ls st V => by rw [xmkK_eq]; exact ih _ _ _ _) _ _ (hm b (xblk_in hb)) ls st V
/-- only whole numbers come back -/
def rbI (ins : Instr) : Bool := match ins with
  | .lreturn | .areturn => false
  | _ => true
def rbL (ins : Instr) : Bool := match ins with
  | .ireturn | .areturn | .return_ => false
  | _ => true
theorem rbI_ok {ins : Instr} (h : rbI ins = true) : rOk (fun r => ∃ x, r = xi x) ins := by
  unfold rOk
  split
  · exact fun x => ⟨x, rfl⟩
  · cases h
  · cases h
  · exact fun x => ⟨x, rfl⟩
  · trivial
theorem rbL_ok {ins : Instr} (h : rbL ins = true) : rOk (fun r => ∃ x, r = xl x) ins := by
  unfold rOk
  split
  · cases h
  · exact fun x => ⟨x, rfl⟩
  · cases h
  · cases h
  · trivial
def gvI (m : Nat) : Bool := (XP m).all fun b => b.2.2.1.all fun e => rbI e.2.1
def gvL (m : Nat) : Bool := (XP m).all fun b => b.2.2.1.all fun e => rbL e.2.1
theorem Y_I {d m : Nat} {as : List XS} {V : XM} {r : XS} {Vf : XM} (hm : gvI m = true) (h : Yf (d + 1) m as V = some (r, Vf)) : ∃ x, r = xi x := by
  obtain ⟨f, hf⟩ := Xx_some (show Xx WW XP XML false d m 0 _ [] V = some (r, Vf) from h)
  exact xex_ps (S := fun r => ∃ x, r = xi x) (fun b hb e he => rbI_ok (List.all_eq_true.mp (List.all_eq_true.mp hm b hb) e he)) d f _ _ _ _ r Vf hf
theorem Y_L {d m : Nat} {as : List XS} {V : XM} {r : XS} {Vf : XM} (hm : gvL m = true) (h : Yf (d + 1) m as V = some (r, Vf)) : ∃ x, r = xl x := by
  obtain ⟨f, hf⟩ := Xx_some (show Xx WW XP XML false d m 0 _ [] V = some (r, Vf) from h)
  exact xex_ps (S := fun r => ∃ x, r = xl x) (fun b hb e he => rbL_ok (List.all_eq_true.mp (List.all_eq_true.mp hm b hb) e he)) d f _ _ _ _ r Vf hf
