/-! what runs when the world is made runs as well while it may still be made -/
def rsk (r k : Nat) : Bool := Nat.ble 10 r && (Nat.blt k (vcl (r - 10)).2.2 && !isI (vty (r - 10) k))
def rsl (g k : Nat) : Bool := ((Nat.beq (WW.1 g) 5 || Nat.beq (WW.1 g) 6) && decide ((k : Int) < WW.2.1 g)) || rsk (WW.1 g) k
/-- all is made -/
def FC (V : XM) : Prop := V 0 0 0 = 155 ∧ ∀ g i k, rsl g k = true → V g i k = 1
theorem ww_0 : WW.1 0 = 9 := by decide +kernel
theorem FC.put {V : XM} {g i j : Nat} {x : Int} (h : FC V) (hg : rsl g j = false) (h0 : WW.1 g ≠ 9) : FC (xu V g i j x) := by
  constructor
  · unfold xu
    rw [if_neg (fun q => h0 (by rw [← q.1]; exact ww_0))]
    exact h.1
  · intro a b c hc
    unfold xu
    rw [if_neg (fun q => by rw [q.1, q.2.2, hg] at hc; cases hc)]
    exact h.2 a b c hc
theorem rsl_k {g j k : Nat} (h : WW.1 g = k) (hk : k = 1 ∨ k = 2 ∨ k = 3 ∨ k = 4) : rsl g j = false ∧ WW.1 g ≠ 9 := by
  unfold rsl rsk
  rw [h]
  rcases hk with q | q | q | q <;> subst q <;> exact ⟨rfl, by decide⟩
def RT (x y : XR) : Prop := ∀ r V, x = some (r, V) → y = some (r, V) ∧ FC V
theorem RT.no {y : XR} : RT none y := fun _ _ h => by cases h
theorem RT.ok {x : XS} {V : XM} (h : FC V) : RT (some (x, V)) (some (x, V)) := fun r V' e => by cases e; exact ⟨rfl, h⟩
theorem RT.it {c : Prop} [Decidable c] {a b a' b' : XR} (ha : RT a a') (hb : RT b b') : RT (if c then a else b) (if c then a' else b') := by
  by_cases h : c
  · rw [if_pos h, if_pos h]; exact ha
  · rw [if_neg h, if_neg h]; exact hb
theorem RT.xif {b : Bool} {a a' : XR} (ha : b = true → RT a a') : RT (xif b a) (xif b a') := by
  cases b
  · exact RT.no
  · exact ha rfl
theorem RT.ci {x x' : XR} {k k' : Int → XM → XR} (hx : RT x x') (hk : ∀ v V, FC V → RT (k v V) (k' v V)) : RT (ci x k) (ci x' k') := fun r V e => by
  obtain ⟨v, V1, h1, h2⟩ := ci_some e
  obtain ⟨a, b⟩ := hx _ _ h1
  rw [a]
  exact hk v V1 b r V h2
theorem RT.cl {x x' : XR} {k k' : Int → XM → XR} (hx : RT x x') (hk : ∀ v V, FC V → RT (k v V) (k' v V)) : RT (cl x k) (cl x' k') := fun r V e => by
  obtain ⟨v, V1, h1, h2⟩ := cl_some e
  obtain ⟨a, b⟩ := hx _ _ h1
  rw [a]
  exact hk v V1 b r V h2
theorem RT.cr {x x' : XR} {k k' : XM → XR} (hx : RT x x') (hk : ∀ V, FC V → RT (k V) (k' V)) : RT (cr x k) (cr x' k') := fun r V e => by
  obtain ⟨V1, h1, h2⟩ := cr_some e
  obtain ⟨a, b⟩ := hx _ _ h1
  rw [a]
  exact hk V1 b r V h2
theorem RT.cv {x x' : XR} {k k' : XM → XR} (hx : RT x x') (hk : ∀ V, FC V → RT (k V) (k' V)) : RT (cv x k) (cv x' k') := fun r V e => by
  obtain ⟨v, V1, h1, h2⟩ := cv_some e
  obtain ⟨a, b⟩ := hx _ _ h1
  rw [a]
  exact hk V1 b r V h2
theorem RT.load {g i k : Nat} {j : Int} {K K' : Int → XR} {V : XM} (hk : WW.1 g = k → (0 ≤ j ∧ j < WW.2.1 g) → ∀ x, x = V g i j.toNat → RT (K x) (K' x)) : RT (xload WW g i k j K V) (xload WW g i k j K' V) := RT.xif (fun q => by
  by_cases h : 0 ≤ j ∧ j < WW.2.1 g
  · rw [if_pos h, if_pos h]; exact hk (Nat.eq_of_beq_eq_true q) h _ rfl
  · rw [if_neg h, if_neg h]; exact RT.no)
theorem RT.sw {x : Int} {d : Nat} {F F' : Nat → XR} (hF : ∀ t, RT (F t) (F' t)) : ∀ (l : List Nat) (lo : Int), RT (xsw x lo d F l) (xsw x lo d F' l) := by
  intro l
  induction l with
  | nil => intro lo; exact hF d
  | cons t l ih => intro lo; exact RT.it (hF t) (ih _)
/-- what is asked of an entry -/
def eCk (e : XE) : Bool := match e with
  | (_, ins, _, _, r1, r2, r3, _) => match ins with
    | .getfield _ => Nat.beq r3 0 || rsk r1 r2
    | .putfield _ => !(Nat.beq r3 0) || (Nat.ble 10 r1 && !rsk r1 r2)
    | .aaload => Nat.beq r1 5 || Nat.beq r1 6
    | _ => true
section
variable {F F' : Nat → List XS → List XS → XM → XR} {C C' : Nat → List XS → XM → XR} {K K' : List XS → List XS → XM → XR}
theorem gf_rt (hK : ∀ ls st V, FC V → RT (K ls st V) (K' ls st V)) {r1 r2 r3 : Nat} (hr : (Nat.beq r3 0 || rsk r1 r2) = true) (ls st : List XS) (V : XM) (hV : FC V) : RT (o_gf WW false r1 r2 r3 K ls st V) (o_gf WW true r1 r2 r3 K' ls st V) := by
  unfold o_gf
  split
  · rename_i g i st
    refine RT.xif (fun q => ?_)
    have q := Nat.eq_of_beq_eq_true q
    cases r3 with
    | zero => exact hK _ _ _ hV
    | succ n =>
      have hr : rsk r1 r2 = true := hr
      show RT (K ls _ V) (if V g i r2 = 1 then K' ls _ V else none)
      rw [if_pos (hV.2 g i r2 (by unfold rsl; rw [q, hr, Bool.or_true]))]
      exact hK _ _ _ hV
  · exact RT.no
theorem pf_rt (hK : ∀ ls st V, FC V → RT (K ls st V) (K' ls st V)) {r1 r2 r3 : Nat} (hr : (!(Nat.beq r3 0) || (Nat.ble 10 r1 && !rsk r1 r2)) = true) (ls st : List XS) (V : XM) (hV : FC V) : RT (o_pf WW false r1 r2 r3 K ls st V) (o_pf WW true r1 r2 r3 K' ls st V) := by
  unfold o_pf
  cases r3 with
  | zero =>
    have hr : (Nat.ble 10 r1 && !rsk r1 r2) = true := hr
    simp only [Bool.and_eq_true, Bool.not_eq_true'] at hr
    dsimp only
    split
    · refine RT.xif (fun q => ?_)
      have q := Nat.eq_of_beq_eq_true q
      have h10 := Nat.le_of_ble_eq_true hr.1
      refine hK _ _ _ (hV.put ?_ ?_)
      · unfold rsl
        rw [q, hr.2]
        have h5 : Nat.beq r1 5 = false := by cases h : Nat.beq r1 5 with | false => rfl | true => have := Nat.eq_of_beq_eq_true h; omega
        have h6 : Nat.beq r1 6 = false := by cases h : Nat.beq r1 6 with | false => rfl | true => have := Nat.eq_of_beq_eq_true h; omega
        rw [h5, h6]; rfl
      · omega
    · exact RT.no
  | succ n =>
    dsimp only
    split
    · exact RT.no
    · exact RT.no
theorem aald_rt (hK : ∀ ls st V, FC V → RT (K ls st V) (K' ls st V)) {r1 : Nat} (hr : (Nat.beq r1 5 || Nat.beq r1 6) = true) (ls st : List XS) (V : XM) (hV : FC V) : RT (o_aald WW false r1 K ls st V) (o_aald WW true r1 K' ls st V) := by
  unfold o_aald
  split
  · rename_i j g i st
    refine RT.load (fun q hj x hx => ?_)
    dsimp only
    rw [if_pos (by rw [hx]; exact hV.2 g i _ (by unfold rsl; rw [q, hr, Bool.true_and, decide_eq_true (by omega), Bool.true_or]))]
    exact hK _ _ _ hV
  · exact RT.no
set_option maxHeartbeats 4000000 in
theorem xins_rt (hF : ∀ t ls st V, FC V → RT (F t ls st V) (F' t ls st V)) (hC : ∀ m as V, FC V → RT (C m as V) (C' m as V)) (hK : ∀ ls st V, FC V → RT (K ls st V) (K' ls st V)) {e : XE} (he : eCk e = true) (ls st : List XS) (V : XM) (hV : FC V) : RT (xone WW false F C K e ls st V) (xone WW true F' C' K' e ls st V) := by
  obtain ⟨pc, ins, len, c, r1, r2, r3, tg⟩ := e
  simp only [xone]
  cases ins
  case getfield => exact gf_rt hK he ls st V hV
  case putfield => exact pf_rt hK he ls st V hV
  case aaload => exact aald_rt hK he ls st V hV
  case ifCond cnd off => cases cnd <;> simp only [xins, o_ifeq, o_ifne, o_iflt, o_ifge, o_ifgt, o_ifle] <;> split <;> first | exact RT.no | exact RT.it (hF _ _ _ _ hV) (hK _ _ _ hV) | exact RT.it (hK _ _ _ hV) (hF _ _ _ _ hV)
  case if_icmp cnd off => cases cnd <;> simp only [xins, o_iceq, o_icne, o_iclt, o_icge, o_icgt, o_icle] <;> split <;> first | exact RT.no | exact RT.it (hF _ _ _ _ hV) (hK _ _ _ hV) | exact RT.it (hK _ _ _ hV) (hF _ _ _ _ hV)
  case iastore => simp only [xins, o_iast]; split; exact RT.load (fun q _ x _ => hK _ _ _ (hV.put (rsl_k q (by omega)).1 (rsl_k (j := 0) q (by omega)).2)); exact RT.no
  case bastore => simp only [xins, o_bast]; split; exact RT.load (fun q _ x _ => hK _ _ _ (hV.put (rsl_k q (by omega)).1 (rsl_k (j := 0) q (by omega)).2)); exact RT.no
  case lastore => simp only [xins, o_last]; split; exact RT.load (fun q _ x _ => hK _ _ _ (hV.put (rsl_k q (by omega)).1 (rsl_k (j := 0) q (by omega)).2)); exact RT.no
  case dastore => simp only [xins, o_dast]; split; exact RT.load (fun q _ x _ => hK _ _ _ (hV.put (rsl_k q (by omega)).1 (rsl_k (j := 0) q (by omega)).2)); exact RT.no
  case aastore => simp only [xins, o_aast]; split <;> exact RT.no
  case new => exact RT.no
  case newarray => simp only [xins, o_newa]; split <;> exact RT.no
  case anewarray => simp only [xins, o_newa]; split <;> exact RT.no
  all_goals simp only [xins, xsetK_eq, o_il, o_ll, o_al, o_is, o_ls, o_as, o_inc, o_dup, o_dup2, o_dupx, o_pop, o_i2, o_div, o_i1, o_l2, o_ldiv, o_lsh, o_lcmp, o_i2l, o_l2i, o_l2f, o_l2d, o_f2l, o_d2l, o_f2d, o_dcmp, o_iald, o_bald, o_lald, o_dald, o_alen, o_inv, o_iret, o_lret, o_aret, o_vret, o_sw]
  all_goals repeat' (first | exact RT.no | exact hK _ _ _ hV | exact hF _ _ _ _ hV | exact RT.ok hV | exact RT.sw (fun t => hF _ _ _ _ hV) _ _ | (refine RT.xif (fun _ => ?_)) | (refine RT.it ?_ ?_) | (refine RT.load (fun _ _ _ _ => ?_)) | exact RT.ci (hC _ _ _ hV) (fun _ _ h => hK _ _ _ h) | exact RT.cl (hC _ _ _ hV) (fun _ _ h => hK _ _ _ h) | exact RT.cr (hC _ _ _ hV) (fun _ h => hK _ _ _ h) | exact RT.cv (hC _ _ _ hV) (fun _ h => hK _ _ _ h) | split)
theorem xrun_rt (hF : ∀ t ls st V, FC V → RT (F t ls st V) (F' t ls st V)) (hC : ∀ m as V, FC V → RT (C m as V) (C' m as V)) (nx : Nat) : ∀ (es : List XE), (∀ e ∈ es, eCk e = true) → ∀ (ls st : List XS) (V : XM), FC V → RT (xrun WW false F C nx es ls st V) (xrun WW true F' C' nx es ls st V) := by
  intro es
  induction es with
  | nil => intro _ ls st V hV; exact hF _ _ _ _ hV
  | cons e l ih =>
    intro h ls st V hV
    exact xins_rt hF hC (ih (fun e he => h e (List.mem_cons_of_mem _ he))) (h _ List.mem_cons_self) ls st V hV
end
def eCkM (m : Nat) : Bool := (XP m).all fun b => b.2.2.1.all eCk
theorem xex_rt (hm : ∀ m, eCkM m = true) : ∀ (f d m pc : Nat) (ls st : List XS) (V : XM), FC V → RT (xex WW XP XML false f d m pc ls st V) (xex WW XP XML true f d m pc ls st V) := by
  intro f
  induction f with
  | zero => intro d m pc ls st V hV; exact RT.no
  | succ f ih =>
    intro d m pc ls st V hV
    show RT (xmac WW false (XP m) _ _ pc ls st V) (xmac WW true (XP m) _ _ pc ls st V)
    unfold xmac
    cases hb : xblk (XP m) pc with
    | none => exact RT.no
    | some b =>
      refine xrun_rt (fun t ls st V hV => by rw [xmkK_eq, xmkK_eq]; exact ih _ _ _ _ _ _ hV) (fun m as V hV => ?_) _ _ (fun e he => List.all_eq_true.mp (List.all_eq_true.mp (hm m) b (xblk_in hb)) e he) ls st V hV
      cases d with
      | zero => exact RT.no
      | succ d => exact ih _ _ _ _ _ _ hV
