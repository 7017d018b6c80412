/-! soundness: writes of fields, references, new cells, switches, the script -/
theorem wt_ig : ((List.range 114).all fun g => (List.range 60).all fun k => !(Nat.beq (WW.2.2.1 g k) 1)) = true := by decide +kernel
theorem wt_fn : ((List.range 13).all fun ci => decide ((vcl ci).2.2 ≤ 60)) = true := by decide +kernel
theorem xgl_out {α : Type} (d : α) : ∀ (l : List α) (k : Nat), l.length ≤ k → xgl d l k = d := by
  intro l
  induction l with
  | nil => intro k h; rfl
  | cons a l ih => intro k h; cases k with
    | zero => simp at h
    | succ k => exact ih k (by simpa using h)
theorem wk_len : (WK_l.length = 8) ∧ WK_l.getLast? = some (xgl [] WK_l 7) ∧ (xgl [] WK_l 7).length = 2 := by decide +kernel
theorem wk_out {g : Nat} (h : 114 ≤ g) : WW.1 g = 9 := by
  show xgl 9 (xgl [] WK_l (g / 16)) (g % 16) = 9
  rcases Nat.lt_or_ge (g / 16) 8 with q | q
  · have : g / 16 = 7 := by omega
    rw [this]
    exact xgl_out _ _ _ (by rw [wk_len.2.2]; omega)
  · rw [xgl_out [] WK_l (g / 16) (by rw [wk_len.1]; exact q)]
    rfl
theorem xsw_cases {x : Int} {d : Nat} {F : Nat → XR} {rr : XS × XM} : ∀ (tg : List Nat) (lo : Int), xsw x lo d F tg = some rr → (∃ (k t : Nat), tg[k]? = some t ∧ x = lo + (k : Int) ∧ F t = some rr) ∨ ((x < lo ∨ lo + (tg.length : Int) ≤ x) ∧ F d = some rr) := by
  intro tg
  induction tg with
  | nil =>
    intro lo h
    right
    refine ⟨?_, h⟩
    show x < lo ∨ lo + ((0 : Nat) : Int) ≤ x
    omega
  | cons t l ih =>
    intro lo h
    simp only [xsw] at h
    split at h
    · rename_i hx
      left
      exact ⟨0, t, rfl, by omega, h⟩
    · rename_i hx
      rcases ih (lo + 1) h with ⟨k, t', h1, h2, h3⟩ | ⟨h1, h2⟩
      · left
        exact ⟨k + 1, t', h1, by omega, h3⟩
      · right
        refine ⟨?_, h2⟩
        rw [List.length_cons]
        omega
theorem cK_0 (k : Nat) : cK k 0 := by
  unfold cK
  split
  · unfold c64; omega
  · exact Or.inl rfl
  · omega
  · unfold c32; omega
theorem new_ne {n k g i : Nat} (h3 : n < 155) (e : tau n = (g, i)) (hk : k < n) : ¬ ((tau k).1 = g ∧ (tau k).2 = i) := fun h => absurd (tau_inj (a := k) (b := n) (by omega) h3 (by rw [e]; exact Prod.ext h.1 h.2)) (by omega)
theorem new_al {n a b g i : Nat} (h3 : n < 155) (e : tau n = (g, i)) (h : al n a b) : ¬ (a = g ∧ b = i) := by
  obtain ⟨k, hk, e2⟩ := h
  have := new_ne h3 e hk
  rw [e2] at this
  exact this
theorem new_pure {n : Nat} {V : XM} {g i : Nat} (h1 : cV V) (h2 : Io true n V) (h3 : n < 155) (e : tau n = (g, i)) : cV (xz V g i n) ∧ Io true (n + 1) (xz V g i n) ∧ xz V g i n 1 = V 1 := by
  have hg : 1 < g := (al_kind (n := 155) (g := g) (i := i) (by omega) ⟨n, h3, e⟩).1
  obtain ⟨⟨i1, i2⟩, i3⟩ := h2
  have hal : ∀ a b, al (n + 1) a b → al n a b ∨ (a = g ∧ b = i) := by
    intro a b h
    obtain ⟨k, hk, e2⟩ := h
    by_cases q : k < n
    · exact Or.inl ⟨k, q, e2⟩
    · have : k = n := by omega
      subst this
      rw [e] at e2
      cases e2
      exact Or.inr ⟨rfl, rfl⟩
  have ha0 : ∀ m a b, m ≤ 155 → al m a b → a ≠ 0 := fun m a b hm h q => by have := (al_kind hm h).1; omega
  refine ⟨?_, ⟨⟨?_, ?_⟩, ?_⟩, ?_⟩
  · intro a b c
    unfold xz
    split
    · rename_i q
      rw [q.1, wk_0]
      show c32 _
      unfold c32
      omega
    · split
      · exact cK_0 _
      · exact h1 a b c
  · intro a b c ha hk hv
    have hz : a ≠ 0 := ha0 (n + 1) a b (by omega) ha
    unfold xz at hv
    rw [if_neg (fun q => hz q.1)] at hv
    rcases hal a b ha with q | q
    · rw [if_neg (new_al h3 e q)] at hv
      exact al_mono (i1 a b c q hk hv) (by omega)
    · rw [if_pos q] at hv
      cases hv
  · intro a b c ha hk hi hv
    have hz : a ≠ 0 := ha0 (n + 1) a b (by omega) ha
    unfold xz at hv
    rw [if_neg (fun q => hz q.1)] at hv
    rcases hal a b ha with q | q
    · rw [if_neg (new_al h3 e q)] at hv
      exact al_mono (i2 a b c q hk hi hv) (by omega)
    · rw [if_pos q] at hv
      cases hv
  · unfold xz
    rw [if_pos ⟨rfl, rfl, rfl⟩]
    rfl
  · funext b c
    unfold xz
    rw [if_neg (fun q => by omega), if_neg (fun q => by omega)]
def adu (ad : Nat → Nat → Nat) (g i q : Nat) : Nat → Nat → Nat := fun a b => if a = g ∧ b = i then q else ad a b
theorem ar_adu {ad : Nat → Nat → Nat} {g i q n a b : Nat} (h3 : n < 155) (e : tau n = (g, i)) (h : al n a b) : ar (adu ad g i q) a b = ar ad a b := by
  cases a with
  | zero => rfl
  | succ a =>
    show some (adu ad g i q (a + 1) b) = some (ad (a + 1) b)
    unfold adu
    rw [if_neg (new_al h3 e h)]
theorem rfv_adu {ad : Nat → Nat → Nat} {g i q n a b : Nat} {x : Int} (h3 : n < 155) (e : tau n = (g, i)) (h : x = 1 → al n a b) : rfv true (adu ad g i q) a b x = rfv true ad a b x := by
  unfold rfv
  by_cases hx : x = 1
  · simp only [hx, or_true, if_true]
    exact ar_adu h3 e (h hx)
  · simp only [hx, or_false, Bool.true_eq_false, if_false]
theorem ce_5 {md : Bool} {row : Nat → Int} {ad : Nat → Nat → Nat} {dA : Nat → ClassId} {g i : Nat} (h : WW.1 g = 5) : ce md row ad dA g i = .inl (dA 5, (WW.2.1 g).toNat, .inr (.inr (.inr (.inr (fun j => rfv md ad (WW.2.2.1 g 0) (WW.2.2.2.1 g i j) (row j)))))) := by
  unfold ce
  rw [h]
  rfl
theorem ce_6 {md : Bool} {row : Nat → Int} {ad : Nat → Nat → Nat} {dA : Nat → ClassId} {g i : Nat} (h : WW.1 g = 6) : ce md row ad dA g i = .inl (dA 6, (WW.2.1 g).toNat, .inr (.inr (.inr (.inr (fun j => rfv md ad (WW.2.2.1 g 0) (WW.2.2.2.1 g i j) (row j)))))) := by
  unfold ce
  rw [h]
  rfl
theorem ce_adu {V : XM} {ad : Nat → Nat → Nat} {dA : Nat → ClassId} {g i q n a b : Nat} (h2 : Io true n V) (h3 : n < 155) (e : tau n = (g, i)) (h : al n a b) : ce true (V a b) (adu ad g i q) dA a b = ce true (V a b) ad dA a b := by
  obtain ⟨⟨i1, i2⟩, -⟩ := h2
  rcases (al_kind (by omega) h).2.2 with k | k | k | k | k | k | k
  · rw [ce_1 k, ce_1 k]
  · rw [ce_2 k, ce_2 k]
  · rw [ce_3 k, ce_3 k]
  · rw [ce_4 k, ce_4 k]
  · rw [ce_5 k, ce_5 k]
    congr 7
    funext j
    rw [rfv_adu h3 e (fun hx => i1 a b j h (Or.inl k) hx)]
  · rw [ce_6 k, ce_6 k]
    congr 7
    funext j
    rw [rfv_adu h3 e (fun hx => i1 a b j h (Or.inr k) hx)]
  · rw [ce_obj k.1, ce_obj k.1]
    congr 2
    apply List.map_congr_left
    intro c hc
    unfold fv
    split
    · rfl
    · rename_i hi
      rw [rfv_adu h3 e (fun hx => i2 a b c h k.1 (by simpa using hi) hx)]
theorem wof_new {n : Nat} {V : XM} {ad : Nat → Nat → Nat} {dA : Nat → ClassId} {g i q : Nat} (h2 : Io true n V) (h3 : n < 155) (e : tau n = (g, i)) : wof true (n + 1) (xz V g i n) (adu ad g i q) dA = wof true n V ad dA ++ [(q, ce true (fun _ => 0) (adu ad g i q) dA g i)] := by
  have hg : 1 < g := (al_kind (n := 155) (g := g) (i := i) (by omega) ⟨n, h3, e⟩).1
  unfold wof
  rw [List.range_succ, List.map_append]
  congr 1
  · apply List.map_congr_left
    intro k hk
    have hk := List.mem_range.mp hk
    have hne := new_ne h3 e hk
    have hk1 : 1 < (tau k).1 := (al_kind (n := 155) (by omega) ⟨k, by omega, rfl⟩).1
    have r1 : xz V g i n (tau k).1 (tau k).2 = V (tau k).1 (tau k).2 := by
      funext c
      unfold xz
      rw [if_neg (fun q => by omega), if_neg hne]
    rw [r1, ce_adu (a := (tau k).1) (b := (tau k).2) h2 h3 e ⟨k, hk, rfl⟩]
    show (adu ad g i q (tau k).1 (tau k).2, _) = _
    unfold adu
    rw [if_neg hne]
  · simp only [List.map_cons, List.map_nil, List.cons.injEq, and_true]
    rw [e]
    have r1 : xz V g i n g i = fun _ => 0 := by
      funext c
      unfold xz
      rw [if_neg (fun q => by omega), if_pos ⟨rfl, rfl⟩]
    rw [r1]
    show (adu ad g i q g i, _) = _
    unfold adu
    rw [if_pos ⟨rfl, rfl⟩]
theorem axt_adu {n0 n : Nat} {ad0 ad : Nat → Nat → Nat} {g i q : Nat} (h : axt n0 ad0 ad) (hn : n0 ≤ n) (h3 : n < 155) (e : tau n = (g, i)) : axt n0 ad0 (adu ad g i q) := by
  have hg : 1 < g := (al_kind (n := 155) (g := g) (i := i) (by omega) ⟨n, h3, e⟩).1
  intro a b hab
  unfold adu
  rw [if_neg]
  · exact h a b hab
  · intro q
    rcases hab with hab | hab
    · omega
    · exact new_al h3 e (al_mono hab hn) q
theorem axt_adu1 {n : Nat} {ad : Nat → Nat → Nat} {g i q : Nat} (h3 : n < 155) (e : tau n = (g, i)) : axt n ad (adu ad g i q) := axt_adu (fun _ _ _ => rfl) (Nat.le_refl n) h3 e
section
variable {p : Program} {l : Launch} {e : Env} {R : Room} {s : State} {mi : MethodId} {args : Array Value} {below : List Frame} {meth : Method} {c : Code} {Q : State → Prop} {D : va_G} {dA : Nat → ClassId} {z : Nat} {sc md : Bool} {b m n0 : Nat} {ad0 : Nat → Nat → Nat} {r : XS} {Vf V0 : XM} {pc : Nat} {ls st : List XS} {V : XM}

theorem G_swIn {x dflt lo hi off : Int} {offs : Array Int} {len k0 t : Nat} (hx : p.tables.exec = Jvm.exec) (hb : c.code = mC m) (hd : decode (mC m) pc = .ok (.tableswitch dflt lo hi offs, len)) (hx0 : x = lo + (k0 : Int)) (hhi : x ≤ hi) (ho : offs[k0]? = some off) (ht : (pc : Int) + off = (t : Int)) (hg : Good p l e R s mi args below meth c Q D dA z sc md b m n0 ad0 r Vf V0 t ls st V) : Good p l e R s mi args below meth c Q D dA z sc md b m n0 ad0 r Vf V0 pc ls (xi x :: st) V := by
  refine G_pure hg (fun n hl hs => (m1 hs).2) (fun n ad H locs lsA k1 k2 hl hs hh hlen k => ?_)
  have e1 : (Int32.ofInt x).toInt = x := n32_id (m1 hs).1
  exact lv_tableIn hx hb hd (by rw [e1]; omega) (by rw [e1]; omega) (by rw [e1, show (x - lo).toNat = k0 by omega]; exact ho) ht k
theorem G_swOut {x dflt lo hi : Int} {offs : Array Int} {len t : Nat} (hx : p.tables.exec = Jvm.exec) (hb : c.code = mC m) (hd : decode (mC m) pc = .ok (.tableswitch dflt lo hi offs, len)) (hx0 : x < lo ∨ hi < x) (ht : (pc : Int) + dflt = (t : Int)) (hg : Good p l e R s mi args below meth c Q D dA z sc md b m n0 ad0 r Vf V0 t ls st V) : Good p l e R s mi args below meth c Q D dA z sc md b m n0 ad0 r Vf V0 pc ls (xi x :: st) V := by
  refine G_pure hg (fun n hl hs => (m1 hs).2) (fun n ad H locs lsA k1 k2 hl hs hh hlen k => ?_)
  have e1 : (Int32.ofInt x).toInt = x := n32_id (m1 hs).1
  exact lv_tableOut hx hb hd (by rw [e1]; exact hx0) ht k
theorem G_putI {g i idx r1 r2 : Nat} {x : Int} (hx : p.tables.exec = Jvm.exec) (hb : c.code = mC m) (hown : s.vm.findClass (cN (mK m)) = some mi.cls) (hts : ∀ w ∈ TW, w.before args s = true) (hK : va_K D vwCl (tysA dA) s) (hf : FldOk (mK m) idx r1 r2 0) (hk : WW.1 g = r1) (hd : decode (mC m) pc = .ok (.putfield idx, 3)) (hg : Good p l e R s mi args below meth c Q D dA z sc md b m n0 ad0 r Vf V0 (pc + 3) ls st (xu V g i r2 x)) : Good p l e R s mi args below meth c Q D dA z sc md b m n0 ad0 r Vf V0 pc ls (xi x :: xr g i :: st) V := by
  obtain ⟨f1, f2, f3, f4, f5, f6, f7⟩ := hf
  refine G_wr hg (fun n h1 h2 h3 hs => ⟨cV_xu h1 ?_, Io_xu h2 (fun q => by rw [q, wk_0] at hk; omega) ⟨by omega, fun _ => by rw [hk]; exact f6.mpr rfl⟩, xu_1 (fun q => by rw [q, wk_1] at hk; omega), (m1 (m1 hs).2).2⟩) (fun n ad H locs lsA k1 k2 h1 h2 h3 hs hw hS k => ?_)
  · have hc : c32 x := (m1 hs).1
    unfold cK
    split
    · omega
    · omega
    · omega
    · exact hc
  have ha : al n g i := cS_al (m1 (m1 hs).2).1 (by omega) (by omega)
  obtain ⟨q, hq, e9⟩ := ha
  show W p l e R s mi args below meth c H locs k1 k2 Q (F0 mi pc lsA (.int (Int32.ofInt x) :: tv ad (xr g i) :: st.map (tv ad)))
  rw [tv_ref h3 ⟨q, hq, e9⟩]
  have he := wof_get (md := md) (V := V) (ad := ad) (dA := dA) hq e9
  rw [ce_obj (by omega), hk] at he
  have hset : (wof md n V ad dA).set q (ad g i, .inr (r1 - 10, ((List.range (vcl (r1 - 10)).2.2).map (fv md (V g i) ad g i)).set r2 (.int (Int32.ofInt x)))) = wof md n (xu V g i r2 x) ad dA := by
    apply wof_set h3 hq e9
    rw [ce_obj (by omega), hk]
    congr 2
    apply List.ext_getElem?
    intro j
    by_cases hj : j < (vcl (r1 - 10)).2.2
    · by_cases hj2 : j = r2
      · subst hj2
        rw [List.getElem?_set_self (by simpa using f3), List.getElem?_map, List.getElem?_range f3]
        simp only [Option.map_some, fv, hk, f6.mpr rfl, if_true, xu_row]
      · rw [List.getElem?_set_ne (fun h => hj2 h.symm), List.getElem?_map, List.getElem?_map, List.getElem?_range hj]
        simp only [Option.map_some, fv, hk, xu_row, hj2, if_false]
    · rw [List.getElem?_eq_none (by simpa using hj), List.getElem?_eq_none (by simpa using hj)]
  have hf2 : ((vcl (r1 - 10)).2.1 r2).2.2.2 = false := f7.mpr rfl
  have hty : vty (r1 - 10) r2 = .int := by
    have := f6.mpr rfl
    cases h : vty (r1 - 10) r2 with
    | int => rfl
    | _ => rw [h] at this; cases this
  refine va_put (D := D) (ref := (vcl (r1 - 10)).1) hx hb hts (uws_in f2) (vty (r1 - 10)) (vty_ok f2) (vnm_ok f2) hown hK hw.1 hw.2 hS q he (vcl_get f2) r2 f3 (hts _ f4) (fun x h => by rw [f5] at h; exact h) hf2 (ty := .int) (by rw [vty_ok f2 r2 f3, hty]) rfl rfl (by simpa using f3) hd (fun H1 locs1 hP hD hS => k H1 locs1 ⟨?_, ?_⟩ hS)
  · rw [← hset]
    exact hP
  · rw [← hset]
    exact hD
theorem G_putR {g i idx r1 r2 r3 a a2 : Nat} (hx : p.tables.exec = Jvm.exec) (hb : c.code = mC m) (hmd : md = true) (hin : meth.name = "<init>") (hown : s.vm.findClass (cN (mK m)) = some mi.cls) (hts : ∀ w ∈ TW, w.before args s = true) (hK : va_K D vwCl (tysA dA) s) (hf : FldOk (mK m) idx r1 r2 (r3 + 1)) (hcl : (vcl (r1 - 10)).1 = cN (mK m)) (hk : WW.1 g = r1) (hv : WW.2.2.1 g r2 = a ∧ WW.2.2.2.1 g i r2 = a2 ∧ a ≠ 0) (hd : decode (mC m) pc = .ok (.putfield idx, 3)) (hg : Good p l e R s mi args below meth c Q D dA z sc md b m n0 ad0 r Vf V0 (pc + 3) ls st (xu V g i r2 1)) : Good p l e R s mi args below meth c Q D dA z sc md b m n0 ad0 r Vf V0 pc ls (xr a a2 :: xr g i :: st) V := by
  subst hmd
  obtain ⟨f1, f2, f3, f4, f5, f6, f7⟩ := hf
  have hI : isI (vty (r1 - 10) r2) = false := by
    cases h : isI (vty (r1 - 10) r2) with
    | false => rfl
    | true => exact absurd (f6.mp h) (by omega)
  have g0 : g ≠ 0 := fun q => by rw [q, wk_0] at hk; omega
  have g1 : g ≠ 1 := fun q => by rw [q, wk_1] at hk; omega
  have hala : ∀ n, cS sc n (xr a a2) → (sc = true → a ≠ 1) → al n a a2 := fun n h h1 => by
    rcases h with h | h | h
    · exact absurd h hv.2.2
    · exact absurd h.2.1 (h1 h.1)
    · exact h
  have ha1 : a ≠ 1 := by
    intro q
    have := List.all_eq_true.mp (List.all_eq_true.mp wt_ig g (List.mem_range.mpr ?_)) r2 (List.mem_range.mpr ?_)
    · rw [hv.1, q] at this
      simp at this
    · rcases Nat.lt_or_ge g 114 with q2 | q2
      · exact q2
      · rw [wk_out q2] at hk
        omega
    · have := List.all_eq_true.mp wt_fn (r1 - 10) (List.mem_range.mpr f2)
      simp only [decide_eq_true_eq] at this
      omega
  refine G_wr hg (fun n h1 h2 h3 hs => ⟨cV_xu h1 ?_, ?_, xu_1 g1, (m1 (m1 hs).2).2⟩) (fun n ad H locs lsA k1 k2 h1 h2 h3 hs hw hS k => ?_)
  · unfold cK
    split
    · omega
    · omega
    · omega
    · unfold c32; omega
  · have haa : al n a a2 := hala n (m1 hs).1 (fun _ => ha1)
    obtain ⟨⟨i1, i2⟩, i3⟩ := h2
    refine ⟨⟨fun u v w hu hkk hvv => ?_, fun u v w hu hkk hii hvv => ?_⟩, ?_⟩
    · unfold xu at hvv
      split at hvv
      · rename_i q
        rw [q.1] at hkk
        omega
      · exact i1 u v w hu hkk hvv
    · unfold xu at hvv
      split at hvv
      · rename_i q
        rw [q.1, q.2.1, q.2.2, hv.1, hv.2.1]
        exact haa
      · exact i2 u v w hu hkk hii hvv
    · unfold xu
      rw [if_neg (fun q => g0 q.1.symm)]
      exact i3
  have ha : al n g i := cS_al (m1 (m1 hs).2).1 (by omega) (by omega)
  have haa : al n a a2 := hala n (m1 hs).1 (fun _ => ha1)
  obtain ⟨q, hq, e9⟩ := ha
  show W p l e R s mi args below meth c H locs k1 k2 Q (F0 mi pc lsA (tv ad (xr a a2) :: tv ad (xr g i) :: st.map (tv ad)))
  rw [tv_ref h3 ⟨q, hq, e9⟩, tv_ref h3 haa]
  have he := wof_get (md := true) (V := V) (ad := ad) (dA := dA) hq e9
  rw [ce_obj (by omega), hk] at he
  have hset : (wof true n V ad dA).set q (ad g i, .inr (r1 - 10, ((List.range (vcl (r1 - 10)).2.2).map (fv true (V g i) ad g i)).set r2 (.ref (ad a a2)))) = wof true n (xu V g i r2 1) ad dA := by
    apply wof_set h3 hq e9
    rw [ce_obj (by omega), hk]
    congr 2
    apply List.ext_getElem?
    intro j
    by_cases hj : j < (vcl (r1 - 10)).2.2
    · by_cases hj2 : j = r2
      · subst hj2
        rw [List.getElem?_set_self (by simpa using f3), List.getElem?_map, List.getElem?_range f3]
        simp only [Option.map_some, fv, hk, hI, Bool.false_eq_true, if_false, xu_row, if_true, rfv, or_true, hv.1, hv.2.1]
        rw [← tv_ref h3 haa]
        rfl
      · rw [List.getElem?_set_ne (fun h => hj2 h.symm), List.getElem?_map, List.getElem?_map, List.getElem?_range hj]
        simp only [Option.map_some, fv, hk, xu_row, hj2, if_false]
    · rw [List.getElem?_eq_none (by simpa using hj), List.getElem?_eq_none (by simpa using hj)]
  have hf2 : ((vcl (r1 - 10)).2.1 r2).2.2.2 = true := by
    cases h : ((vcl (r1 - 10)).2.1 r2).2.2.2 with
    | true => rfl
    | false => exact absurd (f7.mp h) (by omega)
  have hrf : isRf (vty (r1 - 10) r2) = true := by
    have := List.all_eq_true.mp (List.all_eq_true.mp sU4 _ (List.mem_range.mpr f2)) _ (List.mem_range.mpr f3)
    rw [hI] at this
    exact this
  refine va_putF (D := D) (ref := (vcl (r1 - 10)).1) hx hb hts (uws_in f2) (vty (r1 - 10)) (vty_ok f2) (vnm_ok f2) hown hK hw.1 hw.2 hS q he (vcl_get f2) r2 f3 (hts _ f4) (fun x h => by rw [f5] at h; exact h) hf2 hin (by rw [f5, hcl]) (ty := vty (r1 - 10) r2) (vty_ok f2 r2 f3) ?_ ?_ (by simpa using f3) hd (fun H1 locs1 hP hD hS => k H1 locs1 ⟨?_, ?_⟩ hS)
  · cases h : vty (r1 - 10) r2 with
    | object _ => rfl
    | array _ => rfl
    | _ => rw [h] at hrf; cases hrf
  · cases h : vty (r1 - 10) r2 with
    | object _ => rfl
    | array _ => rfl
    | _ => rw [h] at hrf; cases hrf
  · rw [← hset]
    exact hP
  · rw [← hset]
    exact hD
end
