/-! soundness: rows of references, the script, new cells, returns -/
theorem wt_len : ((List.range 155).all fun k => decide (WW.2.1 (tau k).1 ≤ 10000)) = true := by decide +kernel
set_option maxRecDepth 20000 in
theorem ac_int : Cond.arrayClass .int ∈ TW := TW_of (wpick_mem [122] lw_tbl (by rw [show wpick [122] lw_tbl = [Cond.arrayClass .int] from rfl]; exact List.mem_cons_self)) rfl
set_option maxRecDepth 20000 in
theorem ac_long : Cond.arrayClass .long ∈ TW := TW_of (wpick_mem [210] lw_tbl (by rw [show wpick [210] lw_tbl = [Cond.arrayClass .long] from rfl]; exact List.mem_cons_self)) rfl
set_option maxRecDepth 20000 in
theorem ac_bool : Cond.arrayClass .boolean ∈ TW := TW_of (wpick_mem [169] lw_tbl (by rw [show wpick [169] lw_tbl = [Cond.arrayClass .boolean] from rfl]; exact List.mem_cons_self)) rfl
set_option maxRecDepth 20000 in
theorem ac_dbl : Cond.arrayClass .double ∈ TW := TW_of (wpick_mem [1444] lw_tbl (by rw [show wpick [1444] lw_tbl = [Cond.arrayClass .double] from rfl]; exact List.mem_cons_self)) rfl
section
variable {p : Program} {l : Launch} {e : Env} {R : Room} {s : State} {mi : MethodId} {args : Array Value} {below : List Frame} {meth : Method} {c : Code} {Q : State → Prop} {D : va_G} {dA : Nat → ClassId} {z : Nat} {sc md : Bool} {b m n0 : Nat} {ad0 : Nat → Nat → Nat} {r : XS} {Vf V0 : XM} {pc : Nat} {ls st : List XS} {V : XM}

theorem G_aald5 {g i : Nat} {j : Int} (hx : p.tables.exec = Jvm.exec) (hb : c.code = mC m) (hK : va_K D vwCl (tysA dA) s) (hk : WW.1 g = 5) (hj : 0 ≤ j ∧ j < WW.2.1 g) (hv : md = false ∨ V g i j.toNat = 1) (hd : decode (mC m) pc = .ok (.aaload, 1)) (hg : Good p l e R s mi args below meth c Q D dA z sc md b m n0 ad0 r Vf V0 (pc + 1) ls (xr (WW.2.2.1 g 0) (WW.2.2.2.1 g i j.toNat) :: st) V) : Good p l e R s mi args below meth c Q D dA z sc md b m n0 ad0 r Vf V0 pc ls (xi j :: xr g i :: st) V := by
  refine G_rd hg (fun n h1 h2 h3 hs _ => m2 (Or.inr (Or.inr ?_)) (m1 (m1 hs).2).2) (fun n ad H locs lsA k1 k2 h1 h2 h3 hs hw hS _ _ k => ?_)
  · have ha : al n g i := cS_al (m1 (m1 hs).2).1 (by omega) (by omega)
    cases md with
    | false => exact h2.1 g i j.toNat ha (by omega) (by omega)
    | true => exact h2.1.1 g i j.toNat ha (by omega) (hv.elim (fun q => by cases q) id)
  · have hcj : c32 j := (m1 hs).1
    have ha : al n g i := cS_al (m1 (m1 hs).2).1 (by omega) (by omega)
    obtain ⟨q, hq, e9⟩ := ha
    show W p l e R s mi args below meth c H locs k1 k2 Q (F0 mi pc lsA (.int (Int32.ofInt j) :: tv ad (xr g i) :: st.map (tv ad)))
    rw [tv_ref h3 ⟨q, hq, e9⟩]
    have he := wof_get (md := md) (V := V) (ad := ad) (dA := dA) hq e9
    rw [ce_5 hk] at he
    refine va_aldq hx hb hK hw.1 q 4 he rfl (n32_in hcj (by omega)) hd ?_
    rw [n32_nat hcj]
    try dsimp only
    unfold rfv
    rw [if_pos hv]
    exact k
theorem G_aast5 {g i a a2 : Nat} {j : Int} (hx : p.tables.exec = Jvm.exec) (hb : c.code = mC m) (hmd : md = true) (hK : va_K D vwCl (tysA dA) s) (hk : WW.1 g = 5) (hj : 0 ≤ j ∧ j < WW.2.1 g) (hv : WW.2.2.1 g 0 = a ∧ WW.2.2.2.1 g i j.toNat = a2 ∧ WW.1 a = 16 ∧ a ≠ 0) (hd : decode (mC m) pc = .ok (.aastore, 1)) (hg : Good p l e R s mi args below meth c Q D dA z sc md b m n0 ad0 r Vf V0 (pc + 1) ls st (xu V g i j.toNat 1)) : Good p l e R s mi args below meth c Q D dA z sc md b m n0 ad0 r Vf V0 pc ls (xr a a2 :: xi j :: xr g i :: st) V := by
  subst hmd
  have g0 : g ≠ 0 := fun q => by rw [q, wk_0] at hk; omega
  have g1 : g ≠ 1 := fun q => by rw [q, wk_1] at hk; omega
  have hala : ∀ n, cS sc n (xr a a2) → al n a a2 := fun n h => cS_al h (by omega) (by omega)
  refine G_wr hg (fun n h1 h2 h3 hs => ⟨cV_xu h1 (by rw [hk]; show c32 1; unfold c32; omega), ?_, xu_1 g1, (m1 (m1 (m1 hs).2).2).2⟩) (fun n ad H locs lsA k1 k2 h1 h2 h3 hs hw hS k => ?_)
  · have haa : al n a a2 := hala n (m1 hs).1
    obtain ⟨⟨i1, i2⟩, i3⟩ := h2
    refine ⟨⟨fun u v w hu hkk hvv => ?_, fun u v w hu hkk hii hvv => ?_⟩, ?_⟩
    · unfold xu at hvv
      split at hvv
      · rename_i q
        rw [q.1, q.2.1, q.2.2, hv.1, hv.2.1]
        exact haa
      · exact i1 u v w hu hkk hvv
    · unfold xu at hvv
      split at hvv
      · rename_i q
        rw [q.1] at hkk
        omega
      · exact i2 u v w hu hkk hii hvv
    · unfold xu
      rw [if_neg (fun q => g0 q.1.symm)]
      exact i3
  have hcj : c32 j := (m1 (m1 hs).2).1
  have ha : al n g i := cS_al (m1 (m1 (m1 hs).2).2).1 (by omega) (by omega)
  have haa : al n a a2 := hala n (m1 hs).1
  obtain ⟨q, hq, e9⟩ := ha
  show W p l e R s mi args below meth c H locs k1 k2 Q (F0 mi pc lsA (tv ad (xr a a2) :: .int (Int32.ofInt j) :: tv ad (xr g i) :: st.map (tv ad)))
  rw [tv_ref h3 ⟨q, hq, e9⟩, tv_ref h3 haa]
  have he := wof_get (md := true) (V := V) (ad := ad) (dA := dA) hq e9
  rw [ce_5 hk] at he
  obtain ⟨q2, hq2, e92⟩ := haa
  have he2 := wof_get (md := true) (V := V) (ad := ad) (dA := dA) hq2 e92
  rw [ce_obj (by omega), hv.2.2.1] at he2
  have hset : (wof true n V ad dA).set q (ad g i, .inl (dA 5, (WW.2.1 g).toNat, .inr (.inr (.inr (.inr (va_up (fun j => rfv true ad (WW.2.2.1 g 0) (WW.2.2.2.1 g i j) (V g i j)) j.toNat (some (ad a a2)))))))) = wof true n (xu V g i j.toNat 1) ad dA := by
    apply wof_set h3 hq e9
    rw [ce_5 hk, xu_row]
    congr 7
    funext c
    unfold va_up
    by_cases hc : c = j.toNat
    · rw [if_pos hc]
      show some (ad a a2) = rfv true ad (WW.2.2.1 g 0) (WW.2.2.2.1 g i c) (if c = j.toNat then 1 else V g i c)
      rw [if_pos hc, hc, hv.1, hv.2.1]
      unfold rfv
      rw [if_pos (Or.inr rfl)]
      obtain ⟨a0, rfl⟩ : ∃ a0, a = a0 + 1 := ⟨a - 1, by omega⟩
      rfl
    · rw [if_neg hc]
      show _ = rfv true ad (WW.2.2.1 g 0) (WW.2.2.2.1 g i c) (if c = j.toNat then 1 else V g i c)
      rw [if_neg hc]
  refine va_astq hx hb hK hw.1 hw.2 hS q 4 q2 6 (r := vcl 6) he rfl he2 rfl (n32_in hcj (by omega)) hd (fun H1 locs1 hP hD hS => k H1 locs1 ⟨?_, ?_⟩ hS)
  · rw [← hset]
    rw [n32_nat hcj] at hP
    exact hP
  · rw [← hset]
    rw [n32_nat hcj] at hD
    exact hD
theorem G_aald6 {g i : Nat} {j : Int} (hx : p.tables.exec = Jvm.exec) (hb : c.code = mC m) (hK : va_K D vwCl (tysA dA) s) (hk : WW.1 g = 6) (hj : 0 ≤ j ∧ j < WW.2.1 g) (hv : md = false ∨ V g i j.toNat = 1) (hd : decode (mC m) pc = .ok (.aaload, 1)) (hg : Good p l e R s mi args below meth c Q D dA z sc md b m n0 ad0 r Vf V0 (pc + 1) ls (xr (WW.2.2.1 g 0) (WW.2.2.2.1 g i j.toNat) :: st) V) : Good p l e R s mi args below meth c Q D dA z sc md b m n0 ad0 r Vf V0 pc ls (xi j :: xr g i :: st) V := by
  refine G_rd hg (fun n h1 h2 h3 hs _ => m2 (Or.inr (Or.inr ?_)) (m1 (m1 hs).2).2) (fun n ad H locs lsA k1 k2 h1 h2 h3 hs hw hS _ _ k => ?_)
  · have ha : al n g i := cS_al (m1 (m1 hs).2).1 (by omega) (by omega)
    cases md with
    | false => exact h2.1 g i j.toNat ha (by omega) (by omega)
    | true => exact h2.1.1 g i j.toNat ha (by omega) (hv.elim (fun q => by cases q) id)
  · have hcj : c32 j := (m1 hs).1
    have ha : al n g i := cS_al (m1 (m1 hs).2).1 (by omega) (by omega)
    obtain ⟨q, hq, e9⟩ := ha
    show W p l e R s mi args below meth c H locs k1 k2 Q (F0 mi pc lsA (.int (Int32.ofInt j) :: tv ad (xr g i) :: st.map (tv ad)))
    rw [tv_ref h3 ⟨q, hq, e9⟩]
    have he := wof_get (md := md) (V := V) (ad := ad) (dA := dA) hq e9
    rw [ce_6 hk] at he
    refine va_aldq hx hb hK hw.1 q 5 he rfl (n32_in hcj (by omega)) hd ?_
    rw [n32_nat hcj]
    try dsimp only
    unfold rfv
    rw [if_pos hv]
    exact k
theorem G_aast6 {g i a a2 : Nat} {j : Int} (hx : p.tables.exec = Jvm.exec) (hb : c.code = mC m) (hmd : md = true) (hK : va_K D vwCl (tysA dA) s) (hk : WW.1 g = 6) (hj : 0 ≤ j ∧ j < WW.2.1 g) (hv : WW.2.2.1 g 0 = a ∧ WW.2.2.2.1 g i j.toNat = a2 ∧ WW.1 a = 17 ∧ a ≠ 0) (hd : decode (mC m) pc = .ok (.aastore, 1)) (hg : Good p l e R s mi args below meth c Q D dA z sc md b m n0 ad0 r Vf V0 (pc + 1) ls st (xu V g i j.toNat 1)) : Good p l e R s mi args below meth c Q D dA z sc md b m n0 ad0 r Vf V0 pc ls (xr a a2 :: xi j :: xr g i :: st) V := by
  subst hmd
  have g0 : g ≠ 0 := fun q => by rw [q, wk_0] at hk; omega
  have g1 : g ≠ 1 := fun q => by rw [q, wk_1] at hk; omega
  have hala : ∀ n, cS sc n (xr a a2) → al n a a2 := fun n h => cS_al h (by omega) (by omega)
  refine G_wr hg (fun n h1 h2 h3 hs => ⟨cV_xu h1 (by rw [hk]; show c32 1; unfold c32; omega), ?_, xu_1 g1, (m1 (m1 (m1 hs).2).2).2⟩) (fun n ad H locs lsA k1 k2 h1 h2 h3 hs hw hS k => ?_)
  · have haa : al n a a2 := hala n (m1 hs).1
    obtain ⟨⟨i1, i2⟩, i3⟩ := h2
    refine ⟨⟨fun u v w hu hkk hvv => ?_, fun u v w hu hkk hii hvv => ?_⟩, ?_⟩
    · unfold xu at hvv
      split at hvv
      · rename_i q
        rw [q.1, q.2.1, q.2.2, hv.1, hv.2.1]
        exact haa
      · exact i1 u v w hu hkk hvv
    · unfold xu at hvv
      split at hvv
      · rename_i q
        rw [q.1] at hkk
        omega
      · exact i2 u v w hu hkk hii hvv
    · unfold xu
      rw [if_neg (fun q => g0 q.1.symm)]
      exact i3
  have hcj : c32 j := (m1 (m1 hs).2).1
  have ha : al n g i := cS_al (m1 (m1 (m1 hs).2).2).1 (by omega) (by omega)
  have haa : al n a a2 := hala n (m1 hs).1
  obtain ⟨q, hq, e9⟩ := ha
  show W p l e R s mi args below meth c H locs k1 k2 Q (F0 mi pc lsA (tv ad (xr a a2) :: .int (Int32.ofInt j) :: tv ad (xr g i) :: st.map (tv ad)))
  rw [tv_ref h3 ⟨q, hq, e9⟩, tv_ref h3 haa]
  have he := wof_get (md := true) (V := V) (ad := ad) (dA := dA) hq e9
  rw [ce_6 hk] at he
  obtain ⟨q2, hq2, e92⟩ := haa
  have he2 := wof_get (md := true) (V := V) (ad := ad) (dA := dA) hq2 e92
  rw [ce_obj (by omega), hv.2.2.1] at he2
  have hset : (wof true n V ad dA).set q (ad g i, .inl (dA 6, (WW.2.1 g).toNat, .inr (.inr (.inr (.inr (va_up (fun j => rfv true ad (WW.2.2.1 g 0) (WW.2.2.2.1 g i j) (V g i j)) j.toNat (some (ad a a2)))))))) = wof true n (xu V g i j.toNat 1) ad dA := by
    apply wof_set h3 hq e9
    rw [ce_6 hk, xu_row]
    congr 7
    funext c
    unfold va_up
    by_cases hc : c = j.toNat
    · rw [if_pos hc]
      show some (ad a a2) = rfv true ad (WW.2.2.1 g 0) (WW.2.2.2.1 g i c) (if c = j.toNat then 1 else V g i c)
      rw [if_pos hc, hc, hv.1, hv.2.1]
      unfold rfv
      rw [if_pos (Or.inr rfl)]
      obtain ⟨a0, rfl⟩ : ∃ a0, a = a0 + 1 := ⟨a - 1, by omega⟩
      rfl
    · rw [if_neg hc]
      show _ = rfv true ad (WW.2.2.1 g 0) (WW.2.2.2.1 g i c) (if c = j.toNat then 1 else V g i c)
      rw [if_neg hc]
  refine va_astq hx hb hK hw.1 hw.2 hS q 5 q2 7 (r := vcl 7) he rfl he2 rfl (n32_in hcj (by omega)) hd (fun H1 locs1 hP hD hS => k H1 locs1 ⟨?_, ?_⟩ hS)
  · rw [← hset]
    rw [n32_nat hcj] at hP
    exact hP
  · rw [← hset]
    rw [n32_nat hcj] at hD
    exact hD
theorem cS_scr {n i : Nat} (hn : n ≤ 155) (h : cS sc n (xr 1 i)) : sc = true ∧ i = 0 := by
  rcases h with h | h | h
  · omega
  · exact ⟨h.1, h.2.2⟩
  · have := (al_kind hn h).1
    omega
theorem G_sld {i : Nat} {j : Int} (hx : p.tables.exec = Jvm.exec) (hb : c.code = mC m) (hsz : z ≤ s.heap.size) (hsc : sc = true → b < z ∧ ∃ (L : Nat) (xs : Nat → Int32), va_X b L xs s s.heap ∧ V0 1 1 0 = (L : Int) ∧ ∀ j, j < L → V0 1 0 j = (xs j).toInt) (hj : 0 ≤ j ∧ j < V 1 1 0) (hd : decode (mC m) pc = .ok (.iaload, 1)) (hg : Good p l e R s mi args below meth c Q D dA z sc md b m n0 ad0 r Vf V0 (pc + 1) ls (xi (V 1 0 j.toNat) :: st) V) : Good p l e R s mi args below meth c Q D dA z sc md b m n0 ad0 r Vf V0 pc ls (xi j :: xr 1 i :: st) V := by
  refine G_rd hg (fun n h1 h2 h3 hs _ => m2 (h1 1 0 j.toNat) (m1 (m1 hs).2).2) (fun n ad H locs lsA k1 k2 h1 h2 h3 hs hw hS hb0 hV k => ?_)
  have hcj : c32 j := (m1 hs).1
  obtain ⟨c1, rfl⟩ := cS_scr h3 (m1 (m1 hs).2).1
  obtain ⟨hbz, L, xs, hX, hL, hxs⟩ := hsc c1
  show W p l e R s mi args below meth c H locs k1 k2 Q (F0 mi pc lsA (.int (Int32.ofInt j) :: .ref (ad 1 0) :: st.map (tv ad)))
  rw [hb0 c1]
  rw [hV, hL] at hj
  refine va_sld (A := fun q => z ≤ q) hx hb hX (by omega) (by omega) hS (n32_in hcj (by omega)) hd ?_
  rw [n32_nat hcj]
  have e1 : V 1 0 j.toNat = (xs j.toNat).toInt := by rw [hV]; exact hxs _ (by omega)
  have e2 : Int32.ofInt (V 1 0 j.toNat) = xs j.toNat := by rw [e1, Int32.ofInt_toInt]
  rw [← e2]
  exact k
theorem G_slen {i : Nat} (hx : p.tables.exec = Jvm.exec) (hb : c.code = mC m) (hsz : z ≤ s.heap.size) (hsc : sc = true → b < z ∧ ∃ (L : Nat) (xs : Nat → Int32), va_X b L xs s s.heap ∧ V0 1 1 0 = (L : Int) ∧ ∀ j, j < L → V0 1 0 j = (xs j).toInt) (hd : decode (mC m) pc = .ok (.arraylength, 1)) (hg : Good p l e R s mi args below meth c Q D dA z sc md b m n0 ad0 r Vf V0 (pc + 1) ls (xi (V 1 1 0) :: st) V) : Good p l e R s mi args below meth c Q D dA z sc md b m n0 ad0 r Vf V0 pc ls (xr 1 i :: st) V := by
  refine G_rd hg (fun n h1 h2 h3 hs _ => m2 (h1 1 1 0) (m1 hs).2) (fun n ad H locs lsA k1 k2 h1 h2 h3 hs hw hS hb0 hV k => ?_)
  obtain ⟨c1, rfl⟩ := cS_scr h3 (m1 hs).1
  obtain ⟨hbz, L, xs, hX, hL, hxs⟩ := hsc c1
  show W p l e R s mi args below meth c H locs k1 k2 Q (F0 mi pc lsA (.ref (ad 1 0) :: st.map (tv ad)))
  rw [hb0 c1]
  refine va_slen (A := fun q => z ≤ q) hx hb hX (by omega) (by omega) hS hd ?_
  have e2 : Int32.ofInt (V 1 1 0) = Int32.ofNat L := by rw [hV, hL, Int32.ofInt_eq_ofNat]
  rw [← e2]
  exact k
theorem G_alloc {pc' g i : Nat} {st1 : List XS} (hmd : md = true) (hR : nF md n0 Vf - n0 ≤ R.cells ∧ Sl (nF md n0 Vf) - Sl n0 ≤ R.slots) (hn : (V 0 0 0).toNat < 155) (e9 : tau (V 0 0 0).toNat = (g, i)) (hg : Good p l e R s mi args below meth c Q D dA z sc md b m n0 ad0 r Vf V0 pc' ls (xr g i :: st1) (xz V g i (V 0 0 0).toNat)) (hc : ∀ n, (∀ v ∈ st, cS sc n v) → ∀ v ∈ st1, cS sc n v)
    (hw : ∀ n ad H locs lsA k1 k2, n < 155 → tau n = (g, i) → (∀ v ∈ st, cS sc n v) → world D dA z true n V ad H → va_S (fun q => z ≤ q) s.heap H locs → k1 + 1 ≤ R.cells → k2 + slz n ≤ R.slots →
      (∀ q H1, va_P D vwCl (wof true n V ad dA ++ [(q, ce true (fun _ => 0) (adu ad g i q) dA g i)]) H1 → va_D (fun q => z ≤ q) (wof true n V ad dA ++ [(q, ce true (fun _ => 0) (adu ad g i q) dA g i)]) → va_S (fun q => z ≤ q) s.heap H1 locs → W p l e R s mi args below meth c H1 locs (k1 + 1) (k2 + slz n) Q (F0 mi pc' lsA (.ref q :: st1.map (tv ad)))) →
      W p l e R s mi args below meth c H locs k1 k2 Q (F0 mi pc lsA (st.map (tv ad)))) : Good p l e R s mi args below meth c Q D dA z sc md b m n0 ad0 r Vf V0 pc ls st V := by
  subst hmd
  intro n h1 h2 h3 h4 h5 h6 h7 h8 h9
  have en : (V 0 0 0).toNat = n := by rw [h2.2]; exact Int.toNat_natCast n
  rw [en] at hn e9 hg
  obtain ⟨p1, p2, p3⟩ := new_pure h1 h2 hn e9
  have hg1 : 1 < g := (al_kind (n := 155) (g := g) (i := i) (by omega) ⟨n, hn, e9⟩).1
  obtain ⟨a, bb⟩ := hg (n + 1) p1 p2 (by omega) (by omega) h5 (fun v hv => cS_mono (by omega) (h6 v hv)) (m2 (Or.inr (Or.inr ⟨n, by omega, e9⟩)) (fun v hv => cS_mono (by omega) (hc n h7 v hv))) (fun q => by cases q) (p3.trans h9)
  obtain ⟨a0, a1, a2, a3, a4, a5⟩ := a
  refine ⟨⟨a0, a1, a2, by have := a3; show n ≤ nF true n Vf; exact Nat.le_trans (Nat.le_succ n) a3, a4, a5⟩, fun ad H locs lsA q1 q2 q3 q4 q5 => ?_⟩
  have hnf : nF true n0 Vf = nF true (n + 1) Vf := rfl
  rw [hnf] at hR
  have hsl : Sl n - Sl n0 + slz n = Sl (n + 1) - Sl n0 := by
    have := Sl_mono h4
    show Sl n - Sl n0 + slz n = Sl n + slz n - Sl n0
    omega
  refine hw n ad H locs lsA _ _ hn e9 h7 q3 q4 (by omega) (by rw [hsl]; have := Sl_mono a3; omega) (fun q H1 w1 w2 w3 => ?_)
  have hx1 := axt_adu1 (ad := ad) (q := q) hn e9
  have hr := bb (adu ad g i q) H1 locs lsA (axt_adu q1 h4 hn e9) (fun hs => by rw [← q2 hs]; unfold adu; rw [if_neg (fun z => by omega)]) (by unfold world; rw [wof_new h2 hn e9]; exact ⟨w1, w2⟩) w3 (lvl_axt hx1 h6 q5)
  rw [List.map_cons, map_axt hx1 (hc n h7), tv_ref (n := n + 1) (by omega) ⟨n, by omega, e9⟩, show adu ad g i q g i = q from if_pos ⟨rfl, rfl⟩] at hr
  rw [hsl, show n - n0 + 1 = n + 1 - n0 by omega]
  exact hr
theorem G_new {idx r1 g i : Nat} (hx : p.tables.exec = Jvm.exec) (hb : c.code = mC m) (hmd : md = true) (hR : nF md n0 Vf - n0 ≤ R.cells ∧ Sl (nF md n0 Vf) - Sl n0 ≤ R.slots) (hown : s.vm.findClass (cN (mK m)) = some mi.cls) (hts : ∀ w ∈ TW, w.before args s = true) (hK : va_K D vwCl (tysA dA) s) (hsz : z ≤ s.heap.size) (hr1 : 10 ≤ r1 ∧ r1 - 10 < 13) (hcl : Cond.classLink (cN (mK m)) idx (vcl (r1 - 10)).1 ∈ TW) (hit : Cond.instantiable (vcl (r1 - 10)).1 (vcl (r1 - 10)).2.2 ∈ TW) (hini : Cond.initialized (vcl (r1 - 10)).1 ∈ TW) (hn : (V 0 0 0).toNat < 155) (e9 : tau (V 0 0 0).toNat = (g, i)) (hk : WW.1 g = r1) (hd : decode (mC m) pc = .ok (.new idx, 3)) (hg : Good p l e R s mi args below meth c Q D dA z sc md b m n0 ad0 r Vf V0 (pc + 3) ls (xr g i :: st) (xz V g i (V 0 0 0).toNat)) : Good p l e R s mi args below meth c Q D dA z sc md b m n0 ad0 r Vf V0 pc ls st V := by
  refine G_alloc hmd hR hn e9 hg (fun n h => h) (fun n ad H locs lsA k1 k2 hn e9 hs hw hS c1 c2 k => ?_)
  have hN : slz n = (vcl (r1 - 10)).2.2 := by
    unfold slz
    rw [e9, hk, if_pos hr1.1]
  have hce : ∀ q, ce true (fun _ => 0) (adu ad g i q) dA g i = .inr (r1 - 10, (List.range (vcl (r1 - 10)).2.2).map (fun k => if isI (vty (r1 - 10) k) = true then .int 0 else .null)) := by
    intro q
    rw [ce_obj (by omega), hk]
    congr 2
    apply List.map_congr_left
    intro c hc
    unfold fv
    rw [hk]
    split
    · rfl
    · unfold rfv
      rw [if_neg (by simp)]
      rfl
  rw [hN] at c2 k
  refine va_new (D := D) (fs := (List.range (vcl (r1 - 10)).2.2).map (fun k => if isI (vty (r1 - 10) k) = true then .int 0 else .null)) hx hb hts (uws_in hr1.2) (vty (r1 - 10)) (vty_ok hr1.2) hown (hts _ hcl) (hts _ hit) (hts _ hini) hK hw.1 hw.2 hS (fun q hq => by omega) (vcl_get hr1.2) ?_ c1 c2 hd (fun q H1 w1 w2 w3 => k q H1 (by rw [hce]; exact w1) (by rw [hce]; exact w2) w3)
  intro j hj
  unfold vp_V
  rw [List.getD_eq_getElem?_getD, List.getElem?_map, List.getElem?_range hj]
  simp only [Option.map_some, Option.getD_some]
  have h4 := List.all_eq_true.mp (List.all_eq_true.mp sU4 _ (List.mem_range.mpr hr1.2)) _ (List.mem_range.mpr hj)
  cases h : vty (r1 - 10) j with
  | int => rfl
  | object _ => rfl
  | array _ => rfl
  | _ => rw [h] at h4; cases h4
theorem G_newa_int {g i : Nat} {x : Int} (hx : p.tables.exec = Jvm.exec) (hb : c.code = mC m) (hmd : md = true) (hR : nF md n0 Vf - n0 ≤ R.cells ∧ Sl (nF md n0 Vf) - Sl n0 ≤ R.slots) (hts : ∀ w ∈ TW, w.before args s = true) (hK : va_K D vwCl (tysA dA) s) (hsz : z ≤ s.heap.size) (hn : (V 0 0 0).toNat < 155) (e9 : tau (V 0 0 0).toNat = (g, i)) (hk : WW.1 g = 1) (hl0 : WW.2.1 g = x) (hd : decode (mC m) pc = .ok (.newarray .int, 2)) (hg : Good p l e R s mi args below meth c Q D dA z sc md b m n0 ad0 r Vf V0 (pc + 2) ls (xr g i :: st) (xz V g i (V 0 0 0).toNat)) : Good p l e R s mi args below meth c Q D dA z sc md b m n0 ad0 r Vf V0 pc ls (xi x :: st) V := by
  refine G_alloc hmd hR hn e9 hg (fun n h => (m1 h).2) (fun n ad H locs lsA k1 k2 hn e9 hs hw hS c1 c2 k => ?_)
  have hx0 : c32 x := (m1 hs).1
  have hx1 : 0 ≤ x := by rw [← hl0]; exact (al_kind (n := 155) (g := g) (i := i) (by omega) ⟨n, hn, e9⟩).2.1
  have hxb : x ≤ 10000 := by
    have := List.all_eq_true.mp wt_len n (List.mem_range.mpr hn)
    rw [e9, hl0] at this
    exact of_decide_eq_true this
  have hN : slz n = x.toNat := by
    unfold slz
    rw [e9, hk, if_neg (by omega)]
    show (WW.2.1 g).toNat = _
    rw [hl0]
  rw [hN] at c2 k
  have hce : ∀ q, ce true (fun _ => 0) (adu ad g i q) dA g i = .inl (dA 1, x.toNat, .inl (fun _ => 0)) := by
    intro q
    rw [ce_1 hk, hl0]
    rfl
  have harr : Cond.arrayClass .int ∈ TW := ac_int
  have hn0 : ¬ Int32.ofInt x < 0 := fun q => by
    rw [show (0 : Int32) = Int32.ofInt 0 from rfl, n32_lt hx0 (by unfold c32; omega)] at q
    omega
  refine va_newa (D := D) (atype := .int) (ty := .int) (a0 := (x.toNat, .inl (fun _ => 0))) hx hb (hts _ harr) rfl hK hw.1 hw.2 hS (fun q hq => by omega) (fun cA => rfl) hn0 (n32_nat hx0) (by simp only [componentBytes]; omega) c1 c2 hd (fun q cA H1 hK2 w1 w2 w3 => ?_)
  have hcA : cA = dA 1 := by
    have r1 := (hK2.2 6 (cA, .int) rfl).2
    have r2 := (hK.2 0 (dA 1, .int) rfl).2
    exact Option.some.inj (Eq.trans (Eq.symm r1) r2)
  subst hcA
  exact k q H1 (by rw [hce]; exact w1) (by rw [hce]; exact w2) w3
theorem G_newa_long {g i : Nat} {x : Int} (hx : p.tables.exec = Jvm.exec) (hb : c.code = mC m) (hmd : md = true) (hR : nF md n0 Vf - n0 ≤ R.cells ∧ Sl (nF md n0 Vf) - Sl n0 ≤ R.slots) (hts : ∀ w ∈ TW, w.before args s = true) (hK : va_K D vwCl (tysA dA) s) (hsz : z ≤ s.heap.size) (hn : (V 0 0 0).toNat < 155) (e9 : tau (V 0 0 0).toNat = (g, i)) (hk : WW.1 g = 2) (hl0 : WW.2.1 g = x) (hd : decode (mC m) pc = .ok (.newarray .long, 2)) (hg : Good p l e R s mi args below meth c Q D dA z sc md b m n0 ad0 r Vf V0 (pc + 2) ls (xr g i :: st) (xz V g i (V 0 0 0).toNat)) : Good p l e R s mi args below meth c Q D dA z sc md b m n0 ad0 r Vf V0 pc ls (xi x :: st) V := by
  refine G_alloc hmd hR hn e9 hg (fun n h => (m1 h).2) (fun n ad H locs lsA k1 k2 hn e9 hs hw hS c1 c2 k => ?_)
  have hx0 : c32 x := (m1 hs).1
  have hx1 : 0 ≤ x := by rw [← hl0]; exact (al_kind (n := 155) (g := g) (i := i) (by omega) ⟨n, hn, e9⟩).2.1
  have hxb : x ≤ 10000 := by
    have := List.all_eq_true.mp wt_len n (List.mem_range.mpr hn)
    rw [e9, hl0] at this
    exact of_decide_eq_true this
  have hN : slz n = x.toNat := by
    unfold slz
    rw [e9, hk, if_neg (by omega)]
    show (WW.2.1 g).toNat = _
    rw [hl0]
  rw [hN] at c2 k
  have hce : ∀ q, ce true (fun _ => 0) (adu ad g i q) dA g i = .inl (dA 2, x.toNat, .inr (.inl (fun _ => 0))) := by
    intro q
    rw [ce_2 hk, hl0]
    rfl
  have harr : Cond.arrayClass .long ∈ TW := ac_long
  have hn0 : ¬ Int32.ofInt x < 0 := fun q => by
    rw [show (0 : Int32) = Int32.ofInt 0 from rfl, n32_lt hx0 (by unfold c32; omega)] at q
    omega
  refine va_newa (D := D) (atype := .long) (ty := .long) (a0 := (x.toNat, .inr (.inl (fun _ => 0)))) hx hb (hts _ harr) rfl hK hw.1 hw.2 hS (fun q hq => by omega) (fun cA => rfl) hn0 (n32_nat hx0) (by simp only [componentBytes]; omega) c1 c2 hd (fun q cA H1 hK2 w1 w2 w3 => ?_)
  have hcA : cA = dA 2 := by
    have r1 := (hK2.2 6 (cA, .long) rfl).2
    have r2 := (hK.2 1 (dA 2, .long) rfl).2
    exact Option.some.inj (Eq.trans (Eq.symm r1) r2)
  subst hcA
  exact k q H1 (by rw [hce]; exact w1) (by rw [hce]; exact w2) w3
theorem G_newa_bool {g i : Nat} {x : Int} (hx : p.tables.exec = Jvm.exec) (hb : c.code = mC m) (hmd : md = true) (hR : nF md n0 Vf - n0 ≤ R.cells ∧ Sl (nF md n0 Vf) - Sl n0 ≤ R.slots) (hts : ∀ w ∈ TW, w.before args s = true) (hK : va_K D vwCl (tysA dA) s) (hsz : z ≤ s.heap.size) (hn : (V 0 0 0).toNat < 155) (e9 : tau (V 0 0 0).toNat = (g, i)) (hk : WW.1 g = 3) (hl0 : WW.2.1 g = x) (hd : decode (mC m) pc = .ok (.newarray .boolean, 2)) (hg : Good p l e R s mi args below meth c Q D dA z sc md b m n0 ad0 r Vf V0 (pc + 2) ls (xr g i :: st) (xz V g i (V 0 0 0).toNat)) : Good p l e R s mi args below meth c Q D dA z sc md b m n0 ad0 r Vf V0 pc ls (xi x :: st) V := by
  refine G_alloc hmd hR hn e9 hg (fun n h => (m1 h).2) (fun n ad H locs lsA k1 k2 hn e9 hs hw hS c1 c2 k => ?_)
  have hx0 : c32 x := (m1 hs).1
  have hx1 : 0 ≤ x := by rw [← hl0]; exact (al_kind (n := 155) (g := g) (i := i) (by omega) ⟨n, hn, e9⟩).2.1
  have hxb : x ≤ 10000 := by
    have := List.all_eq_true.mp wt_len n (List.mem_range.mpr hn)
    rw [e9, hl0] at this
    exact of_decide_eq_true this
  have hN : slz n = x.toNat := by
    unfold slz
    rw [e9, hk, if_neg (by omega)]
    show (WW.2.1 g).toNat = _
    rw [hl0]
  rw [hN] at c2 k
  have hce : ∀ q, ce true (fun _ => 0) (adu ad g i q) dA g i = .inl (dA 3, x.toNat, .inl (fun _ => 0)) := by
    intro q
    rw [ce_3 hk, hl0]
    rfl
  have harr : Cond.arrayClass .boolean ∈ TW := ac_bool
  have hn0 : ¬ Int32.ofInt x < 0 := fun q => by
    rw [show (0 : Int32) = Int32.ofInt 0 from rfl, n32_lt hx0 (by unfold c32; omega)] at q
    omega
  refine va_newa (D := D) (atype := .boolean) (ty := .boolean) (a0 := (x.toNat, .inl (fun _ => 0))) hx hb (hts _ harr) rfl hK hw.1 hw.2 hS (fun q hq => by omega) (fun cA => rfl) hn0 (n32_nat hx0) (by simp only [componentBytes]; omega) c1 c2 hd (fun q cA H1 hK2 w1 w2 w3 => ?_)
  have hcA : cA = dA 3 := by
    have r1 := (hK2.2 6 (cA, .boolean) rfl).2
    have r2 := (hK.2 2 (dA 3, .boolean) rfl).2
    exact Option.some.inj (Eq.trans (Eq.symm r1) r2)
  subst hcA
  exact k q H1 (by rw [hce]; exact w1) (by rw [hce]; exact w2) w3
theorem G_newa_dbl {g i : Nat} {x : Int} (hx : p.tables.exec = Jvm.exec) (hb : c.code = mC m) (hmd : md = true) (hR : nF md n0 Vf - n0 ≤ R.cells ∧ Sl (nF md n0 Vf) - Sl n0 ≤ R.slots) (hts : ∀ w ∈ TW, w.before args s = true) (hK : va_K D vwCl (tysA dA) s) (hsz : z ≤ s.heap.size) (hn : (V 0 0 0).toNat < 155) (e9 : tau (V 0 0 0).toNat = (g, i)) (hk : WW.1 g = 4) (hl0 : WW.2.1 g = x) (hd : decode (mC m) pc = .ok (.newarray .double, 2)) (hg : Good p l e R s mi args below meth c Q D dA z sc md b m n0 ad0 r Vf V0 (pc + 2) ls (xr g i :: st) (xz V g i (V 0 0 0).toNat)) : Good p l e R s mi args below meth c Q D dA z sc md b m n0 ad0 r Vf V0 pc ls (xi x :: st) V := by
  refine G_alloc hmd hR hn e9 hg (fun n h => (m1 h).2) (fun n ad H locs lsA k1 k2 hn e9 hs hw hS c1 c2 k => ?_)
  have hx0 : c32 x := (m1 hs).1
  have hx1 : 0 ≤ x := by rw [← hl0]; exact (al_kind (n := 155) (g := g) (i := i) (by omega) ⟨n, hn, e9⟩).2.1
  have hxb : x ≤ 10000 := by
    have := List.all_eq_true.mp wt_len n (List.mem_range.mpr hn)
    rw [e9, hl0] at this
    exact of_decide_eq_true this
  have hN : slz n = x.toNat := by
    unfold slz
    rw [e9, hk, if_neg (by omega)]
    show (WW.2.1 g).toNat = _
    rw [hl0]
  rw [hN] at c2 k
  have hce : ∀ q, ce true (fun _ => 0) (adu ad g i q) dA g i = .inl (dA 4, x.toNat, .inr (.inr (.inr (.inl (fun _ => 0))))) := by
    intro q
    rw [ce_4 hk, hl0]
    rfl
  have harr : Cond.arrayClass .double ∈ TW := ac_dbl
  have hn0 : ¬ Int32.ofInt x < 0 := fun q => by
    rw [show (0 : Int32) = Int32.ofInt 0 from rfl, n32_lt hx0 (by unfold c32; omega)] at q
    omega
  refine va_newa (D := D) (atype := .double) (ty := .double) (a0 := (x.toNat, .inr (.inr (.inr (.inl (fun _ => 0)))))) hx hb (hts _ harr) rfl hK hw.1 hw.2 hS (fun q hq => by omega) (fun cA => rfl) hn0 (n32_nat hx0) (by simp only [componentBytes]; omega) c1 c2 hd (fun q cA H1 hK2 w1 w2 w3 => ?_)
  have hcA : cA = dA 4 := by
    have r1 := (hK2.2 6 (cA, .double) rfl).2
    have r2 := (hK.2 3 (dA 4, .double) rfl).2
    exact Option.some.inj (Eq.trans (Eq.symm r1) r2)
  subst hcA
  exact k q H1 (by rw [hce]; exact w1) (by rw [hce]; exact w2) w3
theorem G_newq5 {g i idx : Nat} {x : Int} (hx : p.tables.exec = Jvm.exec) (hb : c.code = mC m) (hmd : md = true) (hR : nF md n0 Vf - n0 ≤ R.cells ∧ Sl (nF md n0 Vf) - Sl n0 ≤ R.slots) (hown : s.vm.findClass (cN (mK m)) = some mi.cls) (hts : ∀ w ∈ TW, w.before args s = true) (hao : va_AO "WorldMake$Shelf" s) (hK : va_K D vwCl (tysA dA) s) (hsz : z ≤ s.heap.size) (hcl : Cond.classLink (cN (mK m)) idx "WorldMake$Shelf" ∈ TW) (hn : (V 0 0 0).toNat < 155) (e9 : tau (V 0 0 0).toNat = (g, i)) (hk : WW.1 g = 5) (hl0 : WW.2.1 g = x) (hd : decode (mC m) pc = .ok (.anewarray idx, 3)) (hg : Good p l e R s mi args below meth c Q D dA z sc md b m n0 ad0 r Vf V0 (pc + 3) ls (xr g i :: st) (xz V g i (V 0 0 0).toNat)) : Good p l e R s mi args below meth c Q D dA z sc md b m n0 ad0 r Vf V0 pc ls (xi x :: st) V := by
  refine G_alloc hmd hR hn e9 hg (fun n h => (m1 h).2) (fun n ad H locs lsA k1 k2 hn e9 hs hw hS c1 c2 k => ?_)
  have hx0 : c32 x := (m1 hs).1
  have hx1 : 0 ≤ x := by rw [← hl0]; exact (al_kind (n := 155) (g := g) (i := i) (by omega) ⟨n, hn, e9⟩).2.1
  have hxb : x ≤ 10000 := by
    have := List.all_eq_true.mp wt_len n (List.mem_range.mpr hn)
    rw [e9, hl0] at this
    exact of_decide_eq_true this
  have hN : slz n = x.toNat := by
    unfold slz
    rw [e9, hk, if_neg (by omega)]
    show (WW.2.1 g).toNat = _
    rw [hl0]
  rw [hN] at c2 k
  have hce : ∀ q, ce true (fun _ => 0) (adu ad g i q) dA g i = .inl (dA 5, x.toNat, .inr (.inr (.inr (.inr (fun _ => none))))) := by
    intro q
    rw [ce_5 hk, hl0]
    congr 7
  have hn0 : ¬ Int32.ofInt x < 0 := fun q => by
    rw [show (0 : Int32) = Int32.ofInt 0 from rfl, n32_lt hx0 (by unfold c32; omega)] at q
    omega
  refine va_newq (D := D) hx hb hown (hts _ hcl) hao hK hw.1 hw.2 hS (fun q hq => by omega) hn0 (n32_nat hx0) (by omega) c1 c2 hd (fun q cA H1 hK2 w1 w2 w3 => ?_)
  have hcA : cA = dA 5 := by
    obtain ⟨_, _, _, _, _, r1⟩ := (hK2.2 6 (cA, .object "WorldMake$Shelf") rfl).2
    obtain ⟨_, _, _, _, _, r2⟩ := (hK.2 4 (dA 5, .object "WorldMake$Shelf") rfl).2
    exact Option.some.inj (r1.symm.trans r2)
  subst hcA
  exact k q H1 (by rw [hce]; exact w1) (by rw [hce]; exact w2) w3
theorem G_newq6 {g i idx : Nat} {x : Int} (hx : p.tables.exec = Jvm.exec) (hb : c.code = mC m) (hmd : md = true) (hR : nF md n0 Vf - n0 ≤ R.cells ∧ Sl (nF md n0 Vf) - Sl n0 ≤ R.slots) (hown : s.vm.findClass (cN (mK m)) = some mi.cls) (hts : ∀ w ∈ TW, w.before args s = true) (hao : va_AO "WorldMake$Table" s) (hK : va_K D vwCl (tysA dA) s) (hsz : z ≤ s.heap.size) (hcl : Cond.classLink (cN (mK m)) idx "WorldMake$Table" ∈ TW) (hn : (V 0 0 0).toNat < 155) (e9 : tau (V 0 0 0).toNat = (g, i)) (hk : WW.1 g = 6) (hl0 : WW.2.1 g = x) (hd : decode (mC m) pc = .ok (.anewarray idx, 3)) (hg : Good p l e R s mi args below meth c Q D dA z sc md b m n0 ad0 r Vf V0 (pc + 3) ls (xr g i :: st) (xz V g i (V 0 0 0).toNat)) : Good p l e R s mi args below meth c Q D dA z sc md b m n0 ad0 r Vf V0 pc ls (xi x :: st) V := by
  refine G_alloc hmd hR hn e9 hg (fun n h => (m1 h).2) (fun n ad H locs lsA k1 k2 hn e9 hs hw hS c1 c2 k => ?_)
  have hx0 : c32 x := (m1 hs).1
  have hx1 : 0 ≤ x := by rw [← hl0]; exact (al_kind (n := 155) (g := g) (i := i) (by omega) ⟨n, hn, e9⟩).2.1
  have hxb : x ≤ 10000 := by
    have := List.all_eq_true.mp wt_len n (List.mem_range.mpr hn)
    rw [e9, hl0] at this
    exact of_decide_eq_true this
  have hN : slz n = x.toNat := by
    unfold slz
    rw [e9, hk, if_neg (by omega)]
    show (WW.2.1 g).toNat = _
    rw [hl0]
  rw [hN] at c2 k
  have hce : ∀ q, ce true (fun _ => 0) (adu ad g i q) dA g i = .inl (dA 6, x.toNat, .inr (.inr (.inr (.inr (fun _ => none))))) := by
    intro q
    rw [ce_6 hk, hl0]
    congr 7
  have hn0 : ¬ Int32.ofInt x < 0 := fun q => by
    rw [show (0 : Int32) = Int32.ofInt 0 from rfl, n32_lt hx0 (by unfold c32; omega)] at q
    omega
  refine va_newq (D := D) hx hb hown (hts _ hcl) hao hK hw.1 hw.2 hS (fun q hq => by omega) hn0 (n32_nat hx0) (by omega) c1 c2 hd (fun q cA H1 hK2 w1 w2 w3 => ?_)
  have hcA : cA = dA 6 := by
    obtain ⟨_, _, _, _, _, r1⟩ := (hK2.2 6 (cA, .object "WorldMake$Table") rfl).2
    obtain ⟨_, _, _, _, _, r2⟩ := (hK.2 5 (dA 6, .object "WorldMake$Table") rfl).2
    exact Option.some.inj (r1.symm.trans r2)
  subst hcA
  exact k q H1 (by rw [hce]; exact w1) (by rw [hce]; exact w2) w3
/-- what is due at a return -/
def Hend (p : Program) (l : Launch) (e : Env) (R : Room) (s : State) (mi : MethodId) (args : Array Value) (below : List Frame) (meth : Method) (c : Code) (Q : State → Prop) (D : va_G) (dA : Nat → ClassId) (z : Nat) (sc md : Bool) (m n0 : Nat) (ad0 : Nat → Nat → Nat) (r : XS) (Vf : XM) : Prop :=
  ∀ (pc n : Nat) (ad : Nat → Nat → Nat) (H : Heap) (locs : List Loc) (lsA : Array Slot), n = nF md n0 Vf → n ≤ 155 → axt n0 ad0 ad → world D dA z md n Vf ad H → va_S (fun q => z ≤ q) s.heap H locs → cS sc n r →
    (∀ x, r = xi x → (mR m = some .int ∨ (mR m = some .boolean ∧ (x = 0 ∨ x = 1))) → decode (mC m) pc = .ok (.ireturn, 1) → W p l e R s mi args below meth c H locs (n - n0) (Sl n - Sl n0) Q (F0 mi pc lsA [tv ad r])) ∧
    (∀ x, r = xl x → mR m = some .long → decode (mC m) pc = .ok (.lreturn, 1) → W p l e R s mi args below meth c H locs (n - n0) (Sl n - Sl n0) Q (F0 mi pc lsA [tv ad r])) ∧
    (∀ g i, r = xr (g + 1) i → rtag (mR m) = 2 → decode (mC m) pc = .ok (.areturn, 1) → W p l e R s mi args below meth c H locs (n - n0) (Sl n - Sl n0) Q (F0 mi pc lsA [tv ad r])) ∧
    (mR m = none → decode (mC m) pc = .ok (.return_, 1) → W p l e R s mi args below meth c H locs (n - n0) (Sl n - Sl n0) Q (F0 mi pc lsA []))
theorem G_ret (hend : Hend p l e R s mi args below meth c Q D dA z sc md m n0 ad0 r Vf) (hV : Vf = V) (hr : ∀ n, (∀ v ∈ st, cS sc n v) → cS sc n r)
    (hw : ∀ n ad H locs lsA, (∀ x, r = xi x → (mR m = some .int ∨ (mR m = some .boolean ∧ (x = 0 ∨ x = 1))) → decode (mC m) pc = .ok (.ireturn, 1) → W p l e R s mi args below meth c H locs (n - n0) (Sl n - Sl n0) Q (F0 mi pc lsA [tv ad r])) ∧
    (∀ x, r = xl x → mR m = some .long → decode (mC m) pc = .ok (.lreturn, 1) → W p l e R s mi args below meth c H locs (n - n0) (Sl n - Sl n0) Q (F0 mi pc lsA [tv ad r])) ∧
    (∀ g i, r = xr (g + 1) i → rtag (mR m) = 2 → decode (mC m) pc = .ok (.areturn, 1) → W p l e R s mi args below meth c H locs (n - n0) (Sl n - Sl n0) Q (F0 mi pc lsA [tv ad r])) ∧
    (mR m = none → decode (mC m) pc = .ok (.return_, 1) → W p l e R s mi args below meth c H locs (n - n0) (Sl n - Sl n0) Q (F0 mi pc lsA [])) → W p l e R s mi args below meth c H locs (n - n0) (Sl n - Sl n0) Q (F0 mi pc lsA (st.map (tv ad)))) : Good p l e R s mi args below meth c Q D dA z sc md b m n0 ad0 r Vf V0 pc ls st V := by
  subst hV
  intro n h1 h2 h3 h4 h5 h6 h7 h8 h9
  have en : nF md n Vf = n := by
    cases md with
    | false => rfl
    | true => show (Vf 0 0 0).toNat = n; rw [h2.2]; exact Int.toNat_natCast n
  have en0 : n = nF md n0 Vf := by
    cases md with
    | false => exact h8 rfl
    | true => exact en.symm
  refine ⟨⟨h9, h1, by rw [en]; exact h2, by rw [en]; exact Nat.le_refl n, by rw [en]; exact h3, by rw [en]; exact hr n h7⟩, fun ad H locs lsA q1 q2 q3 q4 q5 => ?_⟩
  exact hw n ad H locs lsA (hend pc n ad H locs lsA en0 h3 q1 q3 q4 (hr n h7))
end
