/-! soundness: fields and arrays -/
theorem n32_b1 {x : Int} : vp_nar .boolean (Int32.ofInt x) = Int32.ofInt (x % 2) := by
  show Int32.ofInt x &&& 1 = _
  apply Int32.toBitVec_inj.mp
  apply BitVec.eq_of_toNat_eq
  show (BitVec.ofInt 32 x &&& 1#32).toNat = (BitVec.ofInt 32 (x % 2)).toNat
  rw [BitVec.toNat_and, BitVec.toNat_ofInt, BitVec.toNat_ofInt]
  show (x % 4294967296).toNat &&& 1 = (x % 2 % 4294967296).toNat
  rw [Nat.and_one_is_mod]
  omega
theorem n64_cmp {x y : Int} (hx : c64 x) (hy : c64 y) : lg_cmp (Int64.ofInt x) (Int64.ofInt y) = Int32.ofInt (cmp3 x y) := by
  unfold lg_cmp cmp3
  simp only [gt_iff_lt, n64_lt hy hx, n64_inj hx hy]
  by_cases h1 : y < x
  · rw [if_pos h1, if_neg (by omega), if_neg (by omega)]
    rfl
  · rw [if_neg h1]
    by_cases h2 : x = y
    · rw [if_pos h2, if_neg (by omega), if_pos h2]
      rfl
    · rw [if_neg h2, if_pos (by omega)]
      rfl
theorem cK_obj {k : Nat} (h : 10 ≤ k) {x : Int} (hx : cK k x) : c32 x := by
  unfold cK at hx
  split at hx
  · omega
  · omega
  · omega
  · exact hx
theorem ce_obj {md : Bool} {row : Nat → Int} {ad : Nat → Nat → Nat} {dA : Nat → ClassId} {g i : Nat} (h : 10 ≤ WW.1 g) : ce md row ad dA g i = .inr (WW.1 g - 10, (List.range (vcl (WW.1 g - 10)).2.2).map (fv md row ad g i)) := by
  unfold ce
  split
  · omega
  · omega
  · omega
  · omega
  · omega
  · omega
  · rfl
theorem cV_xu {V : XM} {g i j : Nat} {x : Int} (h : cV V) (hx : cK (WW.1 g) x) : cV (xu V g i j x) := by
  intro a b c
  unfold xu
  split
  · rename_i q
    rw [q.1]
    exact hx
  · exact h a b c
theorem wk_0 : WW.1 0 = 9 := rfl
theorem wk_1 : WW.1 1 = 7 := rfl
/-- numbers written leave what references hold -/
theorem Io_xu {md : Bool} {n : Nat} {V : XM} {g i j : Nat} {x : Int} (h : Io md n V) (hg : g ≠ 0) (hs : (WW.1 g ≠ 5 ∧ WW.1 g ≠ 6) ∧ (10 ≤ WW.1 g → isI (vty (WW.1 g - 10) j) = true)) : Io md n (xu V g i j x) := by
  cases md with
  | false => exact h
  | true =>
    obtain ⟨⟨h1, h2⟩, h3⟩ := h
    refine ⟨⟨fun a b c ha hk hv => h1 a b c ha hk ?_, fun a b c ha hk hi hv => h2 a b c ha hk hi ?_⟩, ?_⟩
    · unfold xu at hv
      split at hv
      · rename_i q
        rw [q.1] at hk
        omega
      · exact hv
    · unfold xu at hv
      split at hv
      · rename_i q
        rw [q.1] at hk hi
        rw [q.2.2] at hi
        rw [hs.2 hk] at hi
        cases hi
      · exact hv
    · unfold xu
      rw [if_neg (fun q => hg q.1.symm)]
      exact h3
theorem xu_1 {V : XM} {g i j : Nat} {x : Int} (hg : g ≠ 1) : xu V g i j x 1 = V 1 := by
  funext b c
  unfold xu
  rw [if_neg (fun q => hg q.1.symm)]
section
variable {p : Program} {l : Launch} {e : Env} {R : Room} {s : State} {mi : MethodId} {args : Array Value} {below : List Frame} {meth : Method} {c : Code} {Q : State → Prop} {D : va_G} {dA : Nat → ClassId} {z : Nat} {sc md : Bool} {b m n0 : Nat} {ad0 : Nat → Nat → Nat} {r : XS} {Vf V0 : XM} {pc : Nat} {ls st : List XS} {V : XM}

theorem G_rd {pc' : Nat} {st' : List XS} (hg : Good p l e R s mi args below meth c Q D dA z sc md b m n0 ad0 r Vf V0 pc' ls st' V) (hc : ∀ n, cV V → Io md n V → n ≤ 155 → (∀ v ∈ st, cS sc n v) → V 1 = V0 1 → ∀ v ∈ st', cS sc n v) (hw : ∀ n ad H locs lsA k1 k2, cV V → Io md n V → n ≤ 155 → (∀ v ∈ st, cS sc n v) → world D dA z md n V ad H → va_S (fun q => z ≤ q) s.heap H locs → (sc = true → ad 1 0 = b) → V 1 = V0 1 → W p l e R s mi args below meth c H locs k1 k2 Q (F0 mi pc' lsA (st'.map (tv ad))) → W p l e R s mi args below meth c H locs k1 k2 Q (F0 mi pc lsA (st.map (tv ad)))) : Good p l e R s mi args below meth c Q D dA z sc md b m n0 ad0 r Vf V0 pc ls st V := by
  intro n h1 h2 h3 h4 h5 h6 h7 h8 h9
  obtain ⟨a, bb⟩ := hg n h1 h2 h3 h4 h5 h6 (hc n h1 h2 h3 h7 h9) h8 h9
  exact ⟨a, fun ad H locs lsA q1 q2 q3 q4 q5 => hw n ad H locs lsA _ _ h1 h2 h3 h7 q3 q4 q2 h9 (bb ad H locs lsA q1 q2 q3 q4 q5)⟩
theorem G_lcmp {x y : Int} (hx : p.tables.exec = Jvm.exec) (hb : c.code = mC m) (hd : decode (mC m) pc = .ok (.lcmp, 1)) (hg : Good p l e R s mi args below meth c Q D dA z sc md b m n0 ad0 r Vf V0 (pc + 1) ls (xi (cmp3 x y) :: st) V) : Good p l e R s mi args below meth c Q D dA z sc md b m n0 ad0 r Vf V0 pc ls (xl y :: xl x :: st) V := by
  refine G_pure hg (fun n hl hs => ?_) (fun n ad H locs lsA k1 k2 hl hs hh hlen k => ?_)
  · exact m2 (cmp3_c _ _) (m1 (m1 hs).2).2
  · refine W.lcmp hx hb hd ?_
    rw [n64_cmp (m1 (m1 hs).2).1 (m1 hs).1]
    exact k
/-- a cell on the stack that is of a kind of the world's is one of the world's -/
theorem cS_al {n g i : Nat} (h : cS sc n (xr g i)) (h0 : WW.1 g ≠ 9) (h1 : WW.1 g ≠ 7) : al n g i := by
  rcases h with h | h | h
  · rw [h] at h0
    exact absurd wk_0 h0
  · rw [h.2.1] at h1
    exact absurd wk_1 h1
  · exact h
theorem tv_ref {ad : Nat → Nat → Nat} {n g i : Nat} (hn : n ≤ 155) (h : al n g i) : tv ad (xr g i) = .ref (ad g i) := by
  have := (al_kind hn h).1
  obtain ⟨g0, rfl⟩ : ∃ g0, g = g0 + 1 := ⟨g - 1, by omega⟩
  rfl
theorem G_getI {g i idx r1 r2 : Nat} (hx : p.tables.exec = Jvm.exec) (hb : c.code = mC m) (hown : s.vm.findClass (cN (mK m)) = some mi.cls) (hts : ∀ w ∈ TW, w.before args s = true) (hK : va_K D vwCl (tysA dA) s) (hf : FldOk (mK m) idx r1 r2 0) (hk : WW.1 g = r1) (hd : decode (mC m) pc = .ok (.getfield idx, 3)) (hg : Good p l e R s mi args below meth c Q D dA z sc md b m n0 ad0 r Vf V0 (pc + 3) ls (xi (V g i r2) :: st) V) : Good p l e R s mi args below meth c Q D dA z sc md b m n0 ad0 r Vf V0 pc ls (xr g i :: st) V := by
  obtain ⟨f1, f2, f3, f4, f5, f6, f7⟩ := hf
  refine G_rd hg (fun n h1 h2 h3 hs _ => m2 (cK_obj (by rw [hk]; exact f1) (h1 g i r2)) (m1 hs).2) (fun n ad H locs lsA k1 k2 h1 h2 h3 hs hw hS _ _ k => ?_)
  have ha : al n g i := cS_al (m1 hs).1 (by omega) (by omega)
  obtain ⟨q, hq, e9⟩ := ha
  show W p l e R s mi args below meth c H locs k1 k2 Q (F0 mi pc lsA (tv ad (xr g i) :: st.map (tv ad)))
  rw [tv_ref h3 ⟨q, hq, e9⟩]
  have he := wof_get (md := md) (V := V) (ad := ad) (dA := dA) hq e9
  rw [ce_obj (by omega), hk] at he
  refine va_get (D := D) (ref := (vcl (r1 - 10)).1) hx hb hts (uws_in f2) hown hK hw.1 q he (vcl_get f2) r2 f3 (hts _ f4) (fun x h => by rw [f5] at h; exact h) (v := .int (Int32.ofInt (V g i r2))) ?_ hd k
  rw [List.getElem?_map, List.getElem?_range f3]
  simp only [Option.map_some, fv, hk, f6.mpr rfl, if_true]
theorem G_getR {g i idx r1 r2 r3 : Nat} (hx : p.tables.exec = Jvm.exec) (hb : c.code = mC m) (hown : s.vm.findClass (cN (mK m)) = some mi.cls) (hts : ∀ w ∈ TW, w.before args s = true) (hK : va_K D vwCl (tysA dA) s) (hf : FldOk (mK m) idx r1 r2 (r3 + 1)) (hk : WW.1 g = r1) (hv : md = false ∨ V g i r2 = 1) (hd : decode (mC m) pc = .ok (.getfield idx, 3)) (hg : Good p l e R s mi args below meth c Q D dA z sc md b m n0 ad0 r Vf V0 (pc + 3) ls (xr (WW.2.2.1 g r2) (WW.2.2.2.1 g i r2) :: st) V) : Good p l e R s mi args below meth c Q D dA z sc md b m n0 ad0 r Vf V0 pc ls (xr g i :: st) V := by
  obtain ⟨f1, f2, f3, f4, f5, f6, f7⟩ := hf
  have hI : isI (vty (r1 - 10) r2) = false := by
    cases h : isI (vty (r1 - 10) r2) with
    | false => rfl
    | true => exact absurd (f6.mp h) (by omega)
  refine G_rd hg (fun n h1 h2 h3 hs _ => m2 (Or.inr (Or.inr ?_)) (m1 hs).2) (fun n ad H locs lsA k1 k2 h1 h2 h3 hs hw hS _ _ k => ?_)
  · have ha : al n g i := cS_al (m1 hs).1 (by omega) (by omega)
    cases md with
    | false => exact h2.2 g i r2 ha (by omega) (by rw [hk]; exact f3) (by rw [hk]; exact hI)
    | true => exact h2.1.2 g i r2 ha (by omega) (by rw [hk]; exact hI) (hv.elim (fun q => by cases q) id)
  · have ha : al n g i := cS_al (m1 hs).1 (by omega) (by omega)
    obtain ⟨q, hq, e9⟩ := ha
    show W p l e R s mi args below meth c H locs k1 k2 Q (F0 mi pc lsA (tv ad (xr g i) :: st.map (tv ad)))
    rw [tv_ref h3 ⟨q, hq, e9⟩]
    have he := wof_get (md := md) (V := V) (ad := ad) (dA := dA) hq e9
    rw [ce_obj (by omega), hk] at he
    refine va_get (D := D) (ref := (vcl (r1 - 10)).1) hx hb hts (uws_in f2) hown hK hw.1 q he (vcl_get f2) r2 f3 (hts _ f4) (fun x h => by rw [f5] at h; exact h) (v := tv ad (xr (WW.2.2.1 g r2) (WW.2.2.2.1 g i r2))) ?_ hd k
    rw [List.getElem?_map, List.getElem?_range f3]
    simp only [Option.map_some, fv, hk, hI, Bool.false_eq_true, if_false, rfv, hv, if_true]
    rfl
theorem ce_1 {md : Bool} {row : Nat → Int} {ad : Nat → Nat → Nat} {dA : Nat → ClassId} {g i : Nat} (h : WW.1 g = 1) : ce md row ad dA g i = .inl (dA 1, (WW.2.1 g).toNat, .inl (fun j => Int32.ofInt (row j))) := by
  unfold ce
  rw [h]
  rfl
theorem G_iald {g i : Nat} {j : Int} (hx : p.tables.exec = Jvm.exec) (hb : c.code = mC m) (hK : va_K D vwCl (tysA dA) s) (hk : WW.1 g = 1) (hj : 0 ≤ j ∧ j < WW.2.1 g) (hd : decode (mC m) pc = .ok (.iaload, 1)) (hg : Good p l e R s mi args below meth c Q D dA z sc md b m n0 ad0 r Vf V0 (pc + 1) ls (xi (V g i j.toNat) :: st) V) : Good p l e R s mi args below meth c Q D dA z sc md b m n0 ad0 r Vf V0 pc ls (xi j :: xr g i :: st) V := by
  refine G_rd hg (fun n h1 h2 h3 hs _ => m2 (by have := h1 g i j.toNat; rw [hk] at this; exact this) (m1 (m1 hs).2).2) (fun n ad H locs lsA k1 k2 h1 h2 h3 hs hw hS _ _ k => ?_)
  have hcj : c32 j := (m1 hs).1
  have ha : al n g i := cS_al (m1 (m1 hs).2).1 (by omega) (by omega)
  obtain ⟨q, hq, e9⟩ := ha
  show W p l e R s mi args below meth c H locs k1 k2 Q (F0 mi pc lsA (.int (Int32.ofInt j) :: tv ad (xr g i) :: st.map (tv ad)))
  rw [tv_ref h3 ⟨q, hq, e9⟩]
  have he := wof_get (md := md) (V := V) (ad := ad) (dA := dA) hq e9
  rw [ce_1 hk] at he
  refine va_iald hx hb hK hw.1 q 0 he rfl (n32_in hcj (by omega)) hd ?_
  rw [n32_nat hcj]
  exact k
theorem ce_2 {md : Bool} {row : Nat → Int} {ad : Nat → Nat → Nat} {dA : Nat → ClassId} {g i : Nat} (h : WW.1 g = 2) : ce md row ad dA g i = .inl (dA 2, (WW.2.1 g).toNat, .inr (.inl (fun j => Int64.ofInt (row j)))) := by
  unfold ce
  rw [h]
  rfl
theorem G_lald {g i : Nat} {j : Int} (hx : p.tables.exec = Jvm.exec) (hb : c.code = mC m) (hK : va_K D vwCl (tysA dA) s) (hk : WW.1 g = 2) (hj : 0 ≤ j ∧ j < WW.2.1 g) (hd : decode (mC m) pc = .ok (.laload, 1)) (hg : Good p l e R s mi args below meth c Q D dA z sc md b m n0 ad0 r Vf V0 (pc + 1) ls (xl (V g i j.toNat) :: st) V) : Good p l e R s mi args below meth c Q D dA z sc md b m n0 ad0 r Vf V0 pc ls (xi j :: xr g i :: st) V := by
  refine G_rd hg (fun n h1 h2 h3 hs _ => m2 (by have := h1 g i j.toNat; rw [hk] at this; exact this) (m1 (m1 hs).2).2) (fun n ad H locs lsA k1 k2 h1 h2 h3 hs hw hS _ _ k => ?_)
  have hcj : c32 j := (m1 hs).1
  have ha : al n g i := cS_al (m1 (m1 hs).2).1 (by omega) (by omega)
  obtain ⟨q, hq, e9⟩ := ha
  show W p l e R s mi args below meth c H locs k1 k2 Q (F0 mi pc lsA (.int (Int32.ofInt j) :: tv ad (xr g i) :: st.map (tv ad)))
  rw [tv_ref h3 ⟨q, hq, e9⟩]
  have he := wof_get (md := md) (V := V) (ad := ad) (dA := dA) hq e9
  rw [ce_2 hk] at he
  refine va_lald hx hb hK hw.1 q 1 he rfl (n32_in hcj (by omega)) hd ?_
  rw [n32_nat hcj]
  exact k
theorem ce_3 {md : Bool} {row : Nat → Int} {ad : Nat → Nat → Nat} {dA : Nat → ClassId} {g i : Nat} (h : WW.1 g = 3) : ce md row ad dA g i = .inl (dA 3, (WW.2.1 g).toNat, .inl (fun j => Int32.ofInt (row j))) := by
  unfold ce
  rw [h]
  rfl
theorem G_bald {g i : Nat} {j : Int} (hx : p.tables.exec = Jvm.exec) (hb : c.code = mC m) (hK : va_K D vwCl (tysA dA) s) (hk : WW.1 g = 3) (hj : 0 ≤ j ∧ j < WW.2.1 g) (hd : decode (mC m) pc = .ok (.baload, 1)) (hg : Good p l e R s mi args below meth c Q D dA z sc md b m n0 ad0 r Vf V0 (pc + 1) ls (xi (V g i j.toNat) :: st) V) : Good p l e R s mi args below meth c Q D dA z sc md b m n0 ad0 r Vf V0 pc ls (xi j :: xr g i :: st) V := by
  refine G_rd hg (fun n h1 h2 h3 hs _ => m2 (by have := h1 g i j.toNat; rw [hk] at this; show c32 _; unfold c32; rcases this with q | q <;> omega) (m1 (m1 hs).2).2) (fun n ad H locs lsA k1 k2 h1 h2 h3 hs hw hS _ _ k => ?_)
  have hcj : c32 j := (m1 hs).1
  have ha : al n g i := cS_al (m1 (m1 hs).2).1 (by omega) (by omega)
  obtain ⟨q, hq, e9⟩ := ha
  show W p l e R s mi args below meth c H locs k1 k2 Q (F0 mi pc lsA (.int (Int32.ofInt j) :: tv ad (xr g i) :: st.map (tv ad)))
  rw [tv_ref h3 ⟨q, hq, e9⟩]
  have he := wof_get (md := md) (V := V) (ad := ad) (dA := dA) hq e9
  rw [ce_3 hk] at he
  refine va_zald hx hb hK hw.1 q 2 he rfl (n32_in hcj (by omega)) hd ?_
  rw [n32_nat hcj]
  exact k
theorem ce_4 {md : Bool} {row : Nat → Int} {ad : Nat → Nat → Nat} {dA : Nat → ClassId} {g i : Nat} (h : WW.1 g = 4) : ce md row ad dA g i = .inl (dA 4, (WW.2.1 g).toNat, .inr (.inr (.inr (.inl (fun j => UInt64.ofNat (row j).toNat))))) := by
  unfold ce
  rw [h]
  rfl
theorem G_dald {g i : Nat} {j : Int} (hx : p.tables.exec = Jvm.exec) (hb : c.code = mC m) (hK : va_K D vwCl (tysA dA) s) (hk : WW.1 g = 4) (hj : 0 ≤ j ∧ j < WW.2.1 g) (hd : decode (mC m) pc = .ok (.daload, 1)) (hg : Good p l e R s mi args below meth c Q D dA z sc md b m n0 ad0 r Vf V0 (pc + 1) ls (xd (V g i j.toNat) :: st) V) : Good p l e R s mi args below meth c Q D dA z sc md b m n0 ad0 r Vf V0 pc ls (xi j :: xr g i :: st) V := by
  refine G_rd hg (fun n h1 h2 h3 hs _ => m2 (by have := h1 g i j.toNat; rw [hk] at this; exact this) (m1 (m1 hs).2).2) (fun n ad H locs lsA k1 k2 h1 h2 h3 hs hw hS _ _ k => ?_)
  have hcj : c32 j := (m1 hs).1
  have ha : al n g i := cS_al (m1 (m1 hs).2).1 (by omega) (by omega)
  obtain ⟨q, hq, e9⟩ := ha
  show W p l e R s mi args below meth c H locs k1 k2 Q (F0 mi pc lsA (.int (Int32.ofInt j) :: tv ad (xr g i) :: st.map (tv ad)))
  rw [tv_ref h3 ⟨q, hq, e9⟩]
  have he := wof_get (md := md) (V := V) (ad := ad) (dA := dA) hq e9
  rw [ce_4 hk] at he
  refine va_dald hx hb hK hw.1 q 3 he rfl (n32_in hcj (by omega)) hd ?_
  rw [n32_nat hcj]
  exact k
theorem G_wr {pc' : Nat} {st' : List XS} {V' : XM} (hg : Good p l e R s mi args below meth c Q D dA z sc md b m n0 ad0 r Vf V0 pc' ls st' V') (hc : ∀ n, cV V → Io md n V → n ≤ 155 → (∀ v ∈ st, cS sc n v) → cV V' ∧ Io md n V' ∧ V' 1 = V 1 ∧ ∀ v ∈ st', cS sc n v) (hw : ∀ n ad H locs lsA k1 k2, cV V → Io md n V → n ≤ 155 → (∀ v ∈ st, cS sc n v) → world D dA z md n V ad H → va_S (fun q => z ≤ q) s.heap H locs → (∀ H1 locs1, world D dA z md n V' ad H1 → va_S (fun q => z ≤ q) s.heap H1 locs1 → W p l e R s mi args below meth c H1 locs1 k1 k2 Q (F0 mi pc' lsA (st'.map (tv ad)))) → W p l e R s mi args below meth c H locs k1 k2 Q (F0 mi pc lsA (st.map (tv ad)))) : Good p l e R s mi args below meth c Q D dA z sc md b m n0 ad0 r Vf V0 pc ls st V := by
  intro n h1 h2 h3 h4 h5 h6 h7 h8 h9
  obtain ⟨c1, c2, c3, c4⟩ := hc n h1 h2 h3 h7
  obtain ⟨a, bb⟩ := hg n c1 c2 h3 h4 h5 h6 c4 h8 (c3.trans h9)
  exact ⟨a, fun ad H locs lsA q1 q2 q3 q4 q5 => hw n ad H locs lsA _ _ h1 h2 h3 h7 q3 q4 (fun H1 locs1 w1 s1 => bb ad H1 locs1 lsA q1 q2 w1 s1 q5)⟩
theorem G_iast {g i : Nat} {j x : Int} (hx : p.tables.exec = Jvm.exec) (hb : c.code = mC m) (hK : va_K D vwCl (tysA dA) s) (hk : WW.1 g = 1) (hj : 0 ≤ j ∧ j < WW.2.1 g) (hd : decode (mC m) pc = .ok (.iastore, 1)) (hg : Good p l e R s mi args below meth c Q D dA z sc md b m n0 ad0 r Vf V0 (pc + 1) ls st (xu V g i j.toNat (x))) : Good p l e R s mi args below meth c Q D dA z sc md b m n0 ad0 r Vf V0 pc ls (xi x :: xi j :: xr g i :: st) V := by
  refine G_wr hg (fun n h1 h2 h3 hs => ⟨cV_xu h1 (by rw [hk]; exact (m1 hs).1), Io_xu h2 (fun q => by rw [q, wk_0] at hk; omega) ⟨by omega, fun q => by omega⟩, xu_1 (fun q => by rw [q, wk_1] at hk; omega), (m1 (m1 (m1 hs).2).2).2⟩) (fun n ad H locs lsA k1 k2 h1 h2 h3 hs hw hS k => ?_)
  have hcj : c32 j := (m1 (m1 hs).2).1
  have ha : al n g i := cS_al (m1 (m1 (m1 hs).2).2).1 (by omega) (by omega)
  obtain ⟨q, hq, e9⟩ := ha
  show W p l e R s mi args below meth c H locs k1 k2 Q (F0 mi pc lsA (.int (Int32.ofInt x) :: .int (Int32.ofInt j) :: tv ad (xr g i) :: st.map (tv ad)))
  rw [tv_ref h3 ⟨q, hq, e9⟩]
  have he := wof_get (md := md) (V := V) (ad := ad) (dA := dA) hq e9
  rw [ce_1 hk] at he
  have hset : (wof md n V ad dA).set q (ad g i, .inl (dA 1, (WW.2.1 g).toNat, .inl (fun c => if c = j.toNat then Int32.ofInt (x) else Int32.ofInt (V g i c)))) = wof md n (xu V g i j.toNat (x)) ad dA := by
    apply wof_set h3 hq e9
    rw [ce_1 hk, xu_row]
    refine congrArg (fun f => (.inl (dA 1, (WW.2.1 g).toNat, .inl (f)) : va_E)) ?_
    funext c
    by_cases hcj2 : c = j.toNat <;> simp [hcj2]
  refine va_iast hx hb hK hw.1 hw.2 hS q 0 he rfl (n32_in hcj (by omega)) hd (fun H1 locs1 hP hD hS => k H1 locs1 ⟨?_, ?_⟩ hS)
  · rw [← hset]
    rw [n32_nat hcj] at hP
    exact hP
  · rw [← hset]
    rw [n32_nat hcj] at hD
    exact hD
theorem G_last {g i : Nat} {j x : Int} (hx : p.tables.exec = Jvm.exec) (hb : c.code = mC m) (hK : va_K D vwCl (tysA dA) s) (hk : WW.1 g = 2) (hj : 0 ≤ j ∧ j < WW.2.1 g) (hd : decode (mC m) pc = .ok (.lastore, 1)) (hg : Good p l e R s mi args below meth c Q D dA z sc md b m n0 ad0 r Vf V0 (pc + 1) ls st (xu V g i j.toNat (x))) : Good p l e R s mi args below meth c Q D dA z sc md b m n0 ad0 r Vf V0 pc ls (xl x :: xi j :: xr g i :: st) V := by
  refine G_wr hg (fun n h1 h2 h3 hs => ⟨cV_xu h1 (by rw [hk]; exact (m1 hs).1), Io_xu h2 (fun q => by rw [q, wk_0] at hk; omega) ⟨by omega, fun q => by omega⟩, xu_1 (fun q => by rw [q, wk_1] at hk; omega), (m1 (m1 (m1 hs).2).2).2⟩) (fun n ad H locs lsA k1 k2 h1 h2 h3 hs hw hS k => ?_)
  have hcj : c32 j := (m1 (m1 hs).2).1
  have ha : al n g i := cS_al (m1 (m1 (m1 hs).2).2).1 (by omega) (by omega)
  obtain ⟨q, hq, e9⟩ := ha
  show W p l e R s mi args below meth c H locs k1 k2 Q (F0 mi pc lsA (.long (Int64.ofInt x) :: .int (Int32.ofInt j) :: tv ad (xr g i) :: st.map (tv ad)))
  rw [tv_ref h3 ⟨q, hq, e9⟩]
  have he := wof_get (md := md) (V := V) (ad := ad) (dA := dA) hq e9
  rw [ce_2 hk] at he
  have hset : (wof md n V ad dA).set q (ad g i, .inl (dA 2, (WW.2.1 g).toNat, .inr (.inl (fun c => if c = j.toNat then Int64.ofInt (x) else Int64.ofInt (V g i c))))) = wof md n (xu V g i j.toNat (x)) ad dA := by
    apply wof_set h3 hq e9
    rw [ce_2 hk, xu_row]
    refine congrArg (fun f => (.inl (dA 2, (WW.2.1 g).toNat, .inr (.inl (f))) : va_E)) ?_
    funext c
    by_cases hcj2 : c = j.toNat <;> simp [hcj2]
  refine va_last hx hb hK hw.1 hw.2 hS q 1 he rfl (n32_in hcj (by omega)) hd (fun H1 locs1 hP hD hS => k H1 locs1 ⟨?_, ?_⟩ hS)
  · rw [← hset]
    rw [n32_nat hcj] at hP
    exact hP
  · rw [← hset]
    rw [n32_nat hcj] at hD
    exact hD
theorem G_bast {g i : Nat} {j x : Int} (hx : p.tables.exec = Jvm.exec) (hb : c.code = mC m) (hK : va_K D vwCl (tysA dA) s) (hk : WW.1 g = 3) (hj : 0 ≤ j ∧ j < WW.2.1 g) (hd : decode (mC m) pc = .ok (.bastore, 1)) (hg : Good p l e R s mi args below meth c Q D dA z sc md b m n0 ad0 r Vf V0 (pc + 1) ls st (xu V g i j.toNat (x % 2))) : Good p l e R s mi args below meth c Q D dA z sc md b m n0 ad0 r Vf V0 pc ls (xi x :: xi j :: xr g i :: st) V := by
  refine G_wr hg (fun n h1 h2 h3 hs => ⟨cV_xu h1 (by rw [hk]; show _ = 0 ∨ _ = 1; omega), Io_xu h2 (fun q => by rw [q, wk_0] at hk; omega) ⟨by omega, fun q => by omega⟩, xu_1 (fun q => by rw [q, wk_1] at hk; omega), (m1 (m1 (m1 hs).2).2).2⟩) (fun n ad H locs lsA k1 k2 h1 h2 h3 hs hw hS k => ?_)
  have hcj : c32 j := (m1 (m1 hs).2).1
  have ha : al n g i := cS_al (m1 (m1 (m1 hs).2).2).1 (by omega) (by omega)
  obtain ⟨q, hq, e9⟩ := ha
  show W p l e R s mi args below meth c H locs k1 k2 Q (F0 mi pc lsA (.int (Int32.ofInt x) :: .int (Int32.ofInt j) :: tv ad (xr g i) :: st.map (tv ad)))
  rw [tv_ref h3 ⟨q, hq, e9⟩]
  have he := wof_get (md := md) (V := V) (ad := ad) (dA := dA) hq e9
  rw [ce_3 hk] at he
  have hset : (wof md n V ad dA).set q (ad g i, .inl (dA 3, (WW.2.1 g).toNat, .inl (fun c => if c = j.toNat then Int32.ofInt (x % 2) else Int32.ofInt (V g i c)))) = wof md n (xu V g i j.toNat (x % 2)) ad dA := by
    apply wof_set h3 hq e9
    rw [ce_3 hk, xu_row]
    refine congrArg (fun f => (.inl (dA 3, (WW.2.1 g).toNat, .inl (f)) : va_E)) ?_
    funext c
    by_cases hcj2 : c = j.toNat <;> simp [hcj2]
  refine va_zast hx hb hK hw.1 hw.2 hS q 2 he rfl (n32_in hcj (by omega)) hd (fun H1 locs1 hP hD hS => k H1 locs1 ⟨?_, ?_⟩ hS)
  · rw [← hset]
    rw [n32_nat hcj, n32_b1] at hP
    exact hP
  · rw [← hset]
    rw [n32_nat hcj, n32_b1] at hD
    exact hD
theorem G_dast {g i : Nat} {j x : Int} (hx : p.tables.exec = Jvm.exec) (hb : c.code = mC m) (hK : va_K D vwCl (tysA dA) s) (hk : WW.1 g = 4) (hj : 0 ≤ j ∧ j < WW.2.1 g) (hd : decode (mC m) pc = .ok (.dastore, 1)) (hg : Good p l e R s mi args below meth c Q D dA z sc md b m n0 ad0 r Vf V0 (pc + 1) ls st (xu V g i j.toNat (x))) : Good p l e R s mi args below meth c Q D dA z sc md b m n0 ad0 r Vf V0 pc ls (xd x :: xi j :: xr g i :: st) V := by
  refine G_wr hg (fun n h1 h2 h3 hs => ⟨cV_xu h1 (by rw [hk]; exact (m1 hs).1), Io_xu h2 (fun q => by rw [q, wk_0] at hk; omega) ⟨by omega, fun q => by omega⟩, xu_1 (fun q => by rw [q, wk_1] at hk; omega), (m1 (m1 (m1 hs).2).2).2⟩) (fun n ad H locs lsA k1 k2 h1 h2 h3 hs hw hS k => ?_)
  have hcj : c32 j := (m1 (m1 hs).2).1
  have ha : al n g i := cS_al (m1 (m1 (m1 hs).2).2).1 (by omega) (by omega)
  obtain ⟨q, hq, e9⟩ := ha
  show W p l e R s mi args below meth c H locs k1 k2 Q (F0 mi pc lsA (.double (UInt64.ofNat x.toNat) :: .int (Int32.ofInt j) :: tv ad (xr g i) :: st.map (tv ad)))
  rw [tv_ref h3 ⟨q, hq, e9⟩]
  have he := wof_get (md := md) (V := V) (ad := ad) (dA := dA) hq e9
  rw [ce_4 hk] at he
  have hset : (wof md n V ad dA).set q (ad g i, .inl (dA 4, (WW.2.1 g).toNat, .inr (.inr (.inr (.inl (fun c => if c = j.toNat then UInt64.ofNat (x).toNat else UInt64.ofNat (V g i c).toNat)))))) = wof md n (xu V g i j.toNat (x)) ad dA := by
    apply wof_set h3 hq e9
    rw [ce_4 hk, xu_row]
    refine congrArg (fun f => (.inl (dA 4, (WW.2.1 g).toNat, .inr (.inr (.inr (.inl (f))))) : va_E)) ?_
    funext c
    by_cases hcj2 : c = j.toNat <;> simp [hcj2]
  refine va_dast hx hb hK hw.1 hw.2 hS q 3 he rfl (n32_in hcj (by omega)) hd (fun H1 locs1 hP hD hS => k H1 locs1 ⟨?_, ?_⟩ hS)
  · rw [← hset]
    rw [n32_nat hcj] at hP
    exact hP
  · rw [← hset]
    rw [n32_nat hcj] at hD
    exact hD
end
