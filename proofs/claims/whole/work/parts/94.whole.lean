/-! the law's run from its entry to its end -/
/-- the memory at the law's entry: the script alone -/
def VS (L : Nat) (xs : Nat → Int32) : XM := fun g i j => if g = 1 then (if i = 0 then (xs j).toInt else if i = 1 then (L : Int) else 0) else 0
theorem VS_c {L : Nat} {xs : Nat → Int32} (h : L ≤ 3072) : cV (VS L xs) := by
  intro g i j
  unfold VS
  by_cases hg : g = 1
  · rw [if_pos hg, hg, show WW.1 1 = 7 from rfl]
    show c32 _
    by_cases hi : i = 0
    · rw [if_pos hi]
      have h1 := Int32.le_toInt (xs j)
      have h2 := Int32.toInt_lt (xs j)
      unfold c32
      omega
    · rw [if_neg hi]
      by_cases h1 : i = 1
      · rw [if_pos h1]; unfold c32; omega
      · rw [if_neg h1]; unfold c32; omega
  · rw [if_neg hg]; exact cK_01 (Or.inl rfl)
/-- it goes on at the loop, over that memory alone -/
noncomputable def F1 (V Ve : XM) : Nat → List XS → List XS → XM → XR := fun t ls st U => @ite XR (t = 18 ∧ ls = [xr 1 0, xr 2 0, xr 14 0, xi 0] ∧ st = [] ∧ U = V) (Classical.propDecidable _) (some (xi 1, Ve)) none
theorem F1_at (V Ve : XM) : F1 V Ve 18 [xr 1 0, xr 2 0, xr 14 0, xi 0] [] V = some (xi 1, Ve) := by
  unfold F1
  rw [if_pos ⟨rfl, rfl, rfl, rfl⟩]
theorem F1_some {V Ve U : XM} {t : Nat} {ls st : List XS} {x : XS × XM} (h : F1 V Ve t ls st U = some x) : t = 18 ∧ ls = [xr 1 0, xr 2 0, xr 14 0, xi 0] ∧ st = [] ∧ U = V := by
  unfold F1 at h
  split at h
  · assumption
  · cases h
theorem world_0 {D : va_G} {dA : Nat → ClassId} {z : Nat} {V : XM} {ad : Nat → Nat → Nat} {H : Heap} : world D dA z true 0 V ad H := ⟨fun k q h => by simp [wof] at h, fun i j p q h => by simp [wof] at h, fun k q h => by simp [wof] at h⟩
theorem Iot_0 {V : XM} : Iot 0 V := ⟨fun g i j ha => by obtain ⟨k, hk, _⟩ := ha; omega, fun g i k ha => by obtain ⟨k, hk, _⟩ := ha; omega⟩
theorem Sl_155 : Sl 155 - Sl 0 ≤ 7302250 := by decide +kernel
theorem whole_start {p : Program} {e : Env} {s : State} {m : MethodId} {below : List Frame} {meth : Method} {c : Code} (l : Launch) {b L : Nat} {xs : Nat → Int32} (hL : L ≤ 3072) (C0 : lw_At p s m meth c b L xs) : W p l e room_1 s m #[Value.ref b] below meth c s.heap [] 0 0 (lw_Z below #[Value.ref b] s) (entryFrame m ([Value.ref b] : List Value).toArray 4) := by
  obtain ⟨hx, hb, hr, hml, hown, hts, hX, hbl, hlocks, hgv⟩ := id C0
  obtain ⟨D, dA, hK⟩ := K_start hts
  have hN : NWs s := NW_start hts
  have hbase : Base D dA s.heap.size := Base_start e hx hts hK
  have hck : ∀ k, k < 310 → ckM k = true := fun k hk => ck_all k (by omega)
  have hck2 : ckM 310 = true := ck_all 310 (by omega)
  have hc0 : cV (VS L xs) := VS_c hL
  have e0 : (VS L xs) 1 1 0 = (L : Int) := rfl
  obtain ⟨Ve, hrun, hFC⟩ := law_end l hbase hck 0 (VS L xs) (VO_c hc0) (by omega) (by omega)
  obtain ⟨f, hf⟩ := Xx_some (show Xx WW XP XML true 30 310 18 _ [] _ = some (xi 1, Ve) from hrun)
  have hn : nF true 0 Ve = 155 := by
    show (Ve 0 0 0).toNat = 155
    rw [hFC.1]
    rfl
  have hcx : Cx p D dA s.heap.size true b (VS L xs) s m #[Value.ref b] meth c 310 := ⟨hx, hb, hr, hml, hown, fun w hw => hts w (TW_sub hw), hN, hK, hlocks, fun q => (by cases q), Nat.le_refl _, fun _ => ⟨hbl, L, xs, hX, rfl, fun j _ => rfl⟩⟩
  have hR : nF true 0 Ve - 0 ≤ room_1.cells ∧ Sl (nF true 0 Ve) - Sl 0 ≤ room_1.slots := by
    rw [hn]
    exact ⟨(by decide : 155 - 0 ≤ 600000), Sl_155⟩
  have hRf : 30 + 1 ≤ room_1.frames ∧ 60 * 30 + 60 ≤ room_1.locals := ⟨(by decide : 30 + 1 ≤ 2048), (by decide : 60 * 30 + 60 ≤ 84000)⟩
  have hend : Hend p l e room_1 s m #[Value.ref b] below meth c (lw_Z below #[Value.ref b] s) D dA s.heap.size true true 310 0 (fun _ _ => b) (xi 1) Ve := by
    intro pc n ad H locs lsA en hn' hax hw hS hcr
    refine ⟨fun x hx0 hrt hd => ?_, fun x hx0 => (by cases hx0), fun g i hx0 => (by cases hx0), fun hrt => (by cases hrt)⟩
    rw [hn] at en
    subst en
    refine va_forget (fun q hq => hS.2.2 q hq) ?_
    refine W.widen (k := 600000) (n := 7302250) (by decide) Sl_155 ?_
    exact W.base (lw_ret (Drawn.sameBut.refl s.drawn lw_cs) hx hb hr hlocks hd)
  have hF : ∀ t ls st V, F1 (VM (VS L xs)) Ve t ls st V = some (xi 1, Ve) → Good p l e room_1 s m #[Value.ref b] below meth c (lw_Z below #[Value.ref b] s) D dA s.heap.size true true b 310 0 (fun _ _ => b) (xi 1) Ve (VS L xs) t ls st V := by
    intro t ls st V h
    obtain ⟨rfl, rfl, rfl, rfl⟩ := F1_some h
    exact Good_VM hc0 (xex_sound (d := 30) hcx (by omega) hck2 hR hRf hend (fun f m' as V r1 V1 c1 c2 hh => met_all l D dA _ true hbase hck 29 f m' as V r1 V1 c1 c1.1.2 c2 hh) f 18 _ [] _ hf)
  have hC : ∀ m' as V r1 V1, ClOk m' → xsum as ≤ XML m' → Yt 30 m' as V = some (r1, V1) → Ctr l D dA s.heap.size true 30 m' as V r1 V1 := by
    intro m' as V r1 V1 c1 c2 h
    obtain ⟨f, hf⟩ := Xx_some (show Xx WW XP XML true 29 m' 0 (xpad (XML m') (xsl as)) [] V = some (r1, V1) from h)
    exact met_all l D dA _ true hbase hck 29 f m' as V r1 V1 c1 c1.1.2 c2 hf
  have hmac : xmac WW true (XP 310) (F1 (VM (VS L xs)) Ve) (Yt 30) 0 [xr 1 0, xr 0 0, xr 0 0, xr 0 0] [] (VS L xs) = some (xi 1, Ve) := (law_first 26 (F1 (VM (VS L xs)) Ve) (VS L xs) rfl).trans (F1_at _ _)
  have hgood := xmac_sound (d := 30) hcx (by omega) hck2 hR hRf hend hF hC hmac
  have hls : ∀ v ∈ [xr 1 0, xr 0 0, xr 0 0, xr 0 0], cS true 0 v := List.forall_mem_cons.mpr ⟨Or.inr (Or.inl ⟨rfl, rfl, rfl⟩), List.forall_mem_cons.mpr ⟨Or.inl rfl, List.forall_mem_cons.mpr ⟨Or.inl rfl, List.forall_mem_cons.mpr ⟨Or.inl rfl, fun _ h => absurd h List.not_mem_nil⟩⟩⟩⟩
  obtain ⟨_, w⟩ := hgood 0 hc0 ⟨Iot_0, rfl⟩ (by omega) (Nat.le_refl _) rfl hls (fun _ h => absurd h List.not_mem_nil) (fun q => by cases q) rfl
  have hlv := lvl_entry (ad := fun _ _ => b) (as := [xr 1 0]) (N := 4) (by decide)
  have w2 := w (fun _ _ => b) s.heap [] _ (fun _ _ _ => rfl) (fun _ => rfl) world_0 va_S.rf hlv
  rw [lg_entry_eq]
  exact w2
