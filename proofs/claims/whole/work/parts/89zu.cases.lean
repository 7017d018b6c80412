theorem L_264 (l : Launch) {D : va_G} {dA : Nat → ClassId} {z : Nat} (hb : Base D dA z) (hk : ∀ k, k < 310 → ckM k = true) (d : Nat) (V : XM) (i : Int) (hI : Inv V) (hc : cV V) (h0 : 0 ≤ i) (h6 : i + 6 ≤ V 1 1 0) (hL : V 1 1 0 ≤ 3072) : LG d 264 i V := by
  obtain ⟨w1, w2, w3, w4, w5⟩ := law_w h0 (Int.le_trans h6 hL)
  obtain ⟨p1, p2, p3, p4, p5⟩ := law_p h0 h6
  obtain ⟨x, V1, V2, q1, q2, q3, q4, q5, q6⟩ := lawI l hb hk (g_kind d V hI (V 1 0 ((i + 1).toNat))) (by decide +kernel) rfl rfl hc (List.forall_mem_cons.mpr ⟨(hc 1 0 _), fun _ h => absurd h List.not_mem_nil⟩)
  exact ⟨V2, by simp only [s_law_264, w1, w2, w3, w4, w5, p1, p2, p3, p4, p5, if_true, q1, q2, q3, ci_r, cl_r, cmp3_s], q4, q5, q6⟩
theorem L_287 (l : Launch) {D : va_G} {dA : Nat → ClassId} {z : Nat} (hb : Base D dA z) (hk : ∀ k, k < 310 → ckM k = true) (d : Nat) (V : XM) (i : Int) (hI : Inv V) (hc : cV V) (h0 : 0 ≤ i) (h6 : i + 6 ≤ V 1 1 0) (hL : V 1 1 0 ≤ 3072) : LG d 287 i V := by
  obtain ⟨w1, w2, w3, w4, w5⟩ := law_w h0 (Int.le_trans h6 hL)
  obtain ⟨p1, p2, p3, p4, p5⟩ := law_p h0 h6
  obtain ⟨x, V1, V2, q1, q2, q3, q4, q5, q6⟩ := lawI l hb hk (g_is d V hI (V 1 0 ((i + 1).toNat)) (V 1 0 ((i + 2).toNat))) (by decide +kernel) rfl rfl hc (List.forall_mem_cons.mpr ⟨(hc 1 0 _), List.forall_mem_cons.mpr ⟨(hc 1 0 _), fun _ h => absurd h List.not_mem_nil⟩⟩)
  exact ⟨V2, by simp only [s_law_287, w1, w2, w3, w4, w5, p1, p2, p3, p4, p5, if_true, q1, q2, q3, ci_r, cl_r, cmp3_s], q4, q5, q6⟩
theorem L_320 (l : Launch) {D : va_G} {dA : Nat → ClassId} {z : Nat} (hb : Base D dA z) (hk : ∀ k, k < 310 → ckM k = true) (d : Nat) (V : XM) (i : Int) (hI : Inv V) (hc : cV V) (h0 : 0 ≤ i) (h6 : i + 6 ≤ V 1 1 0) (hL : V 1 1 0 ≤ 3072) : LG d 320 i V := by
  obtain ⟨w1, w2, w3, w4, w5⟩ := law_w h0 (Int.le_trans h6 hL)
  obtain ⟨p1, p2, p3, p4, p5⟩ := law_p h0 h6
  obtain ⟨x, V1, V2, q1, q2, q3, q4, q5, q6⟩ := lawI l hb hk (g_property d V hI (V 1 0 ((i + 1).toNat)) (V 1 0 ((i + 2).toNat)) (V 1 0 ((i + 3).toNat))) (by decide +kernel) rfl rfl hc (List.forall_mem_cons.mpr ⟨(hc 1 0 _), List.forall_mem_cons.mpr ⟨(hc 1 0 _), List.forall_mem_cons.mpr ⟨(hc 1 0 _), fun _ h => absurd h List.not_mem_nil⟩⟩⟩)
  exact ⟨V2, by simp only [s_law_320, w1, w2, w3, w4, w5, p1, p2, p3, p4, p5, if_true, q1, q2, q3, ci_r, cl_r, cmp3_s], q4, q5, q6⟩
theorem L_363 (l : Launch) {D : va_G} {dA : Nat → ClassId} {z : Nat} (hb : Base D dA z) (hk : ∀ k, k < 310 → ckM k = true) (d : Nat) (V : XM) (i : Int) (hI : Inv V) (hc : cV V) (h0 : 0 ≤ i) (h6 : i + 6 ≤ V 1 1 0) (hL : V 1 1 0 ≤ 3072) : LG d 363 i V := by
  obtain ⟨w1, w2, w3, w4, w5⟩ := law_w h0 (Int.le_trans h6 hL)
  obtain ⟨p1, p2, p3, p4, p5⟩ := law_p h0 h6
  obtain ⟨x, V1, V2, q1, q2, q3, q4, q5, q6⟩ := lawI l hb hk (g_usual d V hI (V 1 0 ((i + 1).toNat)) (V 1 0 ((i + 2).toNat)) (lOr (lShl (V 1 0 ((i + 3).toNat)) 32) (lAnd (V 1 0 ((i + 4).toNat)) 4294967295))) (by decide +kernel) rfl rfl hc (List.forall_mem_cons.mpr ⟨(hc 1 0 _), List.forall_mem_cons.mpr ⟨(hc 1 0 _), List.forall_mem_cons.mpr ⟨(lOr_c _ _), fun _ h => absurd h List.not_mem_nil⟩⟩⟩)
  exact ⟨V2, by simp only [s_law_363, w1, w2, w3, w4, w5, p1, p2, p3, p4, p5, if_true, q1, q2, q3, ci_r, cl_r, cmp3_s], q4, q5, q6⟩
theorem L_436 (l : Launch) {D : va_G} {dA : Nat → ClassId} {z : Nat} (hb : Base D dA z) (hk : ∀ k, k < 310 → ckM k = true) (d : Nat) (V : XM) (i : Int) (hI : Inv V) (hc : cV V) (h0 : 0 ≤ i) (h6 : i + 6 ≤ V 1 1 0) (hL : V 1 1 0 ≤ 3072) : LG d 436 i V := by
  obtain ⟨w1, w2, w3, w4, w5⟩ := law_w h0 (Int.le_trans h6 hL)
  obtain ⟨p1, p2, p3, p4, p5⟩ := law_p h0 h6
  obtain ⟨x, V1, V2, q1, q2, q3, q4, q5, q6⟩ := lawI l hb hk (g_thing d V hI (V 1 0 ((i + 1).toNat)) (V 1 0 ((i + 2).toNat))) (by decide +kernel) rfl rfl hc (List.forall_mem_cons.mpr ⟨(hc 1 0 _), List.forall_mem_cons.mpr ⟨(hc 1 0 _), fun _ h => absurd h List.not_mem_nil⟩⟩)
  exact ⟨V2, by simp only [s_law_436, w1, w2, w3, w4, w5, p1, p2, p3, p4, p5, if_true, q1, q2, q3, ci_r, cl_r, cmp3_s], q4, q5, q6⟩
theorem L_469 (l : Launch) {D : va_G} {dA : Nat → ClassId} {z : Nat} (hb : Base D dA z) (hk : ∀ k, k < 310 → ckM k = true) (d : Nat) (V : XM) (i : Int) (hI : Inv V) (hc : cV V) (h0 : 0 ≤ i) (h6 : i + 6 ≤ V 1 1 0) (hL : V 1 1 0 ≤ 3072) : LG d 469 i V := by
  obtain ⟨w1, w2, w3, w4, w5⟩ := law_w h0 (Int.le_trans h6 hL)
  obtain ⟨p1, p2, p3, p4, p5⟩ := law_p h0 h6
  obtain ⟨x, V1, V2, q1, q2, q3, q4, q5, q6⟩ := lawI l hb hk (g_put d V hI (V 1 0 ((i + 1).toNat)) (V 1 0 ((i + 2).toNat))) (by decide +kernel) rfl rfl hc (List.forall_mem_cons.mpr ⟨(hc 1 0 _), List.forall_mem_cons.mpr ⟨(hc 1 0 _), fun _ h => absurd h List.not_mem_nil⟩⟩)
  exact ⟨V2, by simp only [s_law_469, w1, w2, w3, w4, w5, p1, p2, p3, p4, p5, if_true, q1, q2, q3, ci_r, cl_r, cmp3_s], q4, q5, q6⟩
theorem L_502 (l : Launch) {D : va_G} {dA : Nat → ClassId} {z : Nat} (hb : Base D dA z) (hk : ∀ k, k < 310 → ckM k = true) (d : Nat) (V : XM) (i : Int) (hI : Inv V) (hc : cV V) (h0 : 0 ≤ i) (h6 : i + 6 ≤ V 1 1 0) (hL : V 1 1 0 ≤ 3072) : LG d 502 i V := by
  obtain ⟨w1, w2, w3, w4, w5⟩ := law_w h0 (Int.le_trans h6 hL)
  obtain ⟨p1, p2, p3, p4, p5⟩ := law_p h0 h6
  obtain ⟨x, V1, V2, q1, q2, q3, q4, q5, q6⟩ := lawI l hb hk (g_bar d V hI (V 1 0 ((i + 1).toNat)) (V 1 0 ((i + 2).toNat))) (by decide +kernel) rfl rfl hc (List.forall_mem_cons.mpr ⟨(hc 1 0 _), List.forall_mem_cons.mpr ⟨(hc 1 0 _), fun _ h => absurd h List.not_mem_nil⟩⟩)
  exact ⟨V2, by simp only [s_law_502, w1, w2, w3, w4, w5, p1, p2, p3, p4, p5, if_true, q1, q2, q3, ci_r, cl_r, cmp3_s], q4, q5, q6⟩
theorem L_535 (l : Launch) {D : va_G} {dA : Nat → ClassId} {z : Nat} (hb : Base D dA z) (hk : ∀ k, k < 310 → ckM k = true) (d : Nat) (V : XM) (i : Int) (hI : Inv V) (hc : cV V) (h0 : 0 ≤ i) (h6 : i + 6 ≤ V 1 1 0) (hL : V 1 1 0 ≤ 3072) : LG d 535 i V := by
  obtain ⟨w1, w2, w3, w4, w5⟩ := law_w h0 (Int.le_trans h6 hL)
  obtain ⟨p1, p2, p3, p4, p5⟩ := law_p h0 h6
  obtain ⟨x, V1, V2, q1, q2, q3, q4, q5, q6⟩ := lawI l hb hk (g_give d V hI (V 1 0 ((i + 1).toNat)) (V 1 0 ((i + 2).toNat)) (lOr (lShl (V 1 0 ((i + 3).toNat)) 32) (lAnd (V 1 0 ((i + 4).toNat)) 4294967295))) (by decide +kernel) rfl rfl hc (List.forall_mem_cons.mpr ⟨(hc 1 0 _), List.forall_mem_cons.mpr ⟨(hc 1 0 _), List.forall_mem_cons.mpr ⟨(lOr_c _ _), fun _ h => absurd h List.not_mem_nil⟩⟩⟩)
  exact ⟨V2, by simp only [s_law_535, w1, w2, w3, w4, w5, p1, p2, p3, p4, p5, if_true, q1, q2, q3, ci_r, cl_r, cmp3_s], q4, q5, q6⟩
theorem L_608 (l : Launch) {D : va_G} {dA : Nat → ClassId} {z : Nat} (hb : Base D dA z) (hk : ∀ k, k < 310 → ckM k = true) (d : Nat) (V : XM) (i : Int) (hI : Inv V) (hc : cV V) (h0 : 0 ≤ i) (h6 : i + 6 ≤ V 1 1 0) (hL : V 1 1 0 ≤ 3072) : LG d 608 i V := by
  obtain ⟨w1, w2, w3, w4, w5⟩ := law_w h0 (Int.le_trans h6 hL)
  obtain ⟨p1, p2, p3, p4, p5⟩ := law_p h0 h6
  obtain ⟨x, V1, V2, q1, q2, q3, q4, q5, q6⟩ := lawL l hb hk (g_value d V hI (V 1 0 ((i + 1).toNat)) (V 1 0 ((i + 2).toNat))) (by decide +kernel) rfl rfl hc (List.forall_mem_cons.mpr ⟨(hc 1 0 _), List.forall_mem_cons.mpr ⟨(hc 1 0 _), fun _ h => absurd h List.not_mem_nil⟩⟩)
  exact ⟨V2, by simp only [s_law_608, w1, w2, w3, w4, w5, p1, p2, p3, p4, p5, if_true, q1, q2, q3, ci_r, cl_r, cmp3_s], q4, q5, q6⟩
theorem L_642 (l : Launch) {D : va_G} {dA : Nat → ClassId} {z : Nat} (hb : Base D dA z) (hk : ∀ k, k < 310 → ckM k = true) (d : Nat) (V : XM) (i : Int) (hI : Inv V) (hc : cV V) (h0 : 0 ≤ i) (h6 : i + 6 ≤ V 1 1 0) (hL : V 1 1 0 ≤ 3072) : LG d 642 i V := by
  obtain ⟨w1, w2, w3, w4, w5⟩ := law_w h0 (Int.le_trans h6 hL)
  obtain ⟨p1, p2, p3, p4, p5⟩ := law_p h0 h6
  obtain ⟨x, V1, V2, q1, q2, q3, q4, q5, q6⟩ := lawI l hb hk (g_given d V hI (V 1 0 ((i + 1).toNat)) (V 1 0 ((i + 2).toNat))) (by decide +kernel) rfl rfl hc (List.forall_mem_cons.mpr ⟨(hc 1 0 _), List.forall_mem_cons.mpr ⟨(hc 1 0 _), fun _ h => absurd h List.not_mem_nil⟩⟩)
  exact ⟨V2, by simp only [s_law_642, w1, w2, w3, w4, w5, p1, p2, p3, p4, p5, if_true, q1, q2, q3, ci_r, cl_r, cmp3_s], q4, q5, q6⟩
theorem L_675 (l : Launch) {D : va_G} {dA : Nat → ClassId} {z : Nat} (hb : Base D dA z) (hk : ∀ k, k < 310 → ckM k = true) (d : Nat) (V : XM) (i : Int) (hI : Inv V) (hc : cV V) (h0 : 0 ≤ i) (h6 : i + 6 ≤ V 1 1 0) (hL : V 1 1 0 ≤ 3072) : LG d 675 i V := by
  obtain ⟨w1, w2, w3, w4, w5⟩ := law_w h0 (Int.le_trans h6 hL)
  obtain ⟨p1, p2, p3, p4, p5⟩ := law_p h0 h6
  obtain ⟨x, V1, V2, q1, q2, q3, q4, q5, q6⟩ := lawL l hb hk (g_peek d V hI (V 1 0 ((i + 1).toNat)) (V 1 0 ((i + 2).toNat)) (V 1 0 ((i + 3).toNat))) (by decide +kernel) rfl rfl hc (List.forall_mem_cons.mpr ⟨(hc 1 0 _), List.forall_mem_cons.mpr ⟨(hc 1 0 _), List.forall_mem_cons.mpr ⟨(hc 1 0 _), fun _ h => absurd h List.not_mem_nil⟩⟩⟩)
  exact ⟨V2, by simp only [s_law_675, w1, w2, w3, w4, w5, p1, p2, p3, p4, p5, if_true, q1, q2, q3, ci_r, cl_r, cmp3_s], q4, q5, q6⟩
theorem L_719 (l : Launch) {D : va_G} {dA : Nat → ClassId} {z : Nat} (hb : Base D dA z) (hk : ∀ k, k < 310 → ckM k = true) (d : Nat) (V : XM) (i : Int) (hI : Inv V) (hc : cV V) (h0 : 0 ≤ i) (h6 : i + 6 ≤ V 1 1 0) (hL : V 1 1 0 ≤ 3072) : LG d 719 i V := by
  obtain ⟨w1, w2, w3, w4, w5⟩ := law_w h0 (Int.le_trans h6 hL)
  obtain ⟨p1, p2, p3, p4, p5⟩ := law_p h0 h6
  obtain ⟨x, V1, V2, q1, q2, q3, q4, q5, q6⟩ := lawI l hb hk (g_place d V hI (V 1 0 ((i + 1).toNat)) (V 1 0 ((i + 2).toNat))) (by decide +kernel) rfl rfl hc (List.forall_mem_cons.mpr ⟨(hc 1 0 _), List.forall_mem_cons.mpr ⟨(hc 1 0 _), fun _ h => absurd h List.not_mem_nil⟩⟩)
  exact ⟨V2, by simp only [s_law_719, w1, w2, w3, w4, w5, p1, p2, p3, p4, p5, if_true, q1, q2, q3, ci_r, cl_r, cmp3_s], q4, q5, q6⟩
theorem L_752 (l : Launch) {D : va_G} {dA : Nat → ClassId} {z : Nat} (hb : Base D dA z) (hk : ∀ k, k < 310 → ckM k = true) (d : Nat) (V : XM) (i : Int) (hI : Inv V) (hc : cV V) (h0 : 0 ≤ i) (h6 : i + 6 ≤ V 1 1 0) (hL : V 1 1 0 ≤ 3072) : LG d 752 i V := by
  obtain ⟨w1, w2, w3, w4, w5⟩ := law_w h0 (Int.le_trans h6 hL)
  obtain ⟨p1, p2, p3, p4, p5⟩ := law_p h0 h6
  obtain ⟨x, V1, V2, q1, q2, q3, q4, q5, q6⟩ := lawI l hb hk (g_says d V hI (V 1 0 ((i + 1).toNat)) (V 1 0 ((i + 2).toNat))) (by decide +kernel) rfl rfl hc (List.forall_mem_cons.mpr ⟨(hc 1 0 _), List.forall_mem_cons.mpr ⟨(hc 1 0 _), fun _ h => absurd h List.not_mem_nil⟩⟩)
  exact ⟨V2, by simp only [s_law_752, w1, w2, w3, w4, w5, p1, p2, p3, p4, p5, if_true, q1, q2, q3, ci_r, cl_r, cmp3_s], q4, q5, q6⟩
theorem L_785 (l : Launch) {D : va_G} {dA : Nat → ClassId} {z : Nat} (hb : Base D dA z) (hk : ∀ k, k < 310 → ckM k = true) (d : Nat) (V : XM) (i : Int) (hI : Inv V) (hc : cV V) (h0 : 0 ≤ i) (h6 : i + 6 ≤ V 1 1 0) (hL : V 1 1 0 ≤ 3072) : LG d 785 i V := by
  obtain ⟨w1, w2, w3, w4, w5⟩ := law_w h0 (Int.le_trans h6 hL)
  obtain ⟨p1, p2, p3, p4, p5⟩ := law_p h0 h6
  obtain ⟨x, V1, V2, q1, q2, q3, q4, q5, q6⟩ := lawI l hb hk (g_follow d V hI (V 1 0 ((i + 1).toNat)) (V 1 0 ((i + 2).toNat)) (V 1 0 ((i + 3).toNat))) (by decide +kernel) rfl rfl hc (List.forall_mem_cons.mpr ⟨(hc 1 0 _), List.forall_mem_cons.mpr ⟨(hc 1 0 _), List.forall_mem_cons.mpr ⟨(hc 1 0 _), fun _ h => absurd h List.not_mem_nil⟩⟩⟩)
  exact ⟨V2, by simp only [s_law_785, w1, w2, w3, w4, w5, p1, p2, p3, p4, p5, if_true, q1, q2, q3, ci_r, cl_r, cmp3_s], q4, q5, q6⟩
theorem L_828 (l : Launch) {D : va_G} {dA : Nat → ClassId} {z : Nat} (hb : Base D dA z) (hk : ∀ k, k < 310 → ckM k = true) (d : Nat) (V : XM) (i : Int) (hI : Inv V) (hc : cV V) (h0 : 0 ≤ i) (h6 : i + 6 ≤ V 1 1 0) (hL : V 1 1 0 ≤ 3072) : LG d 828 i V := by
  obtain ⟨w1, w2, w3, w4, w5⟩ := law_w h0 (Int.le_trans h6 hL)
  obtain ⟨p1, p2, p3, p4, p5⟩ := law_p h0 h6
  obtain ⟨x, V1, V2, q1, q2, q3, q4, q5, q6⟩ := lawI l hb hk (g_mark d V hI (V 1 0 ((i + 1).toNat)) (V 1 0 ((i + 2).toNat))) (by decide +kernel) rfl rfl hc (List.forall_mem_cons.mpr ⟨(hc 1 0 _), List.forall_mem_cons.mpr ⟨(hc 1 0 _), fun _ h => absurd h List.not_mem_nil⟩⟩)
  exact ⟨V2, by simp only [s_law_828, w1, w2, w3, w4, w5, p1, p2, p3, p4, p5, if_true, q1, q2, q3, ci_r, cl_r, cmp3_s], q4, q5, q6⟩
theorem L_861 (l : Launch) {D : va_G} {dA : Nat → ClassId} {z : Nat} (hb : Base D dA z) (hk : ∀ k, k < 310 → ckM k = true) (d : Nat) (V : XM) (i : Int) (hI : Inv V) (hc : cV V) (h0 : 0 ≤ i) (h6 : i + 6 ≤ V 1 1 0) (hL : V 1 1 0 ≤ 3072) : LG d 861 i V := by
  obtain ⟨w1, w2, w3, w4, w5⟩ := law_w h0 (Int.le_trans h6 hL)
  obtain ⟨p1, p2, p3, p4, p5⟩ := law_p h0 h6
  obtain ⟨x, V1, V2, q1, q2, q3, q4, q5, q6⟩ := lawI l hb hk (g_remark d V hI (V 1 0 ((i + 1).toNat)) (V 1 0 ((i + 2).toNat)) (V 1 0 ((i + 3).toNat))) (by decide +kernel) rfl rfl hc (List.forall_mem_cons.mpr ⟨(hc 1 0 _), List.forall_mem_cons.mpr ⟨(hc 1 0 _), List.forall_mem_cons.mpr ⟨(hc 1 0 _), fun _ h => absurd h List.not_mem_nil⟩⟩⟩)
  exact ⟨V2, by simp only [s_law_861, w1, w2, w3, w4, w5, p1, p2, p3, p4, p5, if_true, q1, q2, q3, ci_r, cl_r, cmp3_s], q4, q5, q6⟩
theorem L_904 (l : Launch) {D : va_G} {dA : Nat → ClassId} {z : Nat} (hb : Base D dA z) (hk : ∀ k, k < 310 → ckM k = true) (d : Nat) (V : XM) (i : Int) (hI : Inv V) (hc : cV V) (h0 : 0 ≤ i) (h6 : i + 6 ≤ V 1 1 0) (hL : V 1 1 0 ≤ 3072) : LG d 904 i V := by
  obtain ⟨w1, w2, w3, w4, w5⟩ := law_w h0 (Int.le_trans h6 hL)
  obtain ⟨p1, p2, p3, p4, p5⟩ := law_p h0 h6
  by_cases hz : V 1 0 ((i + 2).toNat) = 0
  · obtain ⟨x, V1, V2, q1, q2, q3, q4, q5, q6⟩ := lawI l hb hk (g_open d V hI (V 1 0 ((i + 1).toNat)) 0) (by decide +kernel) rfl rfl hc (List.forall_mem_cons.mpr ⟨(hc 1 0 _), List.forall_mem_cons.mpr ⟨(show c32 _ by unfold c32; omega), fun _ h => absurd h List.not_mem_nil⟩⟩)
    exact ⟨V2, by simp only [s_law_904, w1, w2, w3, w4, w5, p1, p2, p3, p4, p5, if_true, hz, q1, q2, q3, ci_r, cl_r, cmp3_s], q4, q5, q6⟩
  · obtain ⟨x, V1, V2, q1, q2, q3, q4, q5, q6⟩ := lawI l hb hk (g_open d V hI (V 1 0 ((i + 1).toNat)) 1) (by decide +kernel) rfl rfl hc (List.forall_mem_cons.mpr ⟨(hc 1 0 _), List.forall_mem_cons.mpr ⟨(show c32 _ by unfold c32; omega), fun _ h => absurd h List.not_mem_nil⟩⟩)
    exact ⟨V2, by simp only [s_law_904, w1, w2, w3, w4, w5, p1, p2, p3, p4, p5, if_true, hz, if_false, q1, q2, q3, ci_r, cl_r, cmp3_s], q4, q5, q6⟩
theorem L_953 (l : Launch) {D : va_G} {dA : Nat → ClassId} {z : Nat} (hb : Base D dA z) (hk : ∀ k, k < 310 → ckM k = true) (d : Nat) (V : XM) (i : Int) (hI : Inv V) (hc : cV V) (h0 : 0 ≤ i) (h6 : i + 6 ≤ V 1 1 0) (hL : V 1 1 0 ≤ 3072) : LG d 953 i V := by
  obtain ⟨w1, w2, w3, w4, w5⟩ := law_w h0 (Int.le_trans h6 hL)
  obtain ⟨p1, p2, p3, p4, p5⟩ := law_p h0 h6
  obtain ⟨x, V1, V2, q1, q2, q3, q4, q5, q6⟩ := lawI l hb hk (g_among d V hI (V 1 0 ((i + 1).toNat)) (lOr (lShl (V 1 0 ((i + 2).toNat)) 32) (lAnd (V 1 0 ((i + 3).toNat)) 4294967295)) (lOr_c _ _)) (by decide +kernel) rfl rfl hc (List.forall_mem_cons.mpr ⟨(hc 1 0 _), List.forall_mem_cons.mpr ⟨(lOr_c _ _), fun _ h => absurd h List.not_mem_nil⟩⟩)
  exact ⟨V2, by simp only [s_law_953, w1, w2, w3, w4, w5, p1, p2, p3, p4, p5, if_true, q1, q2, q3, ci_r, cl_r, cmp3_s], q4, q5, q6⟩
theorem L_1016 (l : Launch) {D : va_G} {dA : Nat → ClassId} {z : Nat} (hb : Base D dA z) (hk : ∀ k, k < 310 → ckM k = true) (d : Nat) (V : XM) (i : Int) (hI : Inv V) (hc : cV V) (h0 : 0 ≤ i) (h6 : i + 6 ≤ V 1 1 0) (hL : V 1 1 0 ≤ 3072) : LG d 1016 i V := by
  obtain ⟨w1, w2, w3, w4, w5⟩ := law_w h0 (Int.le_trans h6 hL)
  obtain ⟨p1, p2, p3, p4, p5⟩ := law_p h0 h6
  by_cases hz : V 1 0 ((i + 3).toNat) = 0
  · obtain ⟨x, V1, V2, q1, q2, q3, q4, q5, q6⟩ := lawI l hb hk (g_pair d V hI (V 1 0 ((i + 1).toNat)) (V 1 0 ((i + 2).toNat)) 0 (by decide)) (by decide +kernel) rfl rfl hc (List.forall_mem_cons.mpr ⟨(hc 1 0 _), List.forall_mem_cons.mpr ⟨(hc 1 0 _), List.forall_mem_cons.mpr ⟨(show c32 _ by unfold c32; omega), fun _ h => absurd h List.not_mem_nil⟩⟩⟩)
    exact ⟨V2, by simp only [s_law_1016, w1, w2, w3, w4, w5, p1, p2, p3, p4, p5, if_true, hz, q1, q2, q3, ci_r, cl_r, cmp3_s], q4, q5, q6⟩
  · obtain ⟨x, V1, V2, q1, q2, q3, q4, q5, q6⟩ := lawI l hb hk (g_pair d V hI (V 1 0 ((i + 1).toNat)) (V 1 0 ((i + 2).toNat)) 1 (by decide)) (by decide +kernel) rfl rfl hc (List.forall_mem_cons.mpr ⟨(hc 1 0 _), List.forall_mem_cons.mpr ⟨(hc 1 0 _), List.forall_mem_cons.mpr ⟨(show c32 _ by unfold c32; omega), fun _ h => absurd h List.not_mem_nil⟩⟩⟩)
    exact ⟨V2, by simp only [s_law_1016, w1, w2, w3, w4, w5, p1, p2, p3, p4, p5, if_true, hz, if_false, q1, q2, q3, ci_r, cl_r, cmp3_s], q4, q5, q6⟩
theorem L_1075 (l : Launch) {D : va_G} {dA : Nat → ClassId} {z : Nat} (hb : Base D dA z) (hk : ∀ k, k < 310 → ckM k = true) (d : Nat) (V : XM) (i : Int) (hI : Inv V) (hc : cV V) (h0 : 0 ≤ i) (h6 : i + 6 ≤ V 1 1 0) (hL : V 1 1 0 ≤ 3072) : LG d 1075 i V := by
  obtain ⟨w1, w2, w3, w4, w5⟩ := law_w h0 (Int.le_trans h6 hL)
  obtain ⟨p1, p2, p3, p4, p5⟩ := law_p h0 h6
  obtain ⟨x, V1, V2, q1, q2, q3, q4, q5, q6⟩ := lawI l hb hk (g_most d V hI (V 1 0 ((i + 1).toNat)) (V 1 0 ((i + 2).toNat))) (by decide +kernel) rfl rfl hc (List.forall_mem_cons.mpr ⟨(hc 1 0 _), List.forall_mem_cons.mpr ⟨(hc 1 0 _), fun _ h => absurd h List.not_mem_nil⟩⟩)
  exact ⟨V2, by simp only [s_law_1075, w1, w2, w3, w4, w5, p1, p2, p3, p4, p5, if_true, q1, q2, q3, ci_r, cl_r, cmp3_s], q4, q5, q6⟩
theorem L_1108 (l : Launch) {D : va_G} {dA : Nat → ClassId} {z : Nat} (hb : Base D dA z) (hk : ∀ k, k < 310 → ckM k = true) (d : Nat) (V : XM) (i : Int) (hI : Inv V) (hc : cV V) (h0 : 0 ≤ i) (h6 : i + 6 ≤ V 1 1 0) (hL : V 1 1 0 ≤ 3072) : LG d 1108 i V := by
  obtain ⟨w1, w2, w3, w4, w5⟩ := law_w h0 (Int.le_trans h6 hL)
  obtain ⟨p1, p2, p3, p4, p5⟩ := law_p h0 h6
  obtain ⟨x, V1, V2, q1, q2, q3, q4, q5, q6⟩ := lawI l hb hk (g_settle d V hI ) (by decide +kernel) rfl rfl hc (fun _ h => absurd h List.not_mem_nil)
  exact ⟨V2, by simp only [s_law_1108, w1, w2, w3, w4, w5, p1, p2, p3, p4, p5, if_true, q1, q2, q3, ci_r, cl_r, cmp3_s], q4, q5, q6⟩
theorem L_1121 (l : Launch) {D : va_G} {dA : Nat → ClassId} {z : Nat} (hb : Base D dA z) (hk : ∀ k, k < 310 → ckM k = true) (d : Nat) (V : XM) (i : Int) (hI : Inv V) (hc : cV V) (h0 : 0 ≤ i) (h6 : i + 6 ≤ V 1 1 0) (hL : V 1 1 0 ≤ 3072) : LG d 1121 i V := by
  obtain ⟨w1, w2, w3, w4, w5⟩ := law_w h0 (Int.le_trans h6 hL)
  obtain ⟨p1, p2, p3, p4, p5⟩ := law_p h0 h6
  obtain ⟨x, V1, V2, q1, q2, q3, q4, q5, q6⟩ := lawL l hb hk (g_set d V hI (V 1 0 ((i + 1).toNat))) (by decide +kernel) rfl rfl hc (List.forall_mem_cons.mpr ⟨(hc 1 0 _), fun _ h => absurd h List.not_mem_nil⟩)
  exact ⟨V2, by simp only [s_law_1121, w1, w2, w3, w4, w5, p1, p2, p3, p4, p5, if_true, q1, q2, q3, ci_r, cl_r, cmp3_s], q4, q5, q6⟩
theorem L_1145 (l : Launch) {D : va_G} {dA : Nat → ClassId} {z : Nat} (hb : Base D dA z) (hk : ∀ k, k < 310 → ckM k = true) (d : Nat) (V : XM) (i : Int) (hI : Inv V) (hc : cV V) (h0 : 0 ≤ i) (h6 : i + 6 ≤ V 1 1 0) (hL : V 1 1 0 ≤ 3072) : LG d 1145 i V := by
  obtain ⟨w1, w2, w3, w4, w5⟩ := law_w h0 (Int.le_trans h6 hL)
  obtain ⟨p1, p2, p3, p4, p5⟩ := law_p h0 h6
  obtain ⟨x, V1, V2, q1, q2, q3, q4, q5, q6⟩ := lawI l hb hk (g_relation d V hI (V 1 0 ((i + 1).toNat))) (by decide +kernel) rfl rfl hc (List.forall_mem_cons.mpr ⟨(hc 1 0 _), fun _ h => absurd h List.not_mem_nil⟩)
  exact ⟨V2, by simp only [s_law_1145, w1, w2, w3, w4, w5, p1, p2, p3, p4, p5, if_true, q1, q2, q3, ci_r, cl_r, cmp3_s], q4, q5, q6⟩
theorem L_1168 (l : Launch) {D : va_G} {dA : Nat → ClassId} {z : Nat} (hb : Base D dA z) (hk : ∀ k, k < 310 → ckM k = true) (d : Nat) (V : XM) (i : Int) (hI : Inv V) (hc : cV V) (h0 : 0 ≤ i) (h6 : i + 6 ≤ V 1 1 0) (hL : V 1 1 0 ≤ 3072) : LG d 1168 i V := by
  obtain ⟨w1, w2, w3, w4, w5⟩ := law_w h0 (Int.le_trans h6 hL)
  obtain ⟨p1, p2, p3, p4, p5⟩ := law_p h0 h6
  obtain ⟨x, V1, V2, q1, q2, q3, q4, q5, q6⟩ := lawI l hb hk (g_relate d V hI (V 1 0 ((i + 1).toNat)) (V 1 0 ((i + 2).toNat)) (V 1 0 ((i + 3).toNat))) (by decide +kernel) rfl rfl hc (List.forall_mem_cons.mpr ⟨(hc 1 0 _), List.forall_mem_cons.mpr ⟨(hc 1 0 _), List.forall_mem_cons.mpr ⟨(hc 1 0 _), fun _ h => absurd h List.not_mem_nil⟩⟩⟩)
  exact ⟨V2, by simp only [s_law_1168, w1, w2, w3, w4, w5, p1, p2, p3, p4, p5, if_true, q1, q2, q3, ci_r, cl_r, cmp3_s], q4, q5, q6⟩
theorem L_1211 (l : Launch) {D : va_G} {dA : Nat → ClassId} {z : Nat} (hb : Base D dA z) (hk : ∀ k, k < 310 → ckM k = true) (d : Nat) (V : XM) (i : Int) (hI : Inv V) (hc : cV V) (h0 : 0 ≤ i) (h6 : i + 6 ≤ V 1 1 0) (hL : V 1 1 0 ≤ 3072) : LG d 1211 i V := by
  obtain ⟨w1, w2, w3, w4, w5⟩ := law_w h0 (Int.le_trans h6 hL)
  obtain ⟨p1, p2, p3, p4, p5⟩ := law_p h0 h6
  obtain ⟨x, V1, V2, q1, q2, q3, q4, q5, q6⟩ := lawI l hb hk (g_deny d V hI (V 1 0 ((i + 1).toNat)) (V 1 0 ((i + 2).toNat)) (V 1 0 ((i + 3).toNat))) (by decide +kernel) rfl rfl hc (List.forall_mem_cons.mpr ⟨(hc 1 0 _), List.forall_mem_cons.mpr ⟨(hc 1 0 _), List.forall_mem_cons.mpr ⟨(hc 1 0 _), fun _ h => absurd h List.not_mem_nil⟩⟩⟩)
  exact ⟨V2, by simp only [s_law_1211, w1, w2, w3, w4, w5, p1, p2, p3, p4, p5, if_true, q1, q2, q3, ci_r, cl_r, cmp3_s], q4, q5, q6⟩
theorem L_1254 (l : Launch) {D : va_G} {dA : Nat → ClassId} {z : Nat} (hb : Base D dA z) (hk : ∀ k, k < 310 → ckM k = true) (d : Nat) (V : XM) (i : Int) (hI : Inv V) (hc : cV V) (h0 : 0 ≤ i) (h6 : i + 6 ≤ V 1 1 0) (hL : V 1 1 0 ≤ 3072) : LG d 1254 i V := by
  obtain ⟨w1, w2, w3, w4, w5⟩ := law_w h0 (Int.le_trans h6 hL)
  obtain ⟨p1, p2, p3, p4, p5⟩ := law_p h0 h6
  obtain ⟨x, V1, V2, q1, q2, q3, q4, q5, q6⟩ := lawI l hb hk (g_related d V hI (V 1 0 ((i + 1).toNat)) (V 1 0 ((i + 2).toNat)) (V 1 0 ((i + 3).toNat))) (by decide +kernel) rfl rfl hc (List.forall_mem_cons.mpr ⟨(hc 1 0 _), List.forall_mem_cons.mpr ⟨(hc 1 0 _), List.forall_mem_cons.mpr ⟨(hc 1 0 _), fun _ h => absurd h List.not_mem_nil⟩⟩⟩)
  exact ⟨V2, by simp only [s_law_1254, w1, w2, w3, w4, w5, p1, p2, p3, p4, p5, if_true, q1, q2, q3, ci_r, cl_r, cmp3_s], q4, q5, q6⟩
theorem L_1297 (l : Launch) {D : va_G} {dA : Nat → ClassId} {z : Nat} (hb : Base D dA z) (hk : ∀ k, k < 310 → ckM k = true) (d : Nat) (V : XM) (i : Int) (hI : Inv V) (hc : cV V) (h0 : 0 ≤ i) (h6 : i + 6 ≤ V 1 1 0) (hL : V 1 1 0 ≤ 3072) : LG d 1297 i V := by
  obtain ⟨w1, w2, w3, w4, w5⟩ := law_w h0 (Int.le_trans h6 hL)
  obtain ⟨p1, p2, p3, p4, p5⟩ := law_p h0 h6
  obtain ⟨x, V1, V2, q1, q2, q3, q4, q5, q6⟩ := lawI l hb hk (g_along d V hI (V 1 0 ((i + 1).toNat)) (V 1 0 ((i + 2).toNat)) (V 1 0 ((i + 3).toNat))) (by decide +kernel) rfl rfl hc (List.forall_mem_cons.mpr ⟨(hc 1 0 _), List.forall_mem_cons.mpr ⟨(hc 1 0 _), List.forall_mem_cons.mpr ⟨(hc 1 0 _), fun _ h => absurd h List.not_mem_nil⟩⟩⟩)
  exact ⟨V2, by simp only [s_law_1297, w1, w2, w3, w4, w5, p1, p2, p3, p4, p5, if_true, q1, q2, q3, ci_r, cl_r, cmp3_s], q4, q5, q6⟩
theorem L_1340 (l : Launch) {D : va_G} {dA : Nat → ClassId} {z : Nat} (hb : Base D dA z) (hk : ∀ k, k < 310 → ckM k = true) (d : Nat) (V : XM) (i : Int) (hI : Inv V) (hc : cV V) (h0 : 0 ≤ i) (h6 : i + 6 ≤ V 1 1 0) (hL : V 1 1 0 ≤ 3072) : LG d 1340 i V := by
  obtain ⟨w1, w2, w3, w4, w5⟩ := law_w h0 (Int.le_trans h6 hL)
  obtain ⟨p1, p2, p3, p4, p5⟩ := law_p h0 h6
  obtain ⟨x, V1, V2, q1, q2, q3, q4, q5, q6⟩ := lawI l hb hk (g_next d V hI (V 1 0 ((i + 1).toNat)) (V 1 0 ((i + 2).toNat)) (V 1 0 ((i + 3).toNat))) (by decide +kernel) rfl rfl hc (List.forall_mem_cons.mpr ⟨(hc 1 0 _), List.forall_mem_cons.mpr ⟨(hc 1 0 _), List.forall_mem_cons.mpr ⟨(hc 1 0 _), fun _ h => absurd h List.not_mem_nil⟩⟩⟩)
  exact ⟨V2, by simp only [s_law_1340, w1, w2, w3, w4, w5, p1, p2, p3, p4, p5, if_true, q1, q2, q3, ci_r, cl_r, cmp3_s], q4, q5, q6⟩
theorem L_1383 (l : Launch) {D : va_G} {dA : Nat → ClassId} {z : Nat} (hb : Base D dA z) (hk : ∀ k, k < 310 → ckM k = true) (d : Nat) (V : XM) (i : Int) (hI : Inv V) (hc : cV V) (h0 : 0 ≤ i) (h6 : i + 6 ≤ V 1 1 0) (hL : V 1 1 0 ≤ 3072) : LG d 1383 i V := by
  obtain ⟨w1, w2, w3, w4, w5⟩ := law_w h0 (Int.le_trans h6 hL)
  obtain ⟨p1, p2, p3, p4, p5⟩ := law_p h0 h6
  obtain ⟨x, V1, V2, q1, q2, q3, q4, q5, q6⟩ := lawI l hb hk (g_exit d V hI (V 1 0 ((i + 1).toNat)) (V 1 0 ((i + 2).toNat)) (V 1 0 ((i + 3).toNat))) (by decide +kernel) rfl rfl hc (List.forall_mem_cons.mpr ⟨(hc 1 0 _), List.forall_mem_cons.mpr ⟨(hc 1 0 _), List.forall_mem_cons.mpr ⟨(hc 1 0 _), fun _ h => absurd h List.not_mem_nil⟩⟩⟩)
  exact ⟨V2, by simp only [s_law_1383, w1, w2, w3, w4, w5, p1, p2, p3, p4, p5, if_true, q1, q2, q3, ci_r, cl_r, cmp3_s], q4, q5, q6⟩
theorem L_1426 (l : Launch) {D : va_G} {dA : Nat → ClassId} {z : Nat} (hb : Base D dA z) (hk : ∀ k, k < 310 → ckM k = true) (d : Nat) (V : XM) (i : Int) (hI : Inv V) (hc : cV V) (h0 : 0 ≤ i) (h6 : i + 6 ≤ V 1 1 0) (hL : V 1 1 0 ≤ 3072) : LG d 1426 i V := by
  obtain ⟨w1, w2, w3, w4, w5⟩ := law_w h0 (Int.le_trans h6 hL)
  obtain ⟨p1, p2, p3, p4, p5⟩ := law_p h0 h6
  obtain ⟨x, V1, V2, q1, q2, q3, q4, q5, q6⟩ := lawI l hb hk (g_door d V hI (V 1 0 ((i + 1).toNat)) (V 1 0 ((i + 2).toNat)) (V 1 0 ((i + 3).toNat)) (V 1 0 ((i + 4).toNat))) (by decide +kernel) rfl rfl hc (List.forall_mem_cons.mpr ⟨(hc 1 0 _), List.forall_mem_cons.mpr ⟨(hc 1 0 _), List.forall_mem_cons.mpr ⟨(hc 1 0 _), List.forall_mem_cons.mpr ⟨(hc 1 0 _), fun _ h => absurd h List.not_mem_nil⟩⟩⟩⟩)
  exact ⟨V2, by simp only [s_law_1426, w1, w2, w3, w4, w5, p1, p2, p3, p4, p5, if_true, q1, q2, q3, ci_r, cl_r, cmp3_s], q4, q5, q6⟩
theorem L_1479 (l : Launch) {D : va_G} {dA : Nat → ClassId} {z : Nat} (hb : Base D dA z) (hk : ∀ k, k < 310 → ckM k = true) (d : Nat) (V : XM) (i : Int) (hI : Inv V) (hc : cV V) (h0 : 0 ≤ i) (h6 : i + 6 ≤ V 1 1 0) (hL : V 1 1 0 ≤ 3072) : LG d 1479 i V := by
  obtain ⟨w1, w2, w3, w4, w5⟩ := law_w h0 (Int.le_trans h6 hL)
  obtain ⟨p1, p2, p3, p4, p5⟩ := law_p h0 h6
  obtain ⟨x, V1, V2, q1, q2, q3, q4, q5, q6⟩ := lawI l hb hk (g_leads d V hI (V 1 0 ((i + 1).toNat)) (V 1 0 ((i + 2).toNat))) (by decide +kernel) rfl rfl hc (List.forall_mem_cons.mpr ⟨(hc 1 0 _), List.forall_mem_cons.mpr ⟨(hc 1 0 _), fun _ h => absurd h List.not_mem_nil⟩⟩)
  exact ⟨V2, by simp only [s_law_1479, w1, w2, w3, w4, w5, p1, p2, p3, p4, p5, if_true, q1, q2, q3, ci_r, cl_r, cmp3_s], q4, q5, q6⟩
theorem L_1512 (l : Launch) {D : va_G} {dA : Nat → ClassId} {z : Nat} (hb : Base D dA z) (hk : ∀ k, k < 310 → ckM k = true) (d : Nat) (V : XM) (i : Int) (hI : Inv V) (hc : cV V) (h0 : 0 ≤ i) (h6 : i + 6 ≤ V 1 1 0) (hL : V 1 1 0 ≤ 3072) : LG d 1512 i V := by
  obtain ⟨w1, w2, w3, w4, w5⟩ := law_w h0 (Int.le_trans h6 hL)
  obtain ⟨p1, p2, p3, p4, p5⟩ := law_p h0 h6
  obtain ⟨x, V1, V2, q1, q2, q3, q4, q5, q6⟩ := lawI l hb hk (g_sort d V hI (V 1 0 ((i + 1).toNat)) (V 1 0 ((i + 2).toNat))) (by decide +kernel) rfl rfl hc (List.forall_mem_cons.mpr ⟨(hc 1 0 _), List.forall_mem_cons.mpr ⟨(hc 1 0 _), fun _ h => absurd h List.not_mem_nil⟩⟩)
  exact ⟨V2, by simp only [s_law_1512, w1, w2, w3, w4, w5, p1, p2, p3, p4, p5, if_true, q1, q2, q3, ci_r, cl_r, cmp3_s], q4, q5, q6⟩
theorem L_1545 (l : Launch) {D : va_G} {dA : Nat → ClassId} {z : Nat} (hb : Base D dA z) (hk : ∀ k, k < 310 → ckM k = true) (d : Nat) (V : XM) (i : Int) (hI : Inv V) (hc : cV V) (h0 : 0 ≤ i) (h6 : i + 6 ≤ V 1 1 0) (hL : V 1 1 0 ≤ 3072) : LG d 1545 i V := by
  obtain ⟨w1, w2, w3, w4, w5⟩ := law_w h0 (Int.le_trans h6 hL)
  obtain ⟨p1, p2, p3, p4, p5⟩ := law_p h0 h6
  by_cases hz : V 1 0 ((i + 3).toNat) = 0
  · obtain ⟨x, V1, V2, q1, q2, q3, q4, q5, q6⟩ := lawI l hb hk (g_route d V hI (V 1 0 ((i + 1).toNat)) (V 1 0 ((i + 2).toNat)) 0) (by decide +kernel) rfl rfl hc (List.forall_mem_cons.mpr ⟨(hc 1 0 _), List.forall_mem_cons.mpr ⟨(hc 1 0 _), List.forall_mem_cons.mpr ⟨(show c32 _ by unfold c32; omega), fun _ h => absurd h List.not_mem_nil⟩⟩⟩)
    exact ⟨V2, by simp only [s_law_1545, w1, w2, w3, w4, w5, p1, p2, p3, p4, p5, if_true, hz, q1, q2, q3, ci_r, cl_r, cmp3_s], q4, q5, q6⟩
  · obtain ⟨x, V1, V2, q1, q2, q3, q4, q5, q6⟩ := lawI l hb hk (g_route d V hI (V 1 0 ((i + 1).toNat)) (V 1 0 ((i + 2).toNat)) 1) (by decide +kernel) rfl rfl hc (List.forall_mem_cons.mpr ⟨(hc 1 0 _), List.forall_mem_cons.mpr ⟨(hc 1 0 _), List.forall_mem_cons.mpr ⟨(show c32 _ by unfold c32; omega), fun _ h => absurd h List.not_mem_nil⟩⟩⟩)
    exact ⟨V2, by simp only [s_law_1545, w1, w2, w3, w4, w5, p1, p2, p3, p4, p5, if_true, hz, if_false, q1, q2, q3, ci_r, cl_r, cmp3_s], q4, q5, q6⟩
theorem L_1604 (l : Launch) {D : va_G} {dA : Nat → ClassId} {z : Nat} (hb : Base D dA z) (hk : ∀ k, k < 310 → ckM k = true) (d : Nat) (V : XM) (i : Int) (hI : Inv V) (hc : cV V) (h0 : 0 ≤ i) (h6 : i + 6 ≤ V 1 1 0) (hL : V 1 1 0 ≤ 3072) : LG d 1604 i V := by
  obtain ⟨w1, w2, w3, w4, w5⟩ := law_w h0 (Int.le_trans h6 hL)
  obtain ⟨p1, p2, p3, p4, p5⟩ := law_p h0 h6
  by_cases hz : V 1 0 ((i + 3).toNat) = 0
  · obtain ⟨x, V1, V2, q1, q2, q3, q4, q5, q6⟩ := lawI l hb hk (g_first_ d V hI (V 1 0 ((i + 1).toNat)) (V 1 0 ((i + 2).toNat)) 0) (by decide +kernel) rfl rfl hc (List.forall_mem_cons.mpr ⟨(hc 1 0 _), List.forall_mem_cons.mpr ⟨(hc 1 0 _), List.forall_mem_cons.mpr ⟨(show c32 _ by unfold c32; omega), fun _ h => absurd h List.not_mem_nil⟩⟩⟩)
    exact ⟨V2, by simp only [s_law_1604, w1, w2, w3, w4, w5, p1, p2, p3, p4, p5, if_true, hz, q1, q2, q3, ci_r, cl_r, cmp3_s], q4, q5, q6⟩
  · obtain ⟨x, V1, V2, q1, q2, q3, q4, q5, q6⟩ := lawI l hb hk (g_first_ d V hI (V 1 0 ((i + 1).toNat)) (V 1 0 ((i + 2).toNat)) 1) (by decide +kernel) rfl rfl hc (List.forall_mem_cons.mpr ⟨(hc 1 0 _), List.forall_mem_cons.mpr ⟨(hc 1 0 _), List.forall_mem_cons.mpr ⟨(show c32 _ by unfold c32; omega), fun _ h => absurd h List.not_mem_nil⟩⟩⟩)
    exact ⟨V2, by simp only [s_law_1604, w1, w2, w3, w4, w5, p1, p2, p3, p4, p5, if_true, hz, if_false, q1, q2, q3, ci_r, cl_r, cmp3_s], q4, q5, q6⟩
theorem L_1663 (l : Launch) {D : va_G} {dA : Nat → ClassId} {z : Nat} (hb : Base D dA z) (hk : ∀ k, k < 310 → ckM k = true) (d : Nat) (V : XM) (i : Int) (hI : Inv V) (hc : cV V) (h0 : 0 ≤ i) (h6 : i + 6 ≤ V 1 1 0) (hL : V 1 1 0 ≤ 3072) : LG d 1663 i V := by
  obtain ⟨w1, w2, w3, w4, w5⟩ := law_w h0 (Int.le_trans h6 hL)
  obtain ⟨p1, p2, p3, p4, p5⟩ := law_p h0 h6
  obtain ⟨x, V1, V2, q1, q2, q3, q4, q5, q6⟩ := lawI l hb hk (g_shelf d V hI (V 1 0 ((i + 1).toNat)) (V 1 0 ((i + 2).toNat))) (by decide +kernel) rfl rfl hc (List.forall_mem_cons.mpr ⟨(hc 1 0 _), List.forall_mem_cons.mpr ⟨(hc 1 0 _), fun _ h => absurd h List.not_mem_nil⟩⟩)
  exact ⟨V2, by simp only [s_law_1663, w1, w2, w3, w4, w5, p1, p2, p3, p4, p5, if_true, q1, q2, q3, ci_r, cl_r, cmp3_s], q4, q5, q6⟩
theorem L_1696 (l : Launch) {D : va_G} {dA : Nat → ClassId} {z : Nat} (hb : Base D dA z) (hk : ∀ k, k < 310 → ckM k = true) (d : Nat) (V : XM) (i : Int) (hI : Inv V) (hc : cV V) (h0 : 0 ≤ i) (h6 : i + 6 ≤ V 1 1 0) (hL : V 1 1 0 ≤ 3072) : LG d 1696 i V := by
  obtain ⟨w1, w2, w3, w4, w5⟩ := law_w h0 (Int.le_trans h6 hL)
  obtain ⟨p1, p2, p3, p4, p5⟩ := law_p h0 h6
  obtain ⟨x, V1, V2, q1, q2, q3, q4, q5, q6⟩ := lawI l hb hk (g_stand d V hI (V 1 0 ((i + 1).toNat)) (V 1 0 ((i + 2).toNat)) (V 1 0 ((i + 3).toNat))) (by decide +kernel) rfl rfl hc (List.forall_mem_cons.mpr ⟨(hc 1 0 _), List.forall_mem_cons.mpr ⟨(hc 1 0 _), List.forall_mem_cons.mpr ⟨(hc 1 0 _), fun _ h => absurd h List.not_mem_nil⟩⟩⟩)
  exact ⟨V2, by simp only [s_law_1696, w1, w2, w3, w4, w5, p1, p2, p3, p4, p5, if_true, q1, q2, q3, ci_r, cl_r, cmp3_s], q4, q5, q6⟩
theorem L_1739 (l : Launch) {D : va_G} {dA : Nat → ClassId} {z : Nat} (hb : Base D dA z) (hk : ∀ k, k < 310 → ckM k = true) (d : Nat) (V : XM) (i : Int) (hI : Inv V) (hc : cV V) (h0 : 0 ≤ i) (h6 : i + 6 ≤ V 1 1 0) (hL : V 1 1 0 ≤ 3072) : LG d 1739 i V := by
  obtain ⟨w1, w2, w3, w4, w5⟩ := law_w h0 (Int.le_trans h6 hL)
  obtain ⟨p1, p2, p3, p4, p5⟩ := law_p h0 h6
  obtain ⟨x, V1, V2, q1, q2, q3, q4, q5, q6⟩ := lawI l hb hk (g_stands d V hI (V 1 0 ((i + 1).toNat)) (V 1 0 ((i + 2).toNat))) (by decide +kernel) rfl rfl hc (List.forall_mem_cons.mpr ⟨(hc 1 0 _), List.forall_mem_cons.mpr ⟨(hc 1 0 _), fun _ h => absurd h List.not_mem_nil⟩⟩)
  exact ⟨V2, by simp only [s_law_1739, w1, w2, w3, w4, w5, p1, p2, p3, p4, p5, if_true, q1, q2, q3, ci_r, cl_r, cmp3_s], q4, q5, q6⟩
theorem L_1772 (l : Launch) {D : va_G} {dA : Nat → ClassId} {z : Nat} (hb : Base D dA z) (hk : ∀ k, k < 310 → ckM k = true) (d : Nat) (V : XM) (i : Int) (hI : Inv V) (hc : cV V) (h0 : 0 ≤ i) (h6 : i + 6 ≤ V 1 1 0) (hL : V 1 1 0 ≤ 3072) : LG d 1772 i V := by
  obtain ⟨w1, w2, w3, w4, w5⟩ := law_w h0 (Int.le_trans h6 hL)
  obtain ⟨p1, p2, p3, p4, p5⟩ := law_p h0 h6
  obtain ⟨x, V1, V2, q1, q2, q3, q4, q5, q6⟩ := lawI l hb hk (g_haul d V hI (V 1 0 ((i + 1).toNat)) (V 1 0 ((i + 2).toNat)) (V 1 0 ((i + 3).toNat)) (V 1 0 ((i + 4).toNat)) (V 1 0 ((i + 5).toNat)) (hc 1 0 _).2 (hc 1 0 _).2 (hc 1 0 _).2) (by decide +kernel) rfl rfl hc (List.forall_mem_cons.mpr ⟨(hc 1 0 _), List.forall_mem_cons.mpr ⟨(hc 1 0 _), List.forall_mem_cons.mpr ⟨(hc 1 0 _), List.forall_mem_cons.mpr ⟨(hc 1 0 _), List.forall_mem_cons.mpr ⟨(hc 1 0 _), fun _ h => absurd h List.not_mem_nil⟩⟩⟩⟩⟩)
  exact ⟨V2, by simp only [s_law_1772, w1, w2, w3, w4, w5, p1, p2, p3, p4, p5, if_true, q1, q2, q3, ci_r, cl_r, cmp3_s], q4, q5, q6⟩
theorem L_1835 (l : Launch) {D : va_G} {dA : Nat → ClassId} {z : Nat} (hb : Base D dA z) (hk : ∀ k, k < 310 → ckM k = true) (d : Nat) (V : XM) (i : Int) (hI : Inv V) (hc : cV V) (h0 : 0 ≤ i) (h6 : i + 6 ≤ V 1 1 0) (hL : V 1 1 0 ≤ 3072) : LG d 1835 i V := by
  obtain ⟨w1, w2, w3, w4, w5⟩ := law_w h0 (Int.le_trans h6 hL)
  obtain ⟨p1, p2, p3, p4, p5⟩ := law_p h0 h6
  obtain ⟨x, V1, V2, q1, q2, q3, q4, q5, q6⟩ := lawI l hb hk (g_came d V hI ) (by decide +kernel) rfl rfl hc (fun _ h => absurd h List.not_mem_nil)
  exact ⟨V2, by simp only [s_law_1835, w1, w2, w3, w4, w5, p1, p2, p3, p4, p5, if_true, q1, q2, q3, ci_r, cl_r, cmp3_s], q4, q5, q6⟩
theorem L_1848 (l : Launch) {D : va_G} {dA : Nat → ClassId} {z : Nat} (hb : Base D dA z) (hk : ∀ k, k < 310 → ckM k = true) (d : Nat) (V : XM) (i : Int) (hI : Inv V) (hc : cV V) (h0 : 0 ≤ i) (h6 : i + 6 ≤ V 1 1 0) (hL : V 1 1 0 ≤ 3072) : LG d 1848 i V := by
  obtain ⟨w1, w2, w3, w4, w5⟩ := law_w h0 (Int.le_trans h6 hL)
  obtain ⟨p1, p2, p3, p4, p5⟩ := law_p h0 h6
  obtain ⟨x, V1, V2, q1, q2, q3, q4, q5, q6⟩ := lawI l hb hk (g_table d V hI (V 1 0 ((i + 1).toNat)) (V 1 0 ((i + 2).toNat)) (V 1 0 ((i + 3).toNat)) (hc 1 0 _).2) (by decide +kernel) rfl rfl hc (List.forall_mem_cons.mpr ⟨(hc 1 0 _), List.forall_mem_cons.mpr ⟨(hc 1 0 _), List.forall_mem_cons.mpr ⟨(hc 1 0 _), fun _ h => absurd h List.not_mem_nil⟩⟩⟩)
  exact ⟨V2, by simp only [s_law_1848, w1, w2, w3, w4, w5, p1, p2, p3, p4, p5, if_true, q1, q2, q3, ci_r, cl_r, cmp3_s], q4, q5, q6⟩
theorem L_1891 (l : Launch) {D : va_G} {dA : Nat → ClassId} {z : Nat} (hb : Base D dA z) (hk : ∀ k, k < 310 → ckM k = true) (d : Nat) (V : XM) (i : Int) (hI : Inv V) (hc : cV V) (h0 : 0 ≤ i) (h6 : i + 6 ≤ V 1 1 0) (hL : V 1 1 0 ≤ 3072) : LG d 1891 i V := by
  obtain ⟨w1, w2, w3, w4, w5⟩ := law_w h0 (Int.le_trans h6 hL)
  obtain ⟨p1, p2, p3, p4, p5⟩ := law_p h0 h6
  obtain ⟨x, V1, V2, q1, q2, q3, q4, q5, q6⟩ := lawI l hb hk (g_fill d V hI (V 1 0 ((i + 1).toNat)) (V 1 0 ((i + 2).toNat)) (V 1 0 ((i + 3).toNat)) (lOr (lShl (V 1 0 ((i + 4).toNat)) 32) (lAnd (V 1 0 ((i + 5).toNat)) 4294967295)) (lOr_c _ _)) (by decide +kernel) rfl rfl hc (List.forall_mem_cons.mpr ⟨(hc 1 0 _), List.forall_mem_cons.mpr ⟨(hc 1 0 _), List.forall_mem_cons.mpr ⟨(hc 1 0 _), List.forall_mem_cons.mpr ⟨(lOr_c _ _), fun _ h => absurd h List.not_mem_nil⟩⟩⟩⟩)
  exact ⟨V2, by simp only [s_law_1891, w1, w2, w3, w4, w5, p1, p2, p3, p4, p5, if_true, q1, q2, q3, ci_r, cl_r, cmp3_s], q4, q5, q6⟩
theorem L_1974 (l : Launch) {D : va_G} {dA : Nat → ClassId} {z : Nat} (hb : Base D dA z) (hk : ∀ k, k < 310 → ckM k = true) (d : Nat) (V : XM) (i : Int) (hI : Inv V) (hc : cV V) (h0 : 0 ≤ i) (h6 : i + 6 ≤ V 1 1 0) (hL : V 1 1 0 ≤ 3072) : LG d 1974 i V := by
  obtain ⟨w1, w2, w3, w4, w5⟩ := law_w h0 (Int.le_trans h6 hL)
  obtain ⟨p1, p2, p3, p4, p5⟩ := law_p h0 h6
  obtain ⟨x, V1, V2, q1, q2, q3, q4, q5, q6⟩ := lawI l hb hk (g_blank d V hI (V 1 0 ((i + 1).toNat)) (V 1 0 ((i + 2).toNat)) (V 1 0 ((i + 3).toNat))) (by decide +kernel) rfl rfl hc (List.forall_mem_cons.mpr ⟨(hc 1 0 _), List.forall_mem_cons.mpr ⟨(hc 1 0 _), List.forall_mem_cons.mpr ⟨(hc 1 0 _), fun _ h => absurd h List.not_mem_nil⟩⟩⟩)
  exact ⟨V2, by simp only [s_law_1974, w1, w2, w3, w4, w5, p1, p2, p3, p4, p5, if_true, q1, q2, q3, ci_r, cl_r, cmp3_s], q4, q5, q6⟩
theorem L_2017 (l : Launch) {D : va_G} {dA : Nat → ClassId} {z : Nat} (hb : Base D dA z) (hk : ∀ k, k < 310 → ckM k = true) (d : Nat) (V : XM) (i : Int) (hI : Inv V) (hc : cV V) (h0 : 0 ≤ i) (h6 : i + 6 ≤ V 1 1 0) (hL : V 1 1 0 ≤ 3072) : LG d 2017 i V := by
  obtain ⟨w1, w2, w3, w4, w5⟩ := law_w h0 (Int.le_trans h6 hL)
  obtain ⟨p1, p2, p3, p4, p5⟩ := law_p h0 h6
  obtain ⟨x, V1, V2, q1, q2, q3, q4, q5, q6⟩ := lawL l hb hk (g_read d V hI (V 1 0 ((i + 1).toNat)) (V 1 0 ((i + 2).toNat)) (V 1 0 ((i + 3).toNat))) (by decide +kernel) rfl rfl hc (List.forall_mem_cons.mpr ⟨(hc 1 0 _), List.forall_mem_cons.mpr ⟨(hc 1 0 _), List.forall_mem_cons.mpr ⟨(hc 1 0 _), fun _ h => absurd h List.not_mem_nil⟩⟩⟩)
  exact ⟨V2, by simp only [s_law_2017, w1, w2, w3, w4, w5, p1, p2, p3, p4, p5, if_true, q1, q2, q3, ci_r, cl_r, cmp3_s], q4, q5, q6⟩
theorem L_2061 (l : Launch) {D : va_G} {dA : Nat → ClassId} {z : Nat} (hb : Base D dA z) (hk : ∀ k, k < 310 → ckM k = true) (d : Nat) (V : XM) (i : Int) (hI : Inv V) (hc : cV V) (h0 : 0 ≤ i) (h6 : i + 6 ≤ V 1 1 0) (hL : V 1 1 0 ≤ 3072) : LG d 2061 i V := by
  obtain ⟨w1, w2, w3, w4, w5⟩ := law_w h0 (Int.le_trans h6 hL)
  obtain ⟨p1, p2, p3, p4, p5⟩ := law_p h0 h6
  obtain ⟨x, V1, V2, q1, q2, q3, q4, q5, q6⟩ := lawI l hb hk (g_choose d V hI (V 1 0 ((i + 1).toNat)) (V 1 0 ((i + 2).toNat)) (lOr (lShl (V 1 0 ((i + 3).toNat)) 32) (lAnd (V 1 0 ((i + 4).toNat)) 4294967295)) (V 1 0 ((i + 5).toNat))) (by decide +kernel) rfl rfl hc (List.forall_mem_cons.mpr ⟨(hc 1 0 _), List.forall_mem_cons.mpr ⟨(hc 1 0 _), List.forall_mem_cons.mpr ⟨(lOr_c _ _), List.forall_mem_cons.mpr ⟨(hc 1 0 _), fun _ h => absurd h List.not_mem_nil⟩⟩⟩⟩)
  exact ⟨V2, by simp only [s_law_2061, w1, w2, w3, w4, w5, p1, p2, p3, p4, p5, if_true, q1, q2, q3, ci_r, cl_r, cmp3_s], q4, q5, q6⟩
theorem L_2144 (l : Launch) {D : va_G} {dA : Nat → ClassId} {z : Nat} (hb : Base D dA z) (hk : ∀ k, k < 310 → ckM k = true) (d : Nat) (V : XM) (i : Int) (hI : Inv V) (hc : cV V) (h0 : 0 ≤ i) (h6 : i + 6 ≤ V 1 1 0) (hL : V 1 1 0 ≤ 3072) : LG d 2144 i V := by
  obtain ⟨w1, w2, w3, w4, w5⟩ := law_w h0 (Int.le_trans h6 hL)
  obtain ⟨p1, p2, p3, p4, p5⟩ := law_p h0 h6
  by_cases hz : V 1 0 ((i + 3).toNat) = 0
  · obtain ⟨x, V1, V2, q1, q2, q3, q4, q5, q6⟩ := lawI l hb hk (g_rank d V hI (V 1 0 ((i + 1).toNat)) (V 1 0 ((i + 2).toNat)) 0) (by decide +kernel) rfl rfl hc (List.forall_mem_cons.mpr ⟨(hc 1 0 _), List.forall_mem_cons.mpr ⟨(hc 1 0 _), List.forall_mem_cons.mpr ⟨(show c32 _ by unfold c32; omega), fun _ h => absurd h List.not_mem_nil⟩⟩⟩)
    exact ⟨V2, by simp only [s_law_2144, w1, w2, w3, w4, w5, p1, p2, p3, p4, p5, if_true, hz, q1, q2, q3, ci_r, cl_r, cmp3_s], q4, q5, q6⟩
  · obtain ⟨x, V1, V2, q1, q2, q3, q4, q5, q6⟩ := lawI l hb hk (g_rank d V hI (V 1 0 ((i + 1).toNat)) (V 1 0 ((i + 2).toNat)) 1) (by decide +kernel) rfl rfl hc (List.forall_mem_cons.mpr ⟨(hc 1 0 _), List.forall_mem_cons.mpr ⟨(hc 1 0 _), List.forall_mem_cons.mpr ⟨(show c32 _ by unfold c32; omega), fun _ h => absurd h List.not_mem_nil⟩⟩⟩)
    exact ⟨V2, by simp only [s_law_2144, w1, w2, w3, w4, w5, p1, p2, p3, p4, p5, if_true, hz, if_false, q1, q2, q3, ci_r, cl_r, cmp3_s], q4, q5, q6⟩
theorem L_2203 (l : Launch) {D : va_G} {dA : Nat → ClassId} {z : Nat} (hb : Base D dA z) (hk : ∀ k, k < 310 → ckM k = true) (d : Nat) (V : XM) (i : Int) (hI : Inv V) (hc : cV V) (h0 : 0 ≤ i) (h6 : i + 6 ≤ V 1 1 0) (hL : V 1 1 0 ≤ 3072) : LG d 2203 i V := by
  obtain ⟨w1, w2, w3, w4, w5⟩ := law_w h0 (Int.le_trans h6 hL)
  obtain ⟨p1, p2, p3, p4, p5⟩ := law_p h0 h6
  obtain ⟨x, V1, V2, q1, q2, q3, q4, q5, q6⟩ := lawL l hb hk (g_total d V hI (V 1 0 ((i + 1).toNat)) (V 1 0 ((i + 2).toNat))) (by decide +kernel) rfl rfl hc (List.forall_mem_cons.mpr ⟨(hc 1 0 _), List.forall_mem_cons.mpr ⟨(hc 1 0 _), fun _ h => absurd h List.not_mem_nil⟩⟩)
  exact ⟨V2, by simp only [s_law_2203, w1, w2, w3, w4, w5, p1, p2, p3, p4, p5, if_true, q1, q2, q3, ci_r, cl_r, cmp3_s], q4, q5, q6⟩
theorem L_2237 (l : Launch) {D : va_G} {dA : Nat → ClassId} {z : Nat} (hb : Base D dA z) (hk : ∀ k, k < 310 → ckM k = true) (d : Nat) (V : XM) (i : Int) (hI : Inv V) (hc : cV V) (h0 : 0 ≤ i) (h6 : i + 6 ≤ V 1 1 0) (hL : V 1 1 0 ≤ 3072) : LG d 2237 i V := by
  obtain ⟨w1, w2, w3, w4, w5⟩ := law_w h0 (Int.le_trans h6 hL)
  obtain ⟨p1, p2, p3, p4, p5⟩ := law_p h0 h6
  obtain ⟨x, V1, V2, q1, q2, q3, q4, q5, q6⟩ := lawL l hb hk (g_mean d V hI (V 1 0 ((i + 1).toNat)) (V 1 0 ((i + 2).toNat))) (by decide +kernel) rfl rfl hc (List.forall_mem_cons.mpr ⟨(hc 1 0 _), List.forall_mem_cons.mpr ⟨(hc 1 0 _), fun _ h => absurd h List.not_mem_nil⟩⟩)
  exact ⟨V2, by simp only [s_law_2237, w1, w2, w3, w4, w5, p1, p2, p3, p4, p5, if_true, q1, q2, q3, ci_r, cl_r, cmp3_s], q4, q5, q6⟩
theorem L_2271 (l : Launch) {D : va_G} {dA : Nat → ClassId} {z : Nat} (hb : Base D dA z) (hk : ∀ k, k < 310 → ckM k = true) (d : Nat) (V : XM) (i : Int) (hI : Inv V) (hc : cV V) (h0 : 0 ≤ i) (h6 : i + 6 ≤ V 1 1 0) (hL : V 1 1 0 ≤ 3072) : LG d 2271 i V := by
  obtain ⟨w1, w2, w3, w4, w5⟩ := law_w h0 (Int.le_trans h6 hL)
  obtain ⟨p1, p2, p3, p4, p5⟩ := law_p h0 h6
  obtain ⟨x, V1, V2, q1, q2, q3, q4, q5, q6⟩ := lawI l hb hk (g_make d V hI ) (by decide +kernel) rfl rfl hc (fun _ h => absurd h List.not_mem_nil)
  exact ⟨V2, by simp only [s_law_2271, w1, w2, w3, w4, w5, p1, p2, p3, p4, p5, if_true, q1, q2, q3, ci_r, cl_r, cmp3_s], q4, q5, q6⟩
theorem L_2284 (l : Launch) {D : va_G} {dA : Nat → ClassId} {z : Nat} (hb : Base D dA z) (hk : ∀ k, k < 310 → ckM k = true) (d : Nat) (V : XM) (i : Int) (hI : Inv V) (hc : cV V) (h0 : 0 ≤ i) (h6 : i + 6 ≤ V 1 1 0) (hL : V 1 1 0 ≤ 3072) : LG d 2284 i V := by
  obtain ⟨w1, w2, w3, w4, w5⟩ := law_w h0 (Int.le_trans h6 hL)
  obtain ⟨p1, p2, p3, p4, p5⟩ := law_p h0 h6
  obtain ⟨x, V1, V2, q1, q2, q3, q4, q5, q6⟩ := lawI l hb hk (g_word d V hI (V 1 0 ((i + 1).toNat))) (by decide +kernel) rfl rfl hc (List.forall_mem_cons.mpr ⟨(hc 1 0 _), fun _ h => absurd h List.not_mem_nil⟩)
  exact ⟨V2, by simp only [s_law_2284, w1, w2, w3, w4, w5, p1, p2, p3, p4, p5, if_true, q1, q2, q3, ci_r, cl_r, cmp3_s], q4, q5, q6⟩
theorem L_2307 (l : Launch) {D : va_G} {dA : Nat → ClassId} {z : Nat} (hb : Base D dA z) (hk : ∀ k, k < 310 → ckM k = true) (d : Nat) (V : XM) (i : Int) (hI : Inv V) (hc : cV V) (h0 : 0 ≤ i) (h6 : i + 6 ≤ V 1 1 0) (hL : V 1 1 0 ≤ 3072) : LG d 2307 i V := by
  obtain ⟨w1, w2, w3, w4, w5⟩ := law_w h0 (Int.le_trans h6 hL)
  obtain ⟨p1, p2, p3, p4, p5⟩ := law_p h0 h6
  obtain ⟨x, V1, V2, q1, q2, q3, q4, q5, q6⟩ := lawL l hb hk (g_digest d V hI ) (by decide +kernel) rfl rfl hc (fun _ h => absurd h List.not_mem_nil)
  exact ⟨V2, by simp only [s_law_2307, w1, w2, w3, w4, w5, p1, p2, p3, p4, p5, if_true, q1, q2, q3, ci_r, cl_r, cmp3_s], q4, q5, q6⟩
theorem L_2321 (l : Launch) {D : va_G} {dA : Nat → ClassId} {z : Nat} (hb : Base D dA z) (hk : ∀ k, k < 310 → ckM k = true) (d : Nat) (V : XM) (i : Int) (hI : Inv V) (hc : cV V) (h0 : 0 ≤ i) (h6 : i + 6 ≤ V 1 1 0) (hL : V 1 1 0 ≤ 3072) : LG d 2321 i V := by
  obtain ⟨w1, w2, w3, w4, w5⟩ := law_w h0 (Int.le_trans h6 hL)
  obtain ⟨p1, p2, p3, p4, p5⟩ := law_p h0 h6
  obtain ⟨x, V1, V2, q1, q2, q3, q4, q5, q6⟩ := lawI l hb hk (g_sentence d V hI (V 1 0 ((i + 1).toNat)) (V 1 0 ((i + 2).toNat))) (by decide +kernel) rfl rfl hc (List.forall_mem_cons.mpr ⟨(hc 1 0 _), List.forall_mem_cons.mpr ⟨(hc 1 0 _), fun _ h => absurd h List.not_mem_nil⟩⟩)
  exact ⟨V2, by simp only [s_law_2321, w1, w2, w3, w4, w5, p1, p2, p3, p4, p5, if_true, q1, q2, q3, ci_r, cl_r, cmp3_s], q4, q5, q6⟩
theorem L_2354 (l : Launch) {D : va_G} {dA : Nat → ClassId} {z : Nat} (hb : Base D dA z) (hk : ∀ k, k < 310 → ckM k = true) (d : Nat) (V : XM) (i : Int) (hI : Inv V) (hc : cV V) (h0 : 0 ≤ i) (h6 : i + 6 ≤ V 1 1 0) (hL : V 1 1 0 ≤ 3072) : LG d 2354 i V := by
  obtain ⟨w1, w2, w3, w4, w5⟩ := law_w h0 (Int.le_trans h6 hL)
  obtain ⟨p1, p2, p3, p4, p5⟩ := law_p h0 h6
  obtain ⟨x, V1, V2, q1, q2, q3, q4, q5, q6⟩ := lawI l hb hk (g_count d V hI (V 1 0 ((i + 1).toNat))) (by decide +kernel) rfl rfl hc (List.forall_mem_cons.mpr ⟨(hc 1 0 _), fun _ h => absurd h List.not_mem_nil⟩)
  exact ⟨V2, by simp only [s_law_2354, w1, w2, w3, w4, w5, p1, p2, p3, p4, p5, if_true, q1, q2, q3, ci_r, cl_r, cmp3_s], q4, q5, q6⟩
theorem L_2377 (l : Launch) {D : va_G} {dA : Nat → ClassId} {z : Nat} (hb : Base D dA z) (hk : ∀ k, k < 310 → ckM k = true) (d : Nat) (V : XM) (i : Int) (hI : Inv V) (hc : cV V) (h0 : 0 ≤ i) (h6 : i + 6 ≤ V 1 1 0) (hL : V 1 1 0 ≤ 3072) : LG d 2377 i V := by
  obtain ⟨w1, w2, w3, w4, w5⟩ := law_w h0 (Int.le_trans h6 hL)
  obtain ⟨p1, p2, p3, p4, p5⟩ := law_p h0 h6
  obtain ⟨x, V1, V2, q1, q2, q3, q4, q5, q6⟩ := lawI l hb hk (g_fault d V hI ) (by decide +kernel) rfl rfl hc (fun _ h => absurd h List.not_mem_nil)
  exact ⟨V2, by simp only [s_law_2377, w1, w2, w3, w4, w5, p1, p2, p3, p4, p5, if_true, q1, q2, q3, ci_r, cl_r, cmp3_s], q4, q5, q6⟩
theorem L_2390 (l : Launch) {D : va_G} {dA : Nat → ClassId} {z : Nat} (hb : Base D dA z) (hk : ∀ k, k < 310 → ckM k = true) (d : Nat) (V : XM) (i : Int) (hI : Inv V) (hc : cV V) (h0 : 0 ≤ i) (h6 : i + 6 ≤ V 1 1 0) (hL : V 1 1 0 ≤ 3072) : LG d 2390 i V := by
  obtain ⟨w1, w2, w3, w4, w5⟩ := law_w h0 (Int.le_trans h6 hL)
  obtain ⟨p1, p2, p3, p4, p5⟩ := law_p h0 h6
  obtain ⟨x, V1, V2, q1, q2, q3, q4, q5, q6⟩ := lawI l hb hk (g_clear d V hI ) (by decide +kernel) rfl rfl hc (fun _ h => absurd h List.not_mem_nil)
  exact ⟨V2, by simp only [s_law_2390, w1, w2, w3, w4, w5, p1, p2, p3, p4, p5, if_true, q1, q2, q3, ci_r, cl_r, cmp3_s], q4, q5, q6⟩
theorem L_cases (l : Launch) {D : va_G} {dA : Nat → ClassId} {z : Nat} (hb : Base D dA z) (hk : ∀ k, k < 310 → ckM k = true) (d : Nat) (V : XM) (i : Int) (hI : Inv V) (hc : cV V) (h0 : 0 ≤ i) (h6 : i + 6 ≤ V 1 1 0) (hL : V 1 1 0 ≤ 3072) : ∀ t ∈ lwT, LG d t i V :=
  List.forall_mem_cons.mpr ⟨L_264 l hb hk d V i hI hc h0 h6 hL, List.forall_mem_cons.mpr ⟨L_287 l hb hk d V i hI hc h0 h6 hL, List.forall_mem_cons.mpr ⟨L_320 l hb hk d V i hI hc h0 h6 hL, List.forall_mem_cons.mpr ⟨L_363 l hb hk d V i hI hc h0 h6 hL, List.forall_mem_cons.mpr ⟨L_436 l hb hk d V i hI hc h0 h6 hL, List.forall_mem_cons.mpr ⟨L_469 l hb hk d V i hI hc h0 h6 hL, List.forall_mem_cons.mpr ⟨L_502 l hb hk d V i hI hc h0 h6 hL, List.forall_mem_cons.mpr ⟨L_535 l hb hk d V i hI hc h0 h6 hL, List.forall_mem_cons.mpr ⟨L_608 l hb hk d V i hI hc h0 h6 hL, List.forall_mem_cons.mpr ⟨L_642 l hb hk d V i hI hc h0 h6 hL, List.forall_mem_cons.mpr ⟨L_675 l hb hk d V i hI hc h0 h6 hL, List.forall_mem_cons.mpr ⟨L_719 l hb hk d V i hI hc h0 h6 hL, List.forall_mem_cons.mpr ⟨L_752 l hb hk d V i hI hc h0 h6 hL, List.forall_mem_cons.mpr ⟨L_785 l hb hk d V i hI hc h0 h6 hL, List.forall_mem_cons.mpr ⟨L_828 l hb hk d V i hI hc h0 h6 hL, List.forall_mem_cons.mpr ⟨L_861 l hb hk d V i hI hc h0 h6 hL, List.forall_mem_cons.mpr ⟨L_904 l hb hk d V i hI hc h0 h6 hL, List.forall_mem_cons.mpr ⟨L_953 l hb hk d V i hI hc h0 h6 hL, List.forall_mem_cons.mpr ⟨L_1016 l hb hk d V i hI hc h0 h6 hL, List.forall_mem_cons.mpr ⟨L_1075 l hb hk d V i hI hc h0 h6 hL, List.forall_mem_cons.mpr ⟨L_1108 l hb hk d V i hI hc h0 h6 hL, List.forall_mem_cons.mpr ⟨L_1121 l hb hk d V i hI hc h0 h6 hL, List.forall_mem_cons.mpr ⟨L_1145 l hb hk d V i hI hc h0 h6 hL, List.forall_mem_cons.mpr ⟨L_1168 l hb hk d V i hI hc h0 h6 hL, List.forall_mem_cons.mpr ⟨L_1211 l hb hk d V i hI hc h0 h6 hL, List.forall_mem_cons.mpr ⟨L_1254 l hb hk d V i hI hc h0 h6 hL, List.forall_mem_cons.mpr ⟨L_1297 l hb hk d V i hI hc h0 h6 hL, List.forall_mem_cons.mpr ⟨L_1340 l hb hk d V i hI hc h0 h6 hL, List.forall_mem_cons.mpr ⟨L_1383 l hb hk d V i hI hc h0 h6 hL, List.forall_mem_cons.mpr ⟨L_1426 l hb hk d V i hI hc h0 h6 hL, List.forall_mem_cons.mpr ⟨L_1479 l hb hk d V i hI hc h0 h6 hL, List.forall_mem_cons.mpr ⟨L_1512 l hb hk d V i hI hc h0 h6 hL, List.forall_mem_cons.mpr ⟨L_1545 l hb hk d V i hI hc h0 h6 hL, List.forall_mem_cons.mpr ⟨L_1604 l hb hk d V i hI hc h0 h6 hL, List.forall_mem_cons.mpr ⟨L_1663 l hb hk d V i hI hc h0 h6 hL, List.forall_mem_cons.mpr ⟨L_1696 l hb hk d V i hI hc h0 h6 hL, List.forall_mem_cons.mpr ⟨L_1739 l hb hk d V i hI hc h0 h6 hL, List.forall_mem_cons.mpr ⟨L_1772 l hb hk d V i hI hc h0 h6 hL, List.forall_mem_cons.mpr ⟨L_1835 l hb hk d V i hI hc h0 h6 hL, List.forall_mem_cons.mpr ⟨L_1848 l hb hk d V i hI hc h0 h6 hL, List.forall_mem_cons.mpr ⟨L_1891 l hb hk d V i hI hc h0 h6 hL, List.forall_mem_cons.mpr ⟨L_1974 l hb hk d V i hI hc h0 h6 hL, List.forall_mem_cons.mpr ⟨L_2017 l hb hk d V i hI hc h0 h6 hL, List.forall_mem_cons.mpr ⟨L_2061 l hb hk d V i hI hc h0 h6 hL, List.forall_mem_cons.mpr ⟨L_2144 l hb hk d V i hI hc h0 h6 hL, List.forall_mem_cons.mpr ⟨L_2203 l hb hk d V i hI hc h0 h6 hL, List.forall_mem_cons.mpr ⟨L_2237 l hb hk d V i hI hc h0 h6 hL, List.forall_mem_cons.mpr ⟨L_2271 l hb hk d V i hI hc h0 h6 hL, List.forall_mem_cons.mpr ⟨L_2284 l hb hk d V i hI hc h0 h6 hL, List.forall_mem_cons.mpr ⟨L_2307 l hb hk d V i hI hc h0 h6 hL, List.forall_mem_cons.mpr ⟨L_2321 l hb hk d V i hI hc h0 h6 hL, List.forall_mem_cons.mpr ⟨L_2354 l hb hk d V i hI hc h0 h6 hL, List.forall_mem_cons.mpr ⟨L_2377 l hb hk d V i hI hc h0 h6 hL, List.forall_mem_cons.mpr ⟨L_2390 l hb hk d V i hI hc h0 h6 hL, fun _ h => absurd h List.not_mem_nil⟩⟩⟩⟩⟩⟩⟩⟩⟩⟩⟩⟩⟩⟩⟩⟩⟩⟩⟩⟩⟩⟩⟩⟩⟩⟩⟩⟩⟩⟩⟩⟩⟩⟩⟩⟩⟩⟩⟩⟩⟩⟩⟩⟩⟩⟩⟩⟩⟩⟩⟩⟩⟩⟩
