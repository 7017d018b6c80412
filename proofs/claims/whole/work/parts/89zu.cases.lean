theorem L_264 (l : Launch) {D : va_G} {dA : Nat → ClassId} {z : Nat} (hb : Base D dA z) (hk : ∀ k, k < 310 → ckM k = true) (d : Nat) (V : XM) (i : Int) (hI : Inv V) (hc : cV V) (h0 : 0 ≤ i) (h6 : i + 6 ≤ V 1 1 0) (hL : V 1 1 0 ≤ 3072) : LG d 264 i V := by
  obtain ⟨w1, w2, w3, w4, w5⟩ := law_w h0 (Int.le_trans h6 hL)
  obtain ⟨p1, p2, p3, p4, p5⟩ := law_p h0 h6
  obtain ⟨x, V1, V2, q1, q2, q3, q4, q5, q6⟩ := lawI l hb hk (g_kind d V hI (V 1 0 ((i + 1).toNat))) (by decide +kernel) rfl rfl hc (List.forall_mem_cons.mpr ⟨(hc 1 0 _), fun _ h => absurd h List.not_mem_nil⟩)
