/-! THE LAW'S METHODS: refused calls change nothing -/
theorem refuses_c {n o c x : Nat} {S : Nat → Int32} {C : Nat → Nat → Int32} {m z : Nat → Int32} (hM : Mx n m z) (hH : Hs o c S C) (hx : x < 2 ^ 31) (ns : Int32) (nc : Nat → Int32) (ms : Int32) (mc : Nat → Int32) (tx : Nat → Int32) (p1 p2 p3 p4 p5 : Int32) (t : Nat → Int64) (v : Nat → Int32) :
    ∃ ns' nc' q1 q2 q3 q4 q5, f_L_refuses (nI n) m ns nc ms mc (nI o) (nI c) (S 0) (C 0) (S 1) (C 1) (S 2) (C 2) (S 3) (C 3) (nI 0) tx p1 p2 p3 p4 p5 t v (nI x) = some (1, nI n, m, ns', nc', ms, mc, nI o, nI c, S 0, C 0, S 1, C 1, S 2, C 2, S 3, C 3, nI 0, q1, q2, q3, q4, q5, t, v) := by
  obtain ⟨ns', nc', q1, q2, q3, q4, q5, g⟩ := refusesAny_c hM hH hx ns nc ms mc tx p1 p2 p3 p4 p5 t v
  unfold f_L_refuses
  rw [seen_c hM, bs, total7_c, bs, g, bs]
  dsimp only
  rw [if_neg i10, seen_c hM, bs, if_pos (cmp_eq rfl), total7_c, bs, if_pos rfl]
  exact ⟨ns', nc', q1, q2, q3, q4, q5, rfl⟩
