/-! THE LAW: as a function it answers 1 -/
theorem lloop_c {L : Nat} {xs tx : Nat → Int32} (hL : L ≤ 260) (s : LT9) (h : LIv 0 s) : ∃ r, lpN (f_L_law_L1 L xs tx) FU s = some r ∧ r.1 = 1 := by
  refine lp_inv (body := f_L_law_L1 L xs tx) (fun s => ∃ k, k ≤ 40 ∧ LIv k s) (fun s => 40 - s.2.2.2.1.toNatClampNeg) (fun r => r.1 = 1) ?_ FU s ⟨0, by omega, h⟩ (FU_lt (by omega))
  rintro s ⟨k, hk, n, m, z, o, c, S, C, nk, kc, zk, ns, nc, ms, mc, p1, p2, p3, p4, p5, t, v, hM, hH, hK, rfl⟩
  by_cases e : k = 40
  · subst e
    right
    rw [f_L_law_L1, if_pos (show (40 : Int32) ≤ nI 40 by decide)]
    exact ⟨_, rfl, rfl⟩
  · left
    obtain ⟨s', e1, e2⟩ := lstep_c (xs := xs) (tx := tx) hL (show k < 40 by omega) hM hH hK ns nc ms mc p1 p2 p3 p4 p5 t v
    refine ⟨s', e1, ⟨k + 1, by omega, e2⟩, ?_⟩
    obtain ⟨n', m', z', o', c', S', C', nk', kc', zk', ns', nc', ms', mc', q1, q2, q3, q4, q5, t', v', -, -, -, rfl⟩ := e2
    show 40 - (nI (k + 1)).toNatClampNeg < 40 - (nI k).toNatClampNeg
    rw [nI_clamp (by omega), nI_clamp (by omega)]
    omega
theorem refuses_l0 {n o c : Nat} {S : Nat → Int32} {C : Nat → Nat → Int32} {m z : Nat → Int32} (hM : Mx n m z) (hH : Hs o c S C) (ns : Int32) (nc : Nat → Int32) (ms : Int32) (mc : Nat → Int32) (tx : Nat → Int32) (p1 p2 p3 p4 p5 : Int32) (t : Nat → Int64) (v : Nat → Int32) :
    ∃ ns' nc' q1 q2 q3 q4 q5, f_L_refuses (nI n) m ns nc ms mc (nI o) (nI c) (S 0) (C 0) (S 1) (C 1) (S 2) (C 2) (S 3) (C 3) (nI 0) tx p1 p2 p3 p4 p5 t v (0 : Int32) = some (1, nI n, m, ns', nc', ms, mc, nI o, nI c, S 0, C 0, S 1, C 1, S 2, C 2, S 3, C 3, nI 0, q1, q2, q3, q4, q5, t, v) := refuses_c (x := 0) hM hH (by omega) ns nc ms mc tx p1 p2 p3 p4 p5 t v
theorem refuses_l1 {n o c : Nat} {S : Nat → Int32} {C : Nat → Nat → Int32} {m z : Nat → Int32} (hM : Mx n m z) (hH : Hs o c S C) (ns : Int32) (nc : Nat → Int32) (ms : Int32) (mc : Nat → Int32) (tx : Nat → Int32) (p1 p2 p3 p4 p5 : Int32) (t : Nat → Int64) (v : Nat → Int32) :
    ∃ ns' nc' q1 q2 q3 q4 q5, f_L_refuses (nI n) m ns nc ms mc (nI o) (nI c) (S 0) (C 0) (S 1) (C 1) (S 2) (C 2) (S 3) (C 3) (nI 0) tx p1 p2 p3 p4 p5 t v (1 : Int32) = some (1, nI n, m, ns', nc', ms, mc, nI o, nI c, S 0, C 0, S 1, C 1, S 2, C 2, S 3, C 3, nI 0, q1, q2, q3, q4, q5, t, v) := refuses_c (x := 1) hM hH (by omega) ns nc ms mc tx p1 p2 p3 p4 p5 t v
theorem zero_c : Mx 3 (fun _ => 0) (mkz 3 (fun _ _ => 0)) := by
  refine ⟨by omega, by omega, fun k hk => ?_, mkz_49, fun r q hr hq _ => mkz_at hr hq, fun k hk => ?_⟩
  · unfold mkz
    rw [if_pos hk]
  · unfold mkz
    rw [if_pos hk]
    show -20 ≤ (0 : Int32).toInt ∧ (0 : Int32).toInt ≤ 20
    decide
set_option maxHeartbeats 4000000 in
theorem law_c {L : Nat} (xs : Nat → Int32) (hL : L ≤ 260) : ∃ r, f_L_law L xs 0 (nI 3) (fun _ => 0) (nI 3) (fun _ => 0) (nI 3) (fun _ => 0) (nI 3) (fun _ => 0) (nI 0) (nI 0) ((fun _ => nI 3 : Nat → Int32) 0) ((fun _ _ => 0 : Nat → Nat → Int32) 0) ((fun _ => nI 3 : Nat → Int32) 1) ((fun _ _ => 0 : Nat → Nat → Int32) 1) ((fun _ => nI 3 : Nat → Int32) 2) ((fun _ _ => 0 : Nat → Nat → Int32) 2) ((fun _ => nI 3 : Nat → Int32) 3) ((fun _ _ => 0 : Nat → Nat → Int32) 3) (nI 0) (fun _ => 0) 0 0 0 0 0 (fun _ => 0) (fun _ => 0) = some r ∧ r.1 = 1 := by
  have hM := zero_c
  have hH : Hs 0 0 (fun _ => nI 3) (fun _ _ => 0) := ⟨by omega, by omega, fun i hi => absurd hi (by omega)⟩
  have ht1 : f_X9_total (nI 3) (fun _ => 0) (nI 0) (nI 0) 1 = some 0 := total_none hM _ _
  unfold f_L_law
  rw [undo_0, bs]
  dsimp only
  rw [if_pos rfl, restore_0, bs]
  dsimp only
  rw [if_pos rfl, total0_c, bs, if_pos (show nI 3 = (3 : Int32) from rfl), ht1, bs, if_pos rfl]
  generalize hS : (fun _ => nI 3 : Nat → Int32) = S at hH
  generalize hC : (fun _ _ => 0 : Nat → Nat → Int32) = C at hH
  have hS0 : ∀ k, S k = nI 3 := fun k => by rw [← hS]
  have hC0 : ∀ k, C k = (fun _ => 0) := fun k => by rw [← hC]
  obtain ⟨ns1, nc1, q1, q2, q3, q4, q5, g1⟩ := refuses_l0 hM hH (nI 3) (fun _ => 0) (nI 3) (fun _ => 0) (fun _ => 0) 0 0 0 0 0 (fun _ => 0) (fun _ => 0)
  obtain ⟨ns2, nc2, u1, u2, u3, u4, u5, g2⟩ := refuses_l1 hM hH ns1 nc1 (nI 3) (fun _ => 0) (fun _ => 0) q1 q2 q3 q4 q5 (fun _ => 0) (fun _ => 0)
  obtain ⟨kc, gk, hMk⟩ := keep_c hM 0 (nI 3) (fun _ => 0)
  simp only [hS0, hC0] at g1 g2
  rw [g1, bs]
  dsimp only
  rw [if_neg i10, g2, bs]
  dsimp only
  rw [if_neg i10, gk, bs]
  dsimp only
  rw [if_pos (show nI 3 = (3 : Int32) from rfl), bs]
  dsimp only
  rw [seen_c hM, bs]
  obtain ⟨r, hr, hr1⟩ := lloop_c (xs := xs) (tx := (fun _ => 0)) hL (1, SN 3 (mkz 3 (fun _ _ => 0)), (3 : Int32), (0 : Int32), 1, nI 3, (fun _ => 0), ns2, nc2, nI 3, (fun _ => 0), nI 3, kc, nI 0, nI 0, S 0, C 0, S 1, C 1, S 2, C 2, S 3, C 3, nI 0, u1, u2, u3, u4, u5, (fun _ => 0), (fun _ => 0)) ⟨3, (fun _ => 0), mkz 3 (fun _ _ => 0), 0, 0, S, C, 3, kc, mkz 3 (fun _ _ => 0), _, _, _, _, _, _, _, _, _, _, _, hM, hH, hMk, rfl⟩
  simp only [hS0, hC0] at hr
  rw [hr, bs]
  obtain ⟨y0, y1, y2, y3, y4, y5, y6, y7, y8, y9, y10, y11, y12, y13, y14, y15, y16, y17, y18, y19, y20, y21, y22, y23, y24, y25, y26, y27⟩ := r
  have hr1 : y0 = 1 := hr1
  subst hr1
  dsimp only
  rw [gd_t (Or.inr rfl)]
  exact ⟨_, rfl, rfl⟩
