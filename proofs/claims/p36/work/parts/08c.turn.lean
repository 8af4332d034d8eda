/-! THE LAW'S METHODS: rows and columns turned -/
theorem turn_c {n o c y : Nat} {S : Nat → Int32} {C : Nat → Nat → Int32} {m z : Nat → Int32} (hM : Mx n m z) (hH : Hs o c S C) (hy : y < 2 ^ 31) (ns : Int32) (nc : Nat → Int32) (ms : Int32) (mc : Nat → Int32) (ln : Int32) (t : Nat → Int64) :
    ∃ r n' m' ns' nc' ms' mc' o' c' S' C' t', f_L_turn (nI n) m ns nc ms mc (nI o) (nI c) (S 0) (C 0) (S 1) (C 1) (S 2) (C 2) (S 3) (C 3) ln t (nI y) = some (r, nI n', m', ns', nc', ms', mc', nI o', nI c', S' 0, C' 0, S' 1, C' 1, S' 2, C' 2, S' 3, C' 3, t') ∧ Ac n z c r n' m' o' c' S' C' := by
  have hM' := hM
  obtain ⟨h1, h7, hcz, hz, h0, hb⟩ := hM
  obtain ⟨r1, r2, hr, hq⟩ := row_col h1 h7 hy
  generalize hi : y % n = i at r1 hr
  generalize hj : y / 7 % n = j at r2 hq
  have e2 : nI n / (2 : Int32) = nI (n / 2) := n_div n 2 (by omega) (by omega) (by omega)
  have hk : n / 2 ≤ n := Nat.div_le_self _ _
  unfold f_L_turn
  rw [total0_c, bs, total5_c hM', bs, gd_t (nI_ne h1 h7), pl_e, gd_t (nI_ne h1 h7), pl_e, r1, r2, e2, entry_c hM' hr hq, bs]
  obtain ⟨t1, p1⟩ := permanent_c hM' t
  obtain ⟨t2, p2⟩ := determinant_c hM' t1
  obtain ⟨mc1, t3, p3⟩ := rooks_c hM' hk ms mc t2
  rw [p1, bs]
  dsimp only
  rw [p2, bs]
  dsimp only
  rw [p3, bs]
  dsimp only
  have hsy := du_SY (n := n) (z := z)
  rcases transpose_c hM' hH ns nc with ⟨d, nc', g1⟩ | ⟨d, nc', o', S', C', m', g1, g2, g3, g4⟩
  · rw [g1, bs]
    dsimp only
    have hsz : ∀ k, k < 49 → mkz n (fun r q => z (7 * q + r)) k = z k := fun k hk => by
      have := cntB_zero (P := dn (mkz n (fun r q => z (7 * q + r))) z) (n := 49) d k hk
      unfold dn at this
      simpa using this
    have hMz : Mx n m (mkz n (fun r q => z (7 * q + r))) := hM'.congr (fun _ _ => rfl) (fun k hk => by
      by_cases e : k = 49
      · subst e; rw [mkz_49, hz]
      · exact hsz k (by omega))
    obtain ⟨t4, p4⟩ := permanent_c hMz t3
    obtain ⟨t5, p5⟩ := determinant_c hMz t4
    obtain ⟨mc2, t6, p6⟩ := rooks_c hMz hk (nI n) mc1 t5
    rw [if_pos rfl, bs, hsy.mp d, if_pos (show b2i true = 1 from rfl), bs, if_pos rfl, if_pos rfl, entry_c hMz hq hr, bs, if_pos (by rw [mkz_at (by omega) (by omega)]), p4, bs]
    dsimp only
    rw [if_pos (cmp_eq (PM_turn h7)), p5, bs]
    dsimp only
    rw [if_pos (cmp_eq (DT_turn h7)), p6, bs]
    dsimp only
    rw [if_pos (RK_turn h7), bs]
    dsimp only
    rw [if_neg i10, if_pos rfl]
    exact ⟨_, n, m, _, _, _, _, o, c, S, C, _, rfl, hH, Or.inl ⟨rfl, rfl, rfl, hM'⟩⟩
  · rw [g1, bs]
    dsimp only
    obtain ⟨k, d1, d2⟩ := du_turn hM'
    have hnn : n * n - n ≤ 42 := by
      have : ∀ n, n ≤ 7 → n * n - n ≤ 42 := by decide
      exact this n h7
    have hnn2 : n * n ≤ 49 := Nat.mul_le_mul h7 h7
    have hle : n ≤ n * n := Nat.le_mul_of_pos_left n (by omega)
    have eSY : SY z = false := by
      cases h : SY z with
      | false => rfl
      | true => exact absurd (hsy.mpr h) d
    obtain ⟨t4, p4⟩ := permanent_c g4 t3
    obtain ⟨t5, p5⟩ := determinant_c g4 t4
    obtain ⟨mc2, t6, p6⟩ := rooks_c g4 hk (nI n) mc1 t5
    have hne : ¬ nI (du (mkz n (fun r q => z (7 * q + r))) z) = (-2000000005 : Int32) := nN (by omega)
    rw [if_neg hne, bs, eSY, if_neg (show ¬ b2i false = 1 by decide), bs, if_pos rfl, if_neg hne]
    rw [if_neg (show ¬ nI (du (mkz n (fun r q => z (7 * q + r))) z) ≤ (1 : Int32) from fun h => by
      have := (nI_leI (a := du (mkz n (fun r q => z (7 * q + r))) z) (b := 1) (by omega) (by omega)).mp h
      omega)]
    rw [if_pos (show nI (du (mkz n (fun r q => z (7 * q + r))) z) - nI (du (mkz n (fun r q => z (7 * q + r))) z) / (2 : Int32) * (2 : Int32) = 0 from (n_rem (du (mkz n (fun r q => z (7 * q + r))) z) 2 (by omega) (by omega) (by omega)).trans (by rw [d1, Nat.mul_mod_right]; rfl))]
    rw [if_neg (show ¬ (nI n * nI n) - nI n < nI (du (mkz n (fun r q => z (7 * q + r))) z) from fun h => by
      rw [pk_mul, pk_sub hle, nI_ltI (by omega) (by omega)] at h
      omega)]
    rw [entry_c g4 hq hr, bs, if_pos (by rw [mkz_at (by omega) (by omega)]), p4, bs]
    dsimp only
    rw [if_pos (cmp_eq (PM_turn h7)), p5, bs]
    dsimp only
    rw [if_pos (cmp_eq (DT_turn h7)), p6, bs]
    dsimp only
    rw [if_pos (RK_turn h7), bs]
    dsimp only
    rw [if_neg i10, if_neg hne]
    exact ⟨_, n, m', _, _, _, _, o', _, S', C', _, rfl, g2, Or.inr ⟨rfl, rfl, ⟨_, g4⟩, g3⟩⟩
