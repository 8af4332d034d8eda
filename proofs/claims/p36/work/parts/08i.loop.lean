/-! THE LAW: its loop -/
abbrev LT9 : Type := Int32 × Int64 × Int32 × Int32 × Int32 × Int32 × (Nat → Int32) × Int32 × (Nat → Int32) × Int32 × (Nat → Int32) × Int32 × (Nat → Int32) × Int32 × Int32 × Int32 × (Nat → Int32) × Int32 × (Nat → Int32) × Int32 × (Nat → Int32) × Int32 × (Nat → Int32) × Int32 × Int32 × Int32 × Int32 × Int32 × Int32 × (Nat → Int64) × (Nat → Int32)
def LIv (k : Nat) (s : LT9) : Prop := ∃ (n : Nat) (m z : Nat → Int32) (o c : Nat) (S : Nat → Int32) (C : Nat → Nat → Int32) (nk : Nat) (kc zk : Nat → Int32) (ns : Int32) (nc : Nat → Int32) (ms : Int32) (mc : Nat → Int32) (p1 p2 p3 p4 p5 : Int32) (t : Nat → Int64) (v : Nat → Int32), Mx n m z ∧ Hs o c S C ∧ Mx nk kc zk ∧ s = (1, SN nk zk, nI nk, nI k, 1, nI n, m, ns, nc, ms, mc, nI nk, kc, nI o, nI c, S 0, C 0, S 1, C 1, S 2, C 2, S 3, C 3, nI 0, p1, p2, p3, p4, p5, t, v)
theorem cell_n (L : Nat) (xs : Nat → Int32) (k : Int32) : ∃ x, x < 2 ^ 31 ∧ cellv L xs k = nI x := by
  unfold cellv
  obtain ⟨j, hj, e⟩ := pk_andE (if Int32.ofNat L ≤ k then (1831565813 : Int32) * (k + (67 : Int32)) + (14009 : Int32) else xs k.toNatClampNeg) (m := (2147483647 : Int32)) 31 (by decide)
  exact ⟨j, hj, e⟩
theorem cell_in {L k : Nat} (hL : L ≤ 260) (hk : k < 2 ^ 31) : ¬ Int32.ofNat L ≤ nI k → okI (nI k) L := fun h => okI_n (Nat.not_le.mp (fun hh => h (nI_le hh hk))) (by omega)
theorem up_c {c : Nat} (hc : c ≤ 4) : (if (4 : Int32) ≤ nI c then some (4 : Int32) else some (nI c + (1 : Int32))) = some (nI (cn1 c)) := by
  have : ∀ c, c ≤ 4 → (if (4 : Int32) ≤ nI c then some (4 : Int32) else some (nI c + (1 : Int32))) = some (nI (cn1 c)) := by decide
  exact this c hc
theorem down_c {c : Nat} (hc : c ≤ 4) : (if (4 : Int32) ≤ nI c then some (3 : Int32) else some (nI c)) = some (nI (cn1 c - 1)) := by
  have : ∀ c, c ≤ 4 → (if (4 : Int32) ≤ nI c then some (3 : Int32) else some (nI c)) = some (nI (cn1 c - 1)) := by decide
  exact this c hc
theorem i01 : ¬ (0 : Int32) = 1 := by decide
set_option maxHeartbeats 4000000 in
theorem lstep_c {L k : Nat} {xs tx : Nat → Int32} (hL : L ≤ 260) (hk : k < 40) {n o c nk : Nat} {S : Nat → Int32} {C : Nat → Nat → Int32} {m z kc zk : Nat → Int32} (hM : Mx n m z) (hH : Hs o c S C) (hK : Mx nk kc zk) (ns : Int32) (nc : Nat → Int32) (ms : Int32) (mc : Nat → Int32) (p1 p2 p3 p4 p5 : Int32) (t : Nat → Int64) (v : Nat → Int32) : ∃ s, f_L_law_L1 L xs tx (1, SN nk zk, nI nk, nI k, 1, nI n, m, ns, nc, ms, mc, nI nk, kc, nI o, nI c, S 0, C 0, S 1, C 1, S 2, C 2, S 3, C 3, nI 0, p1, p2, p3, p4, p5, t, v) = some (.inl s) ∧ LIv (k + 1) s := by
  have hc4 := hH.2.1
  obtain ⟨x, hx, ex⟩ := cell_n L xs (nI k)
  have e6 : nI x / (6 : Int32) = nI (x / 6) := n_div x 6 hx (by omega) (by omega)
  have hx6 : x / 6 < 2 ^ 31 := dlt hx
  obtain ⟨r, n', m', ns', nc', ms', mc', o', c', S', C', t', v', ga, hH', hA⟩ := act_c hM hH hx ns nc ms mc (nI 0) t v
  rw [f_L_law_L1, if_neg (show ¬ (40 : Int32) ≤ nI k from nI_ge (b := 40) hk (by omega)), if_neg i10, gd_t (cell_in hL (by omega)), pl_e, ex, seen_c hM, bs, total7_c, bs, ga, bs]
  dsimp only
  rw [total7_c, bs]
  rcases hA with ⟨rfl, rfl, rfl, hM2⟩ | ⟨rfl, rfl, ⟨z2, hM2⟩, hT⟩
  · rw [if_neg (show ¬ (0 : Int32) < 0 by decide), if_pos rfl, if_pos rfl, seen_c hM2, bs, if_pos (cmp_eq rfl)]
    by_cases h6 : nI k - nI k / (6 : Int32) * (6 : Int32) = (5 : Int32)
    · obtain ⟨nsq, ncq, q1, q2, q3, q4, q5, gf⟩ := refuses_c hM2 hH' hx6 ns' nc' ms' mc' tx p1 p2 p3 p4 p5 t' v'
      rw [if_pos h6, e6, gf, bs]
      dsimp only
      rw [if_neg i10, bs]
      dsimp only
      rw [if_neg i10, if_neg i01, bs]
      dsimp only
      rw [if_neg i10]
      by_cases h9 : nI k - nI k / (10 : Int32) * (10 : Int32) = (9 : Int32)
      · have hcc := hH'.2.1
        rw [if_pos h9, seen_c hM2, bs, total0_c, bs]
        obtain ⟨ncr, orr, Sr, Cr, mr, gr, hHr, hTr, hMr⟩ := restore_c hM2 hH' hK (nsq) (ncq)
        obtain ⟨mu, gu2, hMu2, hHu2⟩ := undo_c (m := mr) (n := nk) hHr hTr
        obtain ⟨kc2, gk, hMk⟩ := keep_c hMu2 1 (nI nk) kc
        have hcr := hHr.2.1
        rw [gr, bs]
        dsimp only
        rw [if_pos rfl, seen_c hMr, bs, if_pos (cmp_eq rfl), gu2, bs]
        dsimp only
        rw [if_neg (nI_pos (by omega)), seen_c hMu2, bs, if_pos (cmp_eq rfl), gk, bs]
        dsimp only
        rw [if_pos rfl, bs]
        dsimp only
        rw [pl_e, nI_1]
        exact ⟨_, rfl, n', mu, z, orr, _, Sr, Cr, n', kc2, z, _, _, _, _, _, _, _, _, _, _, _, hMu2, hHu2, hMk, rfl⟩
      · rw [if_neg h9, pl_e, nI_1]
        exact ⟨_, rfl, n', m', z, o', c', S', C', nk, kc, zk, _, _, _, _, _, _, _, _, _, _, _, hM2, hH', hK, rfl⟩
    · rw [if_neg h6, bs]
      dsimp only
      rw [if_neg i10, if_neg i01, bs]
      dsimp only
      rw [if_neg i10]
      by_cases h9 : nI k - nI k / (10 : Int32) * (10 : Int32) = (9 : Int32)
      · have hcc := hH'.2.1
        rw [if_pos h9, seen_c hM2, bs, total0_c, bs]
        obtain ⟨ncr, orr, Sr, Cr, mr, gr, hHr, hTr, hMr⟩ := restore_c hM2 hH' hK (ns') (nc')
        obtain ⟨mu, gu2, hMu2, hHu2⟩ := undo_c (m := mr) (n := nk) hHr hTr
        obtain ⟨kc2, gk, hMk⟩ := keep_c hMu2 1 (nI nk) kc
        have hcr := hHr.2.1
        rw [gr, bs]
        dsimp only
        rw [if_pos rfl, seen_c hMr, bs, if_pos (cmp_eq rfl), gu2, bs]
        dsimp only
        rw [if_neg (nI_pos (by omega)), seen_c hMu2, bs, if_pos (cmp_eq rfl), gk, bs]
        dsimp only
        rw [if_pos rfl, bs]
        dsimp only
        rw [pl_e, nI_1]
        exact ⟨_, rfl, n', mu, z, orr, _, Sr, Cr, n', kc2, z, _, _, _, _, _, _, _, _, _, _, _, hMu2, hHu2, hMk, rfl⟩
      · rw [if_neg h9, pl_e, nI_1]
        exact ⟨_, rfl, n', m', z, o', c', S', C', nk, kc, zk, _, _, _, _, _, _, _, _, _, _, _, hM2, hH', hK, rfl⟩
  · rw [if_neg (show ¬ (1 : Int32) < 0 by decide), if_neg i10, up_c hc4, bs, if_pos rfl]
    by_cases h6 : nI k - nI k / (6 : Int32) * (6 : Int32) = (5 : Int32)
    · obtain ⟨nsq, ncq, q1, q2, q3, q4, q5, gf⟩ := refuses_c hM2 hH' hx6 ns' nc' ms' mc' tx p1 p2 p3 p4 p5 t' v'
      rw [if_pos h6, e6, gf, bs]
      dsimp only
      rw [if_neg i10, bs]
      dsimp only
      rw [if_neg i10, if_pos rfl]
      by_cases hA : nI x / (17 : Int32) - nI x / (17 : Int32) / (3 : Int32) * (3 : Int32) = 0
      · rw [if_pos hA]
        obtain ⟨m3, gu, hM3, hH3⟩ := undo_c (m := m') (n := n') hH' hT
        rw [gu, bs]
        dsimp only
        rw [down_c hc4, bs, if_pos rfl, seen_c hM3, bs, if_pos (cmp_eq rfl), bs]
        dsimp only
        rw [if_neg i10]
        by_cases h9 : nI k - nI k / (10 : Int32) * (10 : Int32) = (9 : Int32)
        · have hcc := hH3.2.1
          rw [if_pos h9, seen_c hM3, bs, total0_c, bs]
          obtain ⟨ncr, orr, Sr, Cr, mr, gr, hHr, hTr, hMr⟩ := restore_c hM3 hH3 hK (nsq) (ncq)
          obtain ⟨mu, gu2, hMu2, hHu2⟩ := undo_c (m := mr) (n := nk) hHr hTr
          obtain ⟨kc2, gk, hMk⟩ := keep_c hMu2 1 (nI nk) kc
          have hcr := hHr.2.1
          rw [gr, bs]
          dsimp only
          rw [if_pos rfl, seen_c hMr, bs, if_pos (cmp_eq rfl), gu2, bs]
          dsimp only
          rw [if_neg (nI_pos (by omega)), seen_c hMu2, bs, if_pos (cmp_eq rfl), gk, bs]
          dsimp only
          rw [if_pos rfl, bs]
          dsimp only
          rw [pl_e, nI_1]
          exact ⟨_, rfl, n, mu, z, orr, _, Sr, Cr, n, kc2, z, _, _, _, _, _, _, _, _, _, _, _, hMu2, hHu2, hMk, rfl⟩
        · rw [if_neg h9, pl_e, nI_1]
          exact ⟨_, rfl, n, m3, z, o', (cn1 c - 1), S', C', nk, kc, zk, _, _, _, _, _, _, _, _, _, _, _, hM3, hH3, hK, rfl⟩
      · rw [if_neg hA]
        by_cases hB : nI x - nI x / (16 : Int32) * (16 : Int32) = (15 : Int32)
        · rw [if_pos hB]
          by_cases hC : nI x / (17 : Int32) - nI x / (17 : Int32) / (3 : Int32) * (3 : Int32) = (1 : Int32)
          · rw [if_pos hC]
            obtain ⟨m3, gu, hM3, hH3⟩ := undo_c (m := m') (n := n') hH' hT
            rw [gu, bs]
            dsimp only
            rw [down_c hc4, bs, if_pos rfl, seen_c hM3, bs, if_pos (cmp_eq rfl), bs]
            dsimp only
            rw [if_neg i10]
            by_cases h9 : nI k - nI k / (10 : Int32) * (10 : Int32) = (9 : Int32)
            · have hcc := hH3.2.1
              rw [if_pos h9, seen_c hM3, bs, total0_c, bs]
              obtain ⟨ncr, orr, Sr, Cr, mr, gr, hHr, hTr, hMr⟩ := restore_c hM3 hH3 hK (nsq) (ncq)
              obtain ⟨mu, gu2, hMu2, hHu2⟩ := undo_c (m := mr) (n := nk) hHr hTr
              obtain ⟨kc2, gk, hMk⟩ := keep_c hMu2 1 (nI nk) kc
              have hcr := hHr.2.1
              rw [gr, bs]
              dsimp only
              rw [if_pos rfl, seen_c hMr, bs, if_pos (cmp_eq rfl), gu2, bs]
              dsimp only
              rw [if_neg (nI_pos (by omega)), seen_c hMu2, bs, if_pos (cmp_eq rfl), gk, bs]
              dsimp only
              rw [if_pos rfl, bs]
              dsimp only
              rw [pl_e, nI_1]
              exact ⟨_, rfl, n, mu, z, orr, _, Sr, Cr, n, kc2, z, _, _, _, _, _, _, _, _, _, _, _, hMu2, hHu2, hMk, rfl⟩
            · rw [if_neg h9, pl_e, nI_1]
              exact ⟨_, rfl, n, m3, z, o', (cn1 c - 1), S', C', nk, kc, zk, _, _, _, _, _, _, _, _, _, _, _, hM3, hH3, hK, rfl⟩
          · rw [if_neg hC, bs]
            dsimp only
            rw [if_neg i10]
            by_cases h9 : nI k - nI k / (10 : Int32) * (10 : Int32) = (9 : Int32)
            · have hcc := hH'.2.1
              rw [if_pos h9, seen_c hM2, bs, total0_c, bs]
              obtain ⟨ncr, orr, Sr, Cr, mr, gr, hHr, hTr, hMr⟩ := restore_c hM2 hH' hK (nsq) (ncq)
              obtain ⟨mu, gu2, hMu2, hHu2⟩ := undo_c (m := mr) (n := nk) hHr hTr
              obtain ⟨kc2, gk, hMk⟩ := keep_c hMu2 1 (nI nk) kc
              have hcr := hHr.2.1
              rw [gr, bs]
              dsimp only
              rw [if_pos rfl, seen_c hMr, bs, if_pos (cmp_eq rfl), gu2, bs]
              dsimp only
              rw [if_neg (nI_pos (by omega)), seen_c hMu2, bs, if_pos (cmp_eq rfl), gk, bs]
              dsimp only
              rw [if_pos rfl, bs]
              dsimp only
              rw [pl_e, nI_1]
              exact ⟨_, rfl, n', mu, z2, orr, _, Sr, Cr, n', kc2, z2, _, _, _, _, _, _, _, _, _, _, _, hMu2, hHu2, hMk, rfl⟩
            · rw [if_neg h9, pl_e, nI_1]
              exact ⟨_, rfl, n', m', z2, o', (cn1 c), S', C', nk, kc, zk, _, _, _, _, _, _, _, _, _, _, _, hM2, hH', hK, rfl⟩
        · rw [if_neg hB, bs]
          dsimp only
          rw [if_neg i10]
          by_cases h9 : nI k - nI k / (10 : Int32) * (10 : Int32) = (9 : Int32)
          · have hcc := hH'.2.1
            rw [if_pos h9, seen_c hM2, bs, total0_c, bs]
            obtain ⟨ncr, orr, Sr, Cr, mr, gr, hHr, hTr, hMr⟩ := restore_c hM2 hH' hK (nsq) (ncq)
            obtain ⟨mu, gu2, hMu2, hHu2⟩ := undo_c (m := mr) (n := nk) hHr hTr
            obtain ⟨kc2, gk, hMk⟩ := keep_c hMu2 1 (nI nk) kc
            have hcr := hHr.2.1
            rw [gr, bs]
            dsimp only
            rw [if_pos rfl, seen_c hMr, bs, if_pos (cmp_eq rfl), gu2, bs]
            dsimp only
            rw [if_neg (nI_pos (by omega)), seen_c hMu2, bs, if_pos (cmp_eq rfl), gk, bs]
            dsimp only
            rw [if_pos rfl, bs]
            dsimp only
            rw [pl_e, nI_1]
            exact ⟨_, rfl, n', mu, z2, orr, _, Sr, Cr, n', kc2, z2, _, _, _, _, _, _, _, _, _, _, _, hMu2, hHu2, hMk, rfl⟩
          · rw [if_neg h9, pl_e, nI_1]
            exact ⟨_, rfl, n', m', z2, o', (cn1 c), S', C', nk, kc, zk, _, _, _, _, _, _, _, _, _, _, _, hM2, hH', hK, rfl⟩
    · rw [if_neg h6, bs]
      dsimp only
      rw [if_neg i10, if_pos rfl]
      by_cases hA : nI x / (17 : Int32) - nI x / (17 : Int32) / (3 : Int32) * (3 : Int32) = 0
      · rw [if_pos hA]
        obtain ⟨m3, gu, hM3, hH3⟩ := undo_c (m := m') (n := n') hH' hT
        rw [gu, bs]
        dsimp only
        rw [down_c hc4, bs, if_pos rfl, seen_c hM3, bs, if_pos (cmp_eq rfl), bs]
        dsimp only
        rw [if_neg i10]
        by_cases h9 : nI k - nI k / (10 : Int32) * (10 : Int32) = (9 : Int32)
        · have hcc := hH3.2.1
          rw [if_pos h9, seen_c hM3, bs, total0_c, bs]
          obtain ⟨ncr, orr, Sr, Cr, mr, gr, hHr, hTr, hMr⟩ := restore_c hM3 hH3 hK (ns') (nc')
          obtain ⟨mu, gu2, hMu2, hHu2⟩ := undo_c (m := mr) (n := nk) hHr hTr
          obtain ⟨kc2, gk, hMk⟩ := keep_c hMu2 1 (nI nk) kc
          have hcr := hHr.2.1
          rw [gr, bs]
          dsimp only
          rw [if_pos rfl, seen_c hMr, bs, if_pos (cmp_eq rfl), gu2, bs]
          dsimp only
          rw [if_neg (nI_pos (by omega)), seen_c hMu2, bs, if_pos (cmp_eq rfl), gk, bs]
          dsimp only
          rw [if_pos rfl, bs]
          dsimp only
          rw [pl_e, nI_1]
          exact ⟨_, rfl, n, mu, z, orr, _, Sr, Cr, n, kc2, z, _, _, _, _, _, _, _, _, _, _, _, hMu2, hHu2, hMk, rfl⟩
        · rw [if_neg h9, pl_e, nI_1]
          exact ⟨_, rfl, n, m3, z, o', (cn1 c - 1), S', C', nk, kc, zk, _, _, _, _, _, _, _, _, _, _, _, hM3, hH3, hK, rfl⟩
      · rw [if_neg hA]
        by_cases hB : nI x - nI x / (16 : Int32) * (16 : Int32) = (15 : Int32)
        · rw [if_pos hB]
          by_cases hC : nI x / (17 : Int32) - nI x / (17 : Int32) / (3 : Int32) * (3 : Int32) = (1 : Int32)
          · rw [if_pos hC]
            obtain ⟨m3, gu, hM3, hH3⟩ := undo_c (m := m') (n := n') hH' hT
            rw [gu, bs]
            dsimp only
            rw [down_c hc4, bs, if_pos rfl, seen_c hM3, bs, if_pos (cmp_eq rfl), bs]
            dsimp only
            rw [if_neg i10]
            by_cases h9 : nI k - nI k / (10 : Int32) * (10 : Int32) = (9 : Int32)
            · have hcc := hH3.2.1
              rw [if_pos h9, seen_c hM3, bs, total0_c, bs]
              obtain ⟨ncr, orr, Sr, Cr, mr, gr, hHr, hTr, hMr⟩ := restore_c hM3 hH3 hK (ns') (nc')
              obtain ⟨mu, gu2, hMu2, hHu2⟩ := undo_c (m := mr) (n := nk) hHr hTr
              obtain ⟨kc2, gk, hMk⟩ := keep_c hMu2 1 (nI nk) kc
              have hcr := hHr.2.1
              rw [gr, bs]
              dsimp only
              rw [if_pos rfl, seen_c hMr, bs, if_pos (cmp_eq rfl), gu2, bs]
              dsimp only
              rw [if_neg (nI_pos (by omega)), seen_c hMu2, bs, if_pos (cmp_eq rfl), gk, bs]
              dsimp only
              rw [if_pos rfl, bs]
              dsimp only
              rw [pl_e, nI_1]
              exact ⟨_, rfl, n, mu, z, orr, _, Sr, Cr, n, kc2, z, _, _, _, _, _, _, _, _, _, _, _, hMu2, hHu2, hMk, rfl⟩
            · rw [if_neg h9, pl_e, nI_1]
              exact ⟨_, rfl, n, m3, z, o', (cn1 c - 1), S', C', nk, kc, zk, _, _, _, _, _, _, _, _, _, _, _, hM3, hH3, hK, rfl⟩
          · rw [if_neg hC, bs]
            dsimp only
            rw [if_neg i10]
            by_cases h9 : nI k - nI k / (10 : Int32) * (10 : Int32) = (9 : Int32)
            · have hcc := hH'.2.1
              rw [if_pos h9, seen_c hM2, bs, total0_c, bs]
              obtain ⟨ncr, orr, Sr, Cr, mr, gr, hHr, hTr, hMr⟩ := restore_c hM2 hH' hK (ns') (nc')
              obtain ⟨mu, gu2, hMu2, hHu2⟩ := undo_c (m := mr) (n := nk) hHr hTr
              obtain ⟨kc2, gk, hMk⟩ := keep_c hMu2 1 (nI nk) kc
              have hcr := hHr.2.1
              rw [gr, bs]
              dsimp only
              rw [if_pos rfl, seen_c hMr, bs, if_pos (cmp_eq rfl), gu2, bs]
              dsimp only
              rw [if_neg (nI_pos (by omega)), seen_c hMu2, bs, if_pos (cmp_eq rfl), gk, bs]
              dsimp only
              rw [if_pos rfl, bs]
              dsimp only
              rw [pl_e, nI_1]
              exact ⟨_, rfl, n', mu, z2, orr, _, Sr, Cr, n', kc2, z2, _, _, _, _, _, _, _, _, _, _, _, hMu2, hHu2, hMk, rfl⟩
            · rw [if_neg h9, pl_e, nI_1]
              exact ⟨_, rfl, n', m', z2, o', (cn1 c), S', C', nk, kc, zk, _, _, _, _, _, _, _, _, _, _, _, hM2, hH', hK, rfl⟩
        · rw [if_neg hB, bs]
          dsimp only
          rw [if_neg i10]
          by_cases h9 : nI k - nI k / (10 : Int32) * (10 : Int32) = (9 : Int32)
          · have hcc := hH'.2.1
            rw [if_pos h9, seen_c hM2, bs, total0_c, bs]
            obtain ⟨ncr, orr, Sr, Cr, mr, gr, hHr, hTr, hMr⟩ := restore_c hM2 hH' hK (ns') (nc')
            obtain ⟨mu, gu2, hMu2, hHu2⟩ := undo_c (m := mr) (n := nk) hHr hTr
            obtain ⟨kc2, gk, hMk⟩ := keep_c hMu2 1 (nI nk) kc
            have hcr := hHr.2.1
            rw [gr, bs]
            dsimp only
            rw [if_pos rfl, seen_c hMr, bs, if_pos (cmp_eq rfl), gu2, bs]
            dsimp only
            rw [if_neg (nI_pos (by omega)), seen_c hMu2, bs, if_pos (cmp_eq rfl), gk, bs]
            dsimp only
            rw [if_pos rfl, bs]
            dsimp only
            rw [pl_e, nI_1]
            exact ⟨_, rfl, n', mu, z2, orr, _, Sr, Cr, n', kc2, z2, _, _, _, _, _, _, _, _, _, _, _, hMu2, hHu2, hMk, rfl⟩
          · rw [if_neg h9, pl_e, nI_1]
            exact ⟨_, rfl, n', m', z2, o', (cn1 c), S', C', nk, kc, zk, _, _, _, _, _, _, _, _, _, _, _, hM2, hH', hK, rfl⟩
