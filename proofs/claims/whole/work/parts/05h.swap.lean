/-! MATHEMATICS, part h: exchanges of lines -/
def sw (i j r : Nat) : Nat := if r = i then j else if r = j then i else r
theorem st_swapRows {n o c : Nat} {S : Nat → Int32} {C : Nat → Nat → Int32} {past m z : Nat → Int32} (hM : Mx n m z) (hH : HI o c S C past) (ns : Int32) (nc old : Nat → Int32) (a1 a2 : Int32) :
    ∃ r n' m' ns' nc' o' c' S' C' z' old' past', f_X9_swapRows (nI n) m ns nc (nI o) (nI c) (S 0) (C 0) (S 1) (C 1) (S 2) (C 2) (S 3) (C 3) a1 a2 = some (r, nI n', m', ns', nc', nI o', nI c', S' 0, C' 0, S' 1, C' 1, S' 2, C' 2, S' 3, C' 3) ∧ f_X10_swapRows (nI c) z old past a1 a2 = some (r, nI c', z', old', past') ∧ Mx n' m' z' ∧ HI o' c' S' C' past' := by
  obtain ⟨h1, h7, hcz, hz, h0, hb⟩ := id hM
  have hno : ∀ (r : Int32), ∃ r1 n' m' ns' nc' o' c' S' C' z' old' past', some (r, nI n, m, ns, nc, nI o, nI c, S 0, C 0, S 1, C 1, S 2, C 2, S 3, C 3) = some (r1, nI n', m', ns', nc', nI o', nI c', S' 0, C' 0, S' 1, C' 1, S' 2, C' 2, S' 3, C' 3) ∧ some (r, nI c, z, old, past) = some (r1, nI c', z', old', past') ∧ Mx n' m' z' ∧ HI o' c' S' C' past' := fun r => ⟨r, n, m, ns, nc, o, c, S, C, z, old, past, rfl, rfl, hM, hH⟩
  unfold f_X9_swapRows f_X10_swapRows
  rcases line_cases n a1 with ⟨i, hi, rfl⟩ | h
  · rw [has_n hi h7, mline_n hz hi h7]
    rcases line_cases n a2 with ⟨j, hj, rfl⟩ | h
    · rw [has_n hj h7, mline_n hz hj h7]
      simp only [bs, i10, ↓reduceIte, copy_e]
      obtain ⟨w, hw1, hw2⟩ := lp_cntE (body := f_X9_swapRows_L1 (nI i) (nI j) (nI n) m (nI n)) (fun k w => ∀ r q, r < 7 → q < 7 → w (7 * r + q) = if q < k then m (7 * sw i j r + q) else m (7 * r + q)) n (fun w => ∀ r q, r < 7 → q < 7 → w (7 * r + q) = if q < n then m (7 * sw i j r + q) else m (7 * r + q)) (fun k w hk hI => by
        rw [f_X9_swapRows_L1, f_X4_size, bs, if_neg (nI_ge hk (by omega))]
        rw [at_n hj hk h7, bs, put_n hi hk h7, bs, at_n hi hk h7, bs, put_n hj hk h7, bs, pl_e]
        refine ⟨_, by rw [show nI k + (1 : Int32) = nI (k + 1) from nI_1 k], fun r q hr hq => ?_⟩
        rw [upd_at, upd_at, hI r q hr hq]
        unfold sw
        by_cases e1 : r = j
        · subst e1
          by_cases e2 : q = k
          · subst e2
            rw [if_pos rfl]
            by_cases e3 : r = i
            · subst e3; simp
            · simp [e3]
          · rw [if_neg (by omega), if_neg (by omega)]
            by_cases e4 : q < k
            · simp [e4, show q < k + 1 by omega]
            · simp [e4, show ¬ q < k + 1 by omega]
        · rw [if_neg (by omega)]
          by_cases e2 : r = i
          · subst e2
            by_cases e3 : q = k
            · subst e3
              simp
            · rw [if_neg (by omega)]
              by_cases e4 : q < k
              · simp [e4, show q < k + 1 by omega]
              · simp [e4, show ¬ q < k + 1 by omega]
          · rw [if_neg (by omega)]
            by_cases e3 : q = k
            · subst e3
              simp [e1, e2]
            · by_cases e4 : q < k
              · simp [e4, show q < k + 1 by omega]
              · simp [e4, show ¬ q < k + 1 by omega]) (fun w hI => by
        rw [f_X9_swapRows_L1, f_X4_size, bs, if_pos (nI_le (Nat.le_refl _) (by omega))]
        exact ⟨w, rfl, hI⟩) (va_cpy m nc 0 0 49) (fun r q hr hq => by rw [if_neg (Nat.not_lt_zero _), cpy49 _ _ (by omega)]) (by omega)
      obtain ⟨z2, hz1, hz2, hz3⟩ := lp_cntE (body := f_X10_swapRows_L1 (nI i) (nI j) (va_cpy z old 0 0 50)) (fun k w => (∀ r q, r < 7 → q < 7 → w (7 * r + q) = if q < k then z (7 * sw i j r + q) else z (7 * r + q)) ∧ w 49 = nI n) 7 (fun w => (∀ r q, r < 7 → q < 7 → w (7 * r + q) = z (7 * sw i j r + q)) ∧ w 49 = nI n) (fun k w hk hI => by
        rw [f_X10_swapRows_L1, if_neg (show ¬ (7 : Int32) ≤ nI k from nI_ge (b := 7) hk (by omega))]
        simp (disch := omega) only [lit32, bs, pl_e, gd_okI, nI_leI, nI_ltI, nI_eq, nI_add, pk_mul, pk_sub, nI_m1', nI_clamp, if_pos, if_neg, ↓reduceIte]
        refine ⟨_, rfl, fun r q hr hq => ?_, by rw [upd_at, upd_at, if_neg (by omega), if_neg (by omega)]; exact hI.2⟩
        rw [upd_at, upd_at, hI.1 r q hr hq]
        have ho : ∀ x, x < 50 → va_cpy z old 0 0 50 x = z x := fun x hx => by
          show (if 0 ≤ x ∧ x < 0 + 50 then z (0 + (x - 0)) else old x) = z x
          rw [if_pos (by omega), Nat.zero_add, Nat.sub_zero]
        rw [ho _ (by omega), ho _ (by omega)]
        unfold sw
        by_cases e1 : r = j
        · subst e1
          by_cases e2 : q = k
          · subst e2
            rw [if_pos rfl]
            by_cases e3 : r = i
            · subst e3; simp
            · simp [e3]
          · rw [if_neg (by omega), if_neg (by omega)]
            by_cases e4 : q < k
            · simp [e4, show q < k + 1 by omega]
            · simp [e4, show ¬ q < k + 1 by omega]
        · rw [if_neg (by omega)]
          by_cases e2 : r = i
          · subst e2
            by_cases e3 : q = k
            · subst e3
              simp
            · rw [if_neg (by omega)]
              by_cases e4 : q < k
              · simp [e4, show q < k + 1 by omega]
              · simp [e4, show ¬ q < k + 1 by omega]
          · rw [if_neg (by omega)]
            by_cases e3 : q = k
            · subst e3
              simp [e1, e2]
            · by_cases e4 : q < k
              · simp [e4, show q < k + 1 by omega]
              · simp [e4, show ¬ q < k + 1 by omega]) (fun w hI => by
        rw [f_X10_swapRows_L1, if_pos (show (7 : Int32) ≤ nI 7 by decide)]
        exact ⟨w, rfl, fun r q hr hq => by rw [hI.1 r q hr hq, if_pos (by omega)], hI.2⟩) z ⟨fun r q hr hq => by rw [if_neg (Nat.not_lt_zero _)], hz⟩ (by omega)
      have hw1' : lpN (f_X9_swapRows_L1 (nI i) (nI j) (nI n) m (nI n)) FU ((0 : Int32), va_cpy m nc 0 0 49) = some w := hw1
      have hz1' : lpN (f_X10_swapRows_L1 (nI i) (nI j) (va_cpy z old 0 0 50)) FU ((0 : Int32), z) = some z2 := hz1
      have hto : f_X10_takeOld z old = some (va_cpy z old 0 0 50) := by
        unfold f_X10_takeOld
        rw [show f_X10_copyRow 50 50 z old (0 : Int32) (0 : Int32) (50 : Int32) = _ from copyRow_n (n1 := 50) (n3 := 50) (sp := 0) (dp := 0) (m := 50) z old (by omega) (by omega) (by omega) (by omega), bs]
      rw [hw1', hto]
      simp only [bs]
      rw [hz1']
      simp only [bs]
      have hsw : ∀ r, r < 7 → sw i j r < 7 ∧ (n ≤ r → n ≤ sw i j r) := fun r hr => by
        unfold sw
        split
        · omega
        · split <;> omega
      have hM2 : Mx n w z2 := Mx_perm hM (fun r _ => sw i j r) (fun _ q => q) (fun r q hr hq => by
        have := hsw r (by omega)
        refine ⟨by omega, by omega, by omega⟩) (fun r q hr hq => by
        rw [hw2 r q hr hq]
        split
        · exact hcz _ (by have := hsw r (by omega); omega)
        · rename_i hge
          rw [hcz _ (by omega)]
          have := hsw r (by omega)
          rw [h0 r q hr hq (by omega)]
          exact (h0 _ _ (by omega) (by omega) (by omega)).symm) hz2 hz3
      obtain ⟨r, o', c', S', C', past', m', g1, g2, g3, g4⟩ := chgUnlike_n (old := va_cpy z old 0 0 50) hM hM2 hH (fun x hx => by
        show (if 0 ≤ x ∧ x < 0 + 50 then z (0 + (x - 0)) else old x) = z x
        rw [if_pos (by omega), Nat.zero_add, Nat.sub_zero])
      rw [g1, g2]
      exact ⟨r, n, m', nI n, w, o', c', S', C', z2, _, past', rfl, rfl, g4, g3⟩
    · rw [has_no h h7, mline_no hz h1 h h7]
      exact hno _
  · rw [has_no h h7, mline_no hz h1 h h7]
    exact hno _
theorem st_swapColumns {n o c : Nat} {S : Nat → Int32} {C : Nat → Nat → Int32} {past m z : Nat → Int32} (hM : Mx n m z) (hH : HI o c S C past) (ns : Int32) (nc old : Nat → Int32) (a1 a2 : Int32) :
    ∃ r n' m' ns' nc' o' c' S' C' z' old' past', f_X9_swapColumns (nI n) m ns nc (nI o) (nI c) (S 0) (C 0) (S 1) (C 1) (S 2) (C 2) (S 3) (C 3) a1 a2 = some (r, nI n', m', ns', nc', nI o', nI c', S' 0, C' 0, S' 1, C' 1, S' 2, C' 2, S' 3, C' 3) ∧ f_X10_swapColumns (nI c) z old past a1 a2 = some (r, nI c', z', old', past') ∧ Mx n' m' z' ∧ HI o' c' S' C' past' := by
  obtain ⟨h1, h7, hcz, hz, h0, hb⟩ := id hM
  have hno : ∀ (r : Int32), ∃ r1 n' m' ns' nc' o' c' S' C' z' old' past', some (r, nI n, m, ns, nc, nI o, nI c, S 0, C 0, S 1, C 1, S 2, C 2, S 3, C 3) = some (r1, nI n', m', ns', nc', nI o', nI c', S' 0, C' 0, S' 1, C' 1, S' 2, C' 2, S' 3, C' 3) ∧ some (r, nI c, z, old, past) = some (r1, nI c', z', old', past') ∧ Mx n' m' z' ∧ HI o' c' S' C' past' := fun r => ⟨r, n, m, ns, nc, o, c, S, C, z, old, past, rfl, rfl, hM, hH⟩
  unfold f_X9_swapColumns f_X10_swapColumns
  rcases line_cases n a1 with ⟨i, hi, rfl⟩ | h
  · rw [has_n hi h7, mline_n hz hi h7]
    rcases line_cases n a2 with ⟨j, hj, rfl⟩ | h
    · rw [has_n hj h7, mline_n hz hj h7]
      simp only [bs, i10, ↓reduceIte, copy_e]
      obtain ⟨w, hw1, hw2⟩ := lp_cntE (body := f_X9_swapColumns_L1 (nI i) (nI j) (nI n) m (nI n)) (fun k w => ∀ r q, r < 7 → q < 7 → w (7 * r + q) = if r < k then m (7 * r + sw i j q) else m (7 * r + q)) n (fun w => ∀ r q, r < 7 → q < 7 → w (7 * r + q) = if r < n then m (7 * r + sw i j q) else m (7 * r + q)) (fun k w hk hI => by
        rw [f_X9_swapColumns_L1, f_X4_size, bs, if_neg (nI_ge hk (by omega))]
        rw [at_n hk hj h7, bs, put_n hk hi h7, bs, at_n hk hi h7, bs, put_n hk hj h7, bs, pl_e]
        refine ⟨_, by rw [show nI k + (1 : Int32) = nI (k + 1) from nI_1 k], fun r q hr hq => ?_⟩
        rw [upd_at, upd_at, hI r q hr hq]
        unfold sw
        by_cases e1 : q = j
        · subst e1
          by_cases e2 : r = k
          · subst e2
            rw [if_pos rfl]
            by_cases e3 : q = i
            · subst e3; simp
            · simp [e3]
          · rw [if_neg (by omega), if_neg (by omega)]
            by_cases e4 : r < k
            · simp [e4, show r < k + 1 by omega]
            · simp [e4, show ¬ r < k + 1 by omega]
        · rw [if_neg (by omega)]
          by_cases e2 : q = i
          · subst e2
            by_cases e3 : r = k
            · subst e3
              simp
            · rw [if_neg (by omega)]
              by_cases e4 : r < k
              · simp [e4, show r < k + 1 by omega]
              · simp [e4, show ¬ r < k + 1 by omega]
          · rw [if_neg (by omega)]
            by_cases e3 : r = k
            · subst e3
              simp [e1, e2]
            · by_cases e4 : r < k
              · simp [e4, show r < k + 1 by omega]
              · simp [e4, show ¬ r < k + 1 by omega]) (fun w hI => by
        rw [f_X9_swapColumns_L1, f_X4_size, bs, if_pos (nI_le (Nat.le_refl _) (by omega))]
        exact ⟨w, rfl, hI⟩) (va_cpy m nc 0 0 49) (fun r q hr hq => by rw [if_neg (Nat.not_lt_zero _), cpy49 _ _ (by omega)]) (by omega)
      obtain ⟨z2, hz1, hz2, hz3⟩ := lp_cntE (body := f_X10_swapColumns_L1 (nI i) (nI j) (va_cpy z old 0 0 50)) (fun k w => (∀ r q, r < 7 → q < 7 → w (7 * r + q) = if r < k then z (7 * r + sw i j q) else z (7 * r + q)) ∧ w 49 = nI n) 7 (fun w => (∀ r q, r < 7 → q < 7 → w (7 * r + q) = z (7 * r + sw i j q)) ∧ w 49 = nI n) (fun k w hk hI => by
        rw [f_X10_swapColumns_L1, if_neg (show ¬ (7 : Int32) ≤ nI k from nI_ge (b := 7) hk (by omega))]
        simp (disch := omega) only [lit32, bs, pl_e, gd_okI, nI_leI, nI_ltI, nI_eq, nI_add, pk_mul, pk_sub, nI_m1', nI_clamp, if_pos, if_neg, ↓reduceIte]
        refine ⟨_, rfl, fun r q hr hq => ?_, by rw [upd_at, upd_at, if_neg (by omega), if_neg (by omega)]; exact hI.2⟩
        rw [upd_at, upd_at, hI.1 r q hr hq]
        have ho : ∀ x, x < 50 → va_cpy z old 0 0 50 x = z x := fun x hx => by
          show (if 0 ≤ x ∧ x < 0 + 50 then z (0 + (x - 0)) else old x) = z x
          rw [if_pos (by omega), Nat.zero_add, Nat.sub_zero]
        rw [ho _ (by omega), ho _ (by omega)]
        unfold sw
        by_cases e1 : q = j
        · subst e1
          by_cases e2 : r = k
          · subst e2
            rw [if_pos rfl]
            by_cases e3 : q = i
            · subst e3; simp
            · simp [e3]
          · rw [if_neg (by omega), if_neg (by omega)]
            by_cases e4 : r < k
            · simp [e4, show r < k + 1 by omega]
            · simp [e4, show ¬ r < k + 1 by omega]
        · rw [if_neg (by omega)]
          by_cases e2 : q = i
          · subst e2
            by_cases e3 : r = k
            · subst e3
              simp
            · rw [if_neg (by omega)]
              by_cases e4 : r < k
              · simp [e4, show r < k + 1 by omega]
              · simp [e4, show ¬ r < k + 1 by omega]
          · rw [if_neg (by omega)]
            by_cases e3 : r = k
            · subst e3
              simp [e1, e2]
            · by_cases e4 : r < k
              · simp [e4, show r < k + 1 by omega]
              · simp [e4, show ¬ r < k + 1 by omega]) (fun w hI => by
        rw [f_X10_swapColumns_L1, if_pos (show (7 : Int32) ≤ nI 7 by decide)]
        exact ⟨w, rfl, fun r q hr hq => by rw [hI.1 r q hr hq, if_pos (by omega)], hI.2⟩) z ⟨fun r q hr hq => by rw [if_neg (Nat.not_lt_zero _)], hz⟩ (by omega)
      have hw1' : lpN (f_X9_swapColumns_L1 (nI i) (nI j) (nI n) m (nI n)) FU ((0 : Int32), va_cpy m nc 0 0 49) = some w := hw1
      have hz1' : lpN (f_X10_swapColumns_L1 (nI i) (nI j) (va_cpy z old 0 0 50)) FU ((0 : Int32), z) = some z2 := hz1
      have hto : f_X10_takeOld z old = some (va_cpy z old 0 0 50) := by
        unfold f_X10_takeOld
        rw [show f_X10_copyRow 50 50 z old (0 : Int32) (0 : Int32) (50 : Int32) = _ from copyRow_n (n1 := 50) (n3 := 50) (sp := 0) (dp := 0) (m := 50) z old (by omega) (by omega) (by omega) (by omega), bs]
      rw [hw1', hto]
      simp only [bs]
      rw [hz1']
      simp only [bs]
      have hsw : ∀ r, r < 7 → sw i j r < 7 ∧ (n ≤ r → n ≤ sw i j r) := fun r hr => by
        unfold sw
        split
        · omega
        · split <;> omega
      have hM2 : Mx n w z2 := Mx_perm hM (fun r _ => r) (fun _ q => sw i j q) (fun r q hr hq => by
        have := hsw q (by omega)
        refine ⟨by omega, by omega, by omega⟩) (fun r q hr hq => by
        rw [hw2 r q hr hq]
        split
        · exact hcz _ (by have := hsw q (by omega); omega)
        · rename_i hge
          rw [hcz _ (by omega)]
          have := hsw q (by omega)
          rw [h0 r q hr hq (by omega)]
          exact (h0 _ _ (by omega) (by omega) (by omega)).symm) hz2 hz3
      obtain ⟨r, o', c', S', C', past', m', g1, g2, g3, g4⟩ := chgUnlike_n (old := va_cpy z old 0 0 50) hM hM2 hH (fun x hx => by
        show (if 0 ≤ x ∧ x < 0 + 50 then z (0 + (x - 0)) else old x) = z x
        rw [if_pos (by omega), Nat.zero_add, Nat.sub_zero])
      rw [g1, g2]
      exact ⟨r, n, m', nI n, w, o', c', S', C', z2, _, past', rfl, rfl, g4, g3⟩
    · rw [has_no h h7, mline_no hz h1 h h7]
      exact hno _
  · rw [has_no h h7, mline_no hz h1 h h7]
    exact hno _
