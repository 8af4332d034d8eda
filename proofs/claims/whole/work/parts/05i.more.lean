/-! MATHEMATICS, part i: turning, multiplying, keep, restore, undo, the text's ends -/
theorem takeOld_n (z old : Nat → Int32) : f_X10_takeOld z old = some (va_cpy z old 0 0 50) := by
  unfold f_X10_takeOld
  rw [show f_X10_copyRow 50 50 z old (0 : Int32) (0 : Int32) (50 : Int32) = _ from copyRow_n (n1 := 50) (n3 := 50) (sp := 0) (dp := 0) (m := 50) z old (by omega) (by omega) (by omega) (by omega), bs]
theorem cpy50 (z old : Nat → Int32) {x : Nat} (hx : x < 50) : va_cpy z old 0 0 50 x = z x := by
  show (if 0 ≤ x ∧ x < 0 + 50 then z (0 + (x - 0)) else old x) = z x
  rw [if_pos (by omega), Nat.zero_add, Nat.sub_zero]
theorem st_transpose {n o c : Nat} {S : Nat → Int32} {C : Nat → Nat → Int32} {past m z : Nat → Int32} (hM : Mx n m z) (hH : HI o c S C past) (ns : Int32) (nc old : Nat → Int32) :
    ∃ r n' m' ns' nc' o' c' S' C' z' old' past', f_X9_transpose (nI n) m ns nc (nI o) (nI c) (S 0) (C 0) (S 1) (C 1) (S 2) (C 2) (S 3) (C 3) = some (r, nI n', m', ns', nc', nI o', nI c', S' 0, C' 0, S' 1, C' 1, S' 2, C' 2, S' 3, C' 3) ∧ f_X10_transpose (nI c) z old past = some (r, nI c', z', old', past') ∧ Mx n' m' z' ∧ HI o' c' S' C' past' := by
  obtain ⟨h1, h7, hcz, hz, h0, hb⟩ := id hM
  have hm0 : ∀ r q, r < 7 → q < 7 → (n ≤ r ∨ n ≤ q) → m (7 * r + q) = 0 := fun r q hr hq hx => by rw [hcz _ (by omega), h0 r q hr hq hx]
  unfold f_X9_transpose f_X10_transpose
  simp only [copy_e, bs]
  obtain ⟨w, hw1, hw2⟩ := lp_cntE (body := f_X9_transpose_L1 (nI n) m (nI n)) (fun k w => ∀ r q, r < 7 → q < 7 → w (7 * r + q) = if r < k then m (7 * q + r) else m (7 * r + q)) n (fun w => ∀ r q, r < 7 → q < 7 → w (7 * r + q) = m (7 * q + r)) (fun k w hk hI => by
    rw [f_X9_transpose_L1, f_X4_size, bs, if_neg (nI_ge hk (by omega))]
    obtain ⟨w', hw1, hw2⟩ := lp_cntE (body := f_X9_transpose_L2 (nI k) (nI n) m (nI n)) (fun l w => ∀ r q, r < 7 → q < 7 → w (7 * r + q) = if r < k ∨ (r = k ∧ q < l) then m (7 * q + r) else m (7 * r + q)) n (fun w => ∀ r q, r < 7 → q < 7 → w (7 * r + q) = if r < k + 1 then m (7 * q + r) else m (7 * r + q)) (fun l w hl hI => by
      rw [f_X9_transpose_L2, f_X4_size, bs, if_neg (nI_ge hl (by omega))]
      rw [at_n hl hk h7, bs, put_n hk hl h7, bs, pl_e]
      refine ⟨_, by rw [show nI l + (1 : Int32) = nI (l + 1) from nI_1 l], fun r q hr hq => ?_⟩
      rw [upd_at, hI r q hr hq]
      by_cases e : r = k ∧ q = l
      · obtain ⟨rfl, rfl⟩ := e
        rw [if_pos rfl, if_pos (Or.inr ⟨rfl, by omega⟩)]
      · rw [if_neg (by omega)]
        by_cases e2 : r < k ∨ (r = k ∧ q < l)
        · rw [if_pos e2, if_pos (by omega)]
        · rw [if_neg e2, if_neg (by omega)]) (fun w hI => by
      rw [f_X9_transpose_L2, f_X4_size, bs, if_pos (nI_le (Nat.le_refl _) (by omega))]
      refine ⟨w, rfl, fun r q hr hq => ?_⟩
      rw [hI r q hr hq]
      by_cases e : r < k ∨ (r = k ∧ q < n)
      · rw [if_pos e, if_pos (by omega)]
      · rw [if_neg e]
        by_cases e2 : r < k + 1
        · rw [if_pos e2, hm0 r q hr hq (by omega), hm0 q r hq hr (by omega)]
        · rw [if_neg e2]) w (fun r q hr hq => by
      rw [hI r q hr hq]
      by_cases e : r < k
      · rw [if_pos e, if_pos (Or.inl e)]
      · rw [if_neg e, if_neg (by omega)]) (by omega)
    have hw1' : lpN (f_X9_transpose_L2 (nI k) (nI n) m (nI n)) FU ((0 : Int32), w) = some w' := hw1
    rw [hw1', bs, pl_e]
    exact ⟨w', by rw [show nI k + (1 : Int32) = nI (k + 1) from nI_1 k], hw2⟩) (fun w hI => by
    rw [f_X9_transpose_L1, f_X4_size, bs, if_pos (nI_le (Nat.le_refl _) (by omega))]
    refine ⟨w, rfl, fun r q hr hq => ?_⟩
    rw [hI r q hr hq]
    by_cases e : r < n
    · rw [if_pos e]
    · rw [if_neg e, hm0 r q hr hq (by omega), hm0 q r hq hr (by omega)]) (va_cpy m nc 0 0 49) (fun r q hr hq => by rw [if_neg (Nat.not_lt_zero _), cpy49 _ _ (by omega)]) (by omega)
  obtain ⟨z2, hz1, hz2, hz3⟩ := lp_cntE (body := f_X10_transpose_L1 (va_cpy z old 0 0 50)) (fun k w => (∀ r q, r < 7 → q < 7 → w (7 * r + q) = if r < k then z (7 * q + r) else z (7 * r + q)) ∧ w 49 = nI n) 7 (fun w => (∀ r q, r < 7 → q < 7 → w (7 * r + q) = z (7 * q + r)) ∧ w 49 = nI n) (fun k w hk hI => by
    rw [f_X10_transpose_L1, if_neg (show ¬ (7 : Int32) ≤ nI k from nI_ge (b := 7) hk (by omega))]
    obtain ⟨w', hw1, hw2⟩ := lp_cntE (body := f_X10_transpose_L2 (nI k) (va_cpy z old 0 0 50)) (fun l w => (∀ r q, r < 7 → q < 7 → w (7 * r + q) = if r < k ∨ (r = k ∧ q < l) then z (7 * q + r) else z (7 * r + q)) ∧ w 49 = nI n) 7 (fun w => (∀ r q, r < 7 → q < 7 → w (7 * r + q) = if r < k + 1 then z (7 * q + r) else z (7 * r + q)) ∧ w 49 = nI n) (fun l w hl hI => by
      rw [f_X10_transpose_L2, if_neg (show ¬ (7 : Int32) ≤ nI l from nI_ge (b := 7) hl (by omega))]
      simp (disch := omega) only [lit32, bs, pl_e, gd_okI, nI_leI, nI_ltI, nI_eq, nI_add, pk_mul, pk_sub, nI_m1', nI_clamp, if_pos, if_neg, ↓reduceIte]
      refine ⟨_, rfl, fun r q hr hq => ?_, by rw [upd_at, if_neg (by omega)]; exact hI.2⟩
      rw [upd_at, hI.1 r q hr hq, cpy50 _ _ (by omega)]
      by_cases e : r = k ∧ q = l
      · obtain ⟨rfl, rfl⟩ := e
        rw [if_pos rfl, if_pos (Or.inr ⟨rfl, by omega⟩)]
      · rw [if_neg (by omega)]
        by_cases e2 : r < k ∨ (r = k ∧ q < l)
        · rw [if_pos e2, if_pos (by omega)]
        · rw [if_neg e2, if_neg (by omega)]) (fun w hI => by
      rw [f_X10_transpose_L2, if_pos (show (7 : Int32) ≤ nI 7 by decide)]
      refine ⟨w, rfl, fun r q hr hq => ?_, hI.2⟩
      rw [hI.1 r q hr hq]
      by_cases e : r < k ∨ (r = k ∧ q < 7)
      · rw [if_pos e, if_pos (by omega)]
      · rw [if_neg e, if_neg (by omega)]) w ⟨fun r q hr hq => by
      rw [hI.1 r q hr hq]
      by_cases e : r < k
      · rw [if_pos e, if_pos (Or.inl e)]
      · rw [if_neg e, if_neg (by omega)], hI.2⟩ (by omega)
    have hw1' : lpN (f_X10_transpose_L2 (nI k) (va_cpy z old 0 0 50)) FU ((0 : Int32), w) = some w' := hw1
    rw [hw1', bs, pl_e]
    exact ⟨w', by rw [show nI k + (1 : Int32) = nI (k + 1) from nI_1 k], hw2⟩) (fun w hI => by
    rw [f_X10_transpose_L1, if_pos (show (7 : Int32) ≤ nI 7 by decide)]
    exact ⟨w, rfl, fun r q hr hq => by rw [hI.1 r q hr hq, if_pos hr], hI.2⟩) z ⟨fun r q hr hq => by rw [if_neg (Nat.not_lt_zero _)], hz⟩ (by omega)
  have hw1' : lpN (f_X9_transpose_L1 (nI n) m (nI n)) FU ((0 : Int32), va_cpy m nc 0 0 49) = some w := hw1
  have hz1' : lpN (f_X10_transpose_L1 (va_cpy z old 0 0 50)) FU ((0 : Int32), z) = some z2 := hz1
  rw [hw1', takeOld_n]
  simp only [bs]
  rw [hz1']
  simp only [bs]
  have hM2 : Mx n w z2 := Mx_perm hM (fun _ q => q) (fun r _ => r) (fun r q hr hq => ⟨hq, hr, fun h => h.symm⟩) (fun r q hr hq => by rw [hw2 r q hr hq, hcz _ (by omega)]) hz2 hz3
  obtain ⟨r, o', c', S', C', past', m', g1, g2, g3, g4⟩ := chgUnlike_n (old := va_cpy z old 0 0 50) hM hM2 hH (fun x hx => cpy50 _ _ hx)
  rw [g1, g2]
  exact ⟨r, n, m', nI n, w, o', c', S', C', z2, _, past', rfl, rfl, g4, g3⟩
theorem not_in {x lo hi : Int32} : (if x < lo then (0 : Int32) else if hi < x then 0 else 1) = 0 ↔ (x < lo ∨ hi < x) := by
  by_cases h : x < lo
  · simp [h]
  · by_cases h2 : hi < x
    · simp [h, h2]
    · simp [h, h2]
theorem st_multiply {n o c : Nat} {S : Nat → Int32} {C : Nat → Nat → Int32} {past m z : Nat → Int32} (hM : Mx n m z) (hH : HI o c S C past) (ns : Int32) (nc old : Nat → Int32) (a1 a2 : Int32) :
    ∃ r n' m' ns' nc' o' c' S' C' z' old' past', f_X9_multiply (nI n) m ns nc (nI o) (nI c) (S 0) (C 0) (S 1) (C 1) (S 2) (C 2) (S 3) (C 3) a1 a2 = some (r, nI n', m', ns', nc', nI o', nI c', S' 0, C' 0, S' 1, C' 1, S' 2, C' 2, S' 3, C' 3) ∧ f_X10_multiply (nI c) z old past a1 a2 = some (r, nI c', z', old', past') ∧ Mx n' m' z' ∧ HI o' c' S' C' past' := by
  obtain ⟨h1, h7, hcz, hz, h0, hb⟩ := id hM
  have hno : ∀ (r : Int32) (ns1 : Int32) (nc1 : Nat → Int32), ∃ r1 n' m' ns' nc' o' c' S' C' z' old' past', some (r, nI n, m, ns1, nc1, nI o, nI c, S 0, C 0, S 1, C 1, S 2, C 2, S 3, C 3) = some (r1, nI n', m', ns', nc', nI o', nI c', S' 0, C' 0, S' 1, C' 1, S' 2, C' 2, S' 3, C' 3) ∧ some (r, nI c, z, old, past) = some (r1, nI c', z', old', past') ∧ Mx n' m' z' ∧ HI o' c' S' C' past' := fun r ns1 nc1 => ⟨r, n, m, ns1, nc1, o, c, S, C, z, old, past, rfl, rfl, hM, hH⟩
  unfold f_X9_multiply f_X10_multiply
  rcases line_cases n a1 with ⟨i, hi, rfl⟩ | h
  · rw [has_n hi h7, mline_n hz hi h7, min_n]
    simp only [bs, i10, ↓reduceIte, copy_e]
    by_cases e1 : a2 < (-9 : Int32)
    · rw [if_pos e1, if_pos e1]
      exact hno _ _ _
    rw [if_neg e1, if_neg e1]
    by_cases e2 : (9 : Int32) < a2
    · have e3 : ¬ a2 ≤ (9 : Int32) := fun h => Int32_not_lt_of_le h e2
      rw [if_neg e3, if_pos e2]
      exact hno _ _ _
    have e3 : a2 ≤ (9 : Int32) := Int32_le_of_not_lt e2
    rw [if_pos e3, if_neg e2, if_neg i10]
    -- what is out of range
    have hbad : ∀ q, q < 7 → n ≤ q → ¬ (z (7 * i + q) * a2 < (-20 : Int32) ∨ (20 : Int32) < z (7 * i + q) * a2) := fun q hq hnq => by
      rw [h0 i q (by omega) hq (Or.inr hnq), Int32.zero_mul]
      decide
    by_cases hall : ∃ q, q < n ∧ (z (7 * i + q) * a2 < (-20 : Int32) ∨ (20 : Int32) < z (7 * i + q) * a2)
    · -- refused
      have hL : ∃ y, lpN (f_X9_multiply_L1 (nI i) a2 (nI n) m (nI n) (nI o) (nI c) (S 0) (C 0) (S 1) (C 1) (S 2) (C 2) (S 3) (C 3)) FU ((0 : Int32), va_cpy m nc 0 0 49) = some y ∧ ∃ w, y = .inr (-2000000004, nI n, m, nI n, w, nI o, nI c, S 0, C 0, S 1, C 1, S 2, C 2, S 3, C 3) := by
        refine lp_inv (body := f_X9_multiply_L1 (nI i) a2 (nI n) m (nI n) (nI o) (nI c) (S 0) (C 0) (S 1) (C 1) (S 2) (C 2) (S 3) (C 3)) (fun s => ∃ j w, s = (nI j, w) ∧ j ≤ n ∧ ∀ q, q < j → ¬ (z (7 * i + q) * a2 < (-20 : Int32) ∨ (20 : Int32) < z (7 * i + q) * a2)) (fun s => n - s.1.toNatClampNeg) _ ?_ FU _ ⟨0, _, rfl, Nat.zero_le _, fun q hq => absurd hq (Nat.not_lt_zero _)⟩ (FU_lt (by show n - _ < 100000; omega))
        rintro s ⟨j, w, rfl, hj, hI⟩
        rw [f_X9_multiply_L1, f_X4_size, bs]
        by_cases ej : j = n
        · subst ej
          obtain ⟨q, hq, hq2⟩ := hall
          exact absurd hq2 (hI q hq)
        · rw [if_neg (nI_ge (by omega) (by omega)), at_n hi (by omega) h7, bs, pl_e, isEntry_n, min_n, bs, hcz _ (by omega)]
          by_cases eb : z (7 * i + j) * a2 < (-20 : Int32) ∨ (20 : Int32) < z (7 * i + j) * a2
          · right
            rw [if_pos (not_in.mpr eb)]
            exact ⟨_, rfl, w, rfl⟩
          · left
            rw [if_neg (fun h => eb (not_in.mp h)), put_n hi (by omega) h7, bs, pl_e]
            refine ⟨_, by rw [show nI j + (1 : Int32) = nI (j + 1) from nI_1 j], ⟨j + 1, _, rfl, by omega, fun q hq => ?_⟩, ?_⟩
            · by_cases eq : q = j
              · subst eq; exact eb
              · exact hI q (by omega)
            · show n - (nI (j + 1)).toNatClampNeg < n - (nI j).toNatClampNeg
              rw [nI_clamp (by omega), nI_clamp (by omega)]
              omega
      obtain ⟨y, hy, w, rfl⟩ := hL
      rw [hy, bs]
      have hR : ∃ k, k < 7 ∧ (z (7 * i + k) * a2 < (-20 : Int32) ∨ (20 : Int32) < z (7 * i + k) * a2) := by
        obtain ⟨q, hq, hq2⟩ := hall
        exact ⟨q, by omega, hq2⟩
      rcases lp_find (body := f_X10_multiply_L1 (nI i) a2 (nI c) z old past) (fun k => nI k) (fun k => z (7 * i + k) * a2 < (-20 : Int32) ∨ (20 : Int32) < z (7 * i + k) * a2) 7 (fun _ => .inr (-2000000004, nI c, z, old, past)) (.inl ()) (fun k hk hnp => by
        rw [f_X10_multiply_L1, if_neg (show ¬ (7 : Int32) ≤ nI k from nI_ge (b := 7) hk (by omega)), mat_n (by omega) hk, bs, min_n, bs, Int32.mul_comm, if_neg (fun h => hnp (not_in.mp h)), pl_e, show nI k + (1 : Int32) = nI (k + 1) from nI_1 k]) (fun k hk hp => by
        rw [f_X10_multiply_L1, if_neg (show ¬ (7 : Int32) ≤ nI k from nI_ge (b := 7) hk (by omega)), mat_n (by omega) hk, bs, min_n, bs, Int32.mul_comm, if_pos (not_in.mpr hp)]) (by
        rw [f_X10_multiply_L1, if_pos (show (7 : Int32) ≤ nI 7 by decide)]) (fuel := FU) (FU_lt (by omega)) with ⟨g1, g2⟩ | ⟨k, g1, g2, g3, g4⟩
      · obtain ⟨k, hk1, hk2⟩ := hR
        exact absurd hk2 (g1 k hk1)
      · have g4' : lpN (f_X10_multiply_L1 (nI i) a2 (nI c) z old past) FU (0 : Int32) = some (.inr (-2000000004, nI c, z, old, past)) := g4
        rw [g4', bs]
        exact hno _ _ _
    · have hok : ∀ q, q < 7 → ¬ (z (7 * i + q) * a2 < (-20 : Int32) ∨ (20 : Int32) < z (7 * i + q) * a2) := fun q hq hp => by
        by_cases e : q < n
        · exact hall ⟨q, e, hp⟩
        · exact hbad q hq (by omega) hp
      obtain ⟨y, hy, w, rfl, hw2⟩ := lp_cntE (body := f_X9_multiply_L1 (nI i) a2 (nI n) m (nI n) (nI o) (nI c) (S 0) (C 0) (S 1) (C 1) (S 2) (C 2) (S 3) (C 3)) (fun k w => ∀ r q, r < 7 → q < 7 → w (7 * r + q) = if r = i ∧ q < k then z (7 * r + q) * a2 else z (7 * r + q)) n (fun y => ∃ w, y = .inl w ∧ ∀ r q, r < 7 → q < 7 → w (7 * r + q) = if r = i ∧ q < n then z (7 * r + q) * a2 else z (7 * r + q)) (fun k w hk hI => by
        rw [f_X9_multiply_L1, f_X4_size, bs, if_neg (nI_ge hk (by omega)), at_n hi hk h7, bs, pl_e, isEntry_n, min_n, bs, hcz _ (by omega), if_neg (fun h => hok k (by omega) (not_in.mp h)), put_n hi hk h7, bs, pl_e]
        refine ⟨_, by rw [show nI k + (1 : Int32) = nI (k + 1) from nI_1 k], fun r q hr hq => ?_⟩
        rw [upd_at, hI r q hr hq]
        by_cases e : r = i ∧ q = k
        · obtain ⟨rfl, rfl⟩ := e
          rw [if_pos rfl, if_pos ⟨rfl, by omega⟩]
        · rw [if_neg (by omega)]
          by_cases e2 : r = i ∧ q < k
          · rw [if_pos e2, if_pos (by omega)]
          · rw [if_neg e2, if_neg (by omega)]) (fun w hI => by
        rw [f_X9_multiply_L1, f_X4_size, bs, if_pos (nI_le (Nat.le_refl _) (by omega))]
        exact ⟨_, rfl, w, rfl, hI⟩) (va_cpy m nc 0 0 49) (fun r q hr hq => by rw [if_neg (by omega), cpy49 _ _ (by omega), hcz _ (by omega)]) (by omega)
      have hy' : lpN (f_X9_multiply_L1 (nI i) a2 (nI n) m (nI n) (nI o) (nI c) (S 0) (C 0) (S 1) (C 1) (S 2) (C 2) (S 3) (C 3)) FU ((0 : Int32), va_cpy m nc 0 0 49) = some (.inl w) := hy
      rw [hy', bs]
      have hm1 : lpN (f_X10_multiply_L1 (nI i) a2 (nI c) z old past) FU (0 : Int32) = some (.inl ()) := by
        exact lp_run (body := f_X10_multiply_L1 (nI i) a2 (nI c) z old past) (fun k => nI k) 7 (.inl ()) (fun k hk => by
          rw [f_X10_multiply_L1, if_neg (show ¬ (7 : Int32) ≤ nI k from nI_ge (b := 7) hk (by omega)), mat_n (by omega) hk, bs, min_n, bs, Int32.mul_comm, if_neg (fun h => hok k hk (not_in.mp h)), pl_e, show nI k + (1 : Int32) = nI (k + 1) from nI_1 k]) (by
          rw [f_X10_multiply_L1, if_pos (show (7 : Int32) ≤ nI 7 by decide)]) (FU_lt (by omega))
      rw [hm1, bs, takeOld_n]
      simp only [bs]
      obtain ⟨z2, hz1, hz2, hz3⟩ := lp_cntE (body := f_X10_multiply_L2 (nI i) a2) (fun k w => (∀ r q, r < 7 → q < 7 → w (7 * r + q) = if r = i ∧ q < k then z (7 * r + q) * a2 else z (7 * r + q)) ∧ w 49 = nI n) 7 (fun w => (∀ r q, r < 7 → q < 7 → w (7 * r + q) = if r = i then z (7 * r + q) * a2 else z (7 * r + q)) ∧ w 49 = nI n) (fun k w hk hI => by
        rw [f_X10_multiply_L2, if_neg (show ¬ (7 : Int32) ≤ nI k from nI_ge (b := 7) hk (by omega))]
        simp (disch := omega) only [lit32, bs, pl_e, gd_okI, nI_leI, nI_ltI, nI_eq, nI_add, pk_mul, pk_sub, nI_m1', nI_clamp, if_pos, if_neg, ↓reduceIte]
        refine ⟨_, rfl, fun r q hr hq => ?_, by rw [upd_at, if_neg (by omega)]; exact hI.2⟩
        rw [upd_at, hI.1 r q hr hq]
        by_cases e : r = i ∧ q = k
        · obtain ⟨rfl, rfl⟩ := e
          rw [if_pos rfl, if_pos ⟨rfl, by omega⟩, hI.1 r q hr hq, if_neg (by omega)]
        · rw [if_neg (by omega)]
          by_cases e2 : r = i ∧ q < k
          · rw [if_pos e2, if_pos (by omega)]
          · rw [if_neg e2, if_neg (by omega)]) (fun w hI => by
        rw [f_X10_multiply_L2, if_pos (show (7 : Int32) ≤ nI 7 by decide)]
        refine ⟨w, rfl, fun r q hr hq => ?_, hI.2⟩
        rw [hI.1 r q hr hq]
        by_cases e : r = i
        · rw [if_pos e, if_pos ⟨e, hq⟩]
        · rw [if_neg e, if_neg (by omega)]) z ⟨fun r q hr hq => by rw [if_neg (by omega)], hz⟩ (by omega)
      have hz1' : lpN (f_X10_multiply_L2 (nI i) a2) FU ((0 : Int32), z) = some z2 := hz1
      rw [hz1', bs]
      have hM2 : Mx n w z2 := by
        refine ⟨h1, h7, ix49 (fun r q hr hq => ?_), hz3, fun r q hr hq hx => ?_, fun k hk => ?_⟩
        · rw [hw2 r q hr hq, hz2 r q hr hq]
          by_cases e : r = i
          · rw [if_pos e]
            by_cases e2 : q < n
            · rw [if_pos ⟨e, e2⟩]
            · rw [if_neg (by omega), h0 r q hr hq (by omega), Int32.zero_mul]
          · rw [if_neg e, if_neg (by omega)]
        · rw [hz2 r q hr hq, h0 r q hr hq hx, Int32.zero_mul]
          split <;> rfl
        · have := hz2 (k / 7) (k % 7) (by omega) (Nat.mod_lt _ (by omega))
          rw [show 7 * (k / 7) + k % 7 = k by omega] at this
          rw [this]
          by_cases e : k / 7 = i
          · rw [if_pos e]
            have hk2 := hok (k % 7) (Nat.mod_lt _ (by omega))
            rw [← e, show 7 * (k / 7) + k % 7 = k by omega] at hk2
            exact in20 (fun h => hk2 (Or.inl h)) (fun h => hk2 (Or.inr h))
          · rw [if_neg e]
            exact hb k hk
      obtain ⟨r, o', c', S', C', past', m', g1, g2, g3, g4⟩ := chgUnlike_n (old := va_cpy z old 0 0 50) hM hM2 hH (fun x hx => cpy50 _ _ hx)
      rw [g2]
      simp only [bs, g1]
      exact ⟨r, n, m', nI n, w, o', c', S', C', z2, _, past', rfl, rfl, g4, g3⟩
  · rw [has_no h h7, mline_no hz h1 h h7]
    exact hno _ _ _
theorem st_keep {n : Nat} {m z : Nat → Int32} (hM : Mx n m z) (hk : Int32) (ks : Int32) (kc kept : Nat → Int32) :
    ∃ kc' kept', f_X9_keep hk (nI n) m ks kc = some (nI n, 1, nI n, kc') ∧ f_X10_keep hk z kept = some (nI n, 1, kept') ∧ Mx n kc' kept' := by
  unfold f_X9_keep f_X10_keep
  simp only [copy_e, bs, f_X4_size]
  rw [show f_X10_copyRow 50 50 z kept (0 : Int32) (0 : Int32) (50 : Int32) = _ from copyRow_n (n1 := 50) (n3 := 50) (sp := 0) (dp := 0) (m := 50) z kept (by omega) (by omega) (by omega) (by omega), bs, gd_t (by decide), mz49 hM.2.2.2.1]
  exact ⟨_, _, rfl, rfl, hM.congr (fun k hk => cpy49 _ _ hk) (fun k hk => cpy50 _ _ hk)⟩
/-- the snapshot: whether there is one, and what it is -/
def KI (b : Bool) (ks : Int32) (kc kept : Nat → Int32) : Prop := b = true → ∃ n, ks = nI n ∧ Mx n kc kept
theorem st_restore {n o c : Nat} {S : Nat → Int32} {C : Nat → Nat → Int32} {past m z kc kept : Nat → Int32} {b : Bool} {ks : Int32} (hM : Mx n m z) (hH : HI o c S C past) (hK : KI b ks kc kept) (ns : Int32) (nc : Nat → Int32) :
    ∃ r n' m' ns' nc' o' c' S' C' z' past', f_X9_restore (b2i b) (nI n) m ns nc ks kc (nI o) (nI c) (S 0) (C 0) (S 1) (C 1) (S 2) (C 2) (S 3) (C 3) = some (r, nI n', m', ns', nc', nI o', nI c', S' 0, C' 0, S' 1, C' 1, S' 2, C' 2, S' 3, C' 3) ∧ f_X10_restore (nI c) (b2i b) z past kept = some (r, nI c', z', past') ∧ Mx n' m' z' ∧ HI o' c' S' C' past' := by
  unfold f_X9_restore f_X10_restore
  cases b with
  | false => exact ⟨-2000000005, n, m, ns, nc, o, c, S, C, z, past, rfl, rfl, hM, hH⟩
  | true =>
    obtain ⟨nk, rfl, hMk⟩ := hK rfl
    rw [if_neg (show ¬ b2i true = 0 by decide), if_neg (show ¬ b2i true = 0 by decide)]
    obtain ⟨o', c', S', C', past', m', g1, g2, g3, g4, g5⟩ := chgNext_n (n2 := nk) (nc := va_cpy kc nc 0 0 49) hM hH
    simp only [copy_e, bs, g1, g3, f_X4_size]
    rw [show f_X10_copyRow 50 50 kept z (0 : Int32) (0 : Int32) (50 : Int32) = _ from copyRow_n (n1 := 50) (n3 := 50) (sp := 0) (dp := 0) (m := 50) kept z (by omega) (by omega) (by omega) (by omega), bs, gd_t (by decide)]
    have hz2 : va_cpy kept z 0 0 50 49 = nI nk := by rw [cpy50 _ _ (by omega)]; exact hMk.2.2.2.1
    rw [mz49 hz2]
    exact ⟨nI nk, nk, m', nI nk, _, o', c', S', C', _, past', rfl, rfl, hMk.congr (fun k hk => by rw [g5 k hk, cpy49 _ _ hk]) (fun k hk => cpy50 _ _ hk), g4⟩
theorem st_undo {n o c : Nat} {S : Nat → Int32} {C : Nat → Nat → Int32} {past m z : Nat → Int32} (hM : Mx n m z) (hH : HI o c S C past) :
    ∃ r n' m' c' z', f_X9_undo (nI n) m (nI o) (nI c) (S 0) (C 0) (S 1) (C 1) (S 2) (C 2) (S 3) (C 3) = some (r, nI n', m', nI c') ∧ f_X10_undo (nI c) z past = some (r, nI c', z') ∧ Mx n' m' z' ∧ HI o c' S C past := by
  obtain ⟨ho, hc, hi⟩ := id hH
  unfold f_X9_undo f_X10_undo f_X3_count
  simp only [bs]
  by_cases e : c = 0
  · subst e
    rw [if_pos (show nI 0 = 0 from rfl), if_pos (show nI 0 = 0 from rfl)]
    exact ⟨_, n, m, 0, z, rfl, rfl, hM, hH⟩
  · have hne : ¬ nI c = 0 := nI_ne0 (by omega) (by omega)
    have hm1 : nI c - (1 : Int32) = nI (c - 1) := pk_sub (b := 1) (by omega)
    rw [if_neg hne, if_neg hne, pl_e, hm1]
    obtain ⟨n', g1, g2⟩ := hi (c - 1) (by omega)
    have hdesk : f_X3_takeLatest (nI o) (nI c) (S 0) (C 0) (S 1) (C 1) (S 2) (C 2) (S 3) (C 3) (nI n) m = some (nI (c - 1), nI n', va_cpy (C ((o + (c - 1)) % 4)) m 0 0 49) := by
      unfold f_X3_takeLatest
      rw [if_neg (show ¬ nI c ≤ 0 from nI_nle (by omega) (by omega)), pl_e, hm1, placeOf_n ho (by omega), bs]
      simp only [copy_e, bs]
      have e : (o + (c - 1)) % 4 = 0 ∨ (o + (c - 1)) % 4 = 1 ∨ (o + (c - 1)) % 4 = 2 ∨ (o + (c - 1)) % 4 = 3 := by omega
      rcases e with e | e | e | e <;> rw [e] at g1 ⊢ <;> rw [← g1] <;> simp (disch := omega) only [lit32, bs, pl_e, gd_okI, nI_leI, nI_ltI, nI_eq, nI_add, pk_mul, pk_sub, nI_m1', nI_clamp, if_pos, if_neg, ↓reduceIte]
    rw [hdesk, bs, show (50 : Int32) * nI (c - 1) = nI (50 * (c - 1)) from pk_mul 50 (c - 1), show f_X10_copyRow 200 50 past z (nI (50 * (c - 1))) (0 : Int32) (50 : Int32) = _ from copyRow_n (n1 := 200) (n3 := 50) (sp := 50 * (c - 1)) (dp := 0) (m := 50) past z (by omega) (by omega) (by omega) (by omega), bs]
    refine ⟨nI (c - 1), n', _, c - 1, _, rfl, rfl, g2.congr (fun k hk => cpy49 _ _ hk) (fun k hk => ?_), ho, by omega, fun i hi' => hi i (by omega)⟩
    show (if 0 ≤ k ∧ k < 0 + 50 then past (50 * (c - 1) + (k - 0)) else z k) = past (50 * (c - 1) + k)
    rw [if_pos (by omega), Nat.sub_zero]
