/-! THE LAW'S METHODS: lines are exchanged -/
theorem xrows_c {n i j : Nat} {m z : Nat → Int32} (h : Mx n m z) (hi : i < n) (hj : j < n) : lpN (f_L_exchange_L1 0 (nI n) (nI i) (nI j) (nI n) m) FU ((0 : Int32), (0 : Int32)) = some (nI (2 * cntB (fun q => decide (¬ z (7 * i + q) = z (7 * j + q))) n)) := by
  have h7 := h.2.1
  exact lp_cnt (body := f_L_exchange_L1 0 (nI n) (nI i) (nI j) (nI n) m) (fun k => nI (2 * cntB (fun q => decide (¬ z (7 * i + q) = z (7 * j + q))) k)) n _ (fun k hk => by
    rw [f_L_exchange_L1, if_neg (nI_ge hk (by omega)), if_pos rfl, entry_c h hi hk, bs, entry_c h hj hk, bs, cntB]
    by_cases e : z (7 * i + k) = z (7 * j + k)
    · rw [if_pos e, bs, if_neg i10, pl_e, pl_e, nI_1, if_neg (by simpa using e)]
      congr 3
      show _ + nI 0 = _
      rw [nI_add]
      congr 1
    · rw [if_neg e, bs, if_pos rfl, pl_e, pl_e, nI_1, if_pos (by simpa using e)]
      congr 3
      show _ + nI 2 = _
      rw [nI_add]
      congr 1) (by
    rw [f_L_exchange_L1, if_pos (nI_le (Nat.le_refl _) (by omega))]) (by omega)
theorem xcols_c {n i j : Nat} {m z : Nat → Int32} (h : Mx n m z) (hi : i < n) (hj : j < n) : lpN (f_L_exchange_L1 1 (nI n) (nI i) (nI j) (nI n) m) FU ((0 : Int32), (0 : Int32)) = some (nI (2 * cntB (fun r => decide (¬ z (7 * r + i) = z (7 * r + j))) n)) := by
  have h7 := h.2.1
  exact lp_cnt (body := f_L_exchange_L1 1 (nI n) (nI i) (nI j) (nI n) m) (fun k => nI (2 * cntB (fun r => decide (¬ z (7 * r + i) = z (7 * r + j))) k)) n _ (fun k hk => by
    rw [f_L_exchange_L1, if_neg (nI_ge hk (by omega)), if_neg i10, entry_c h hk hi, bs, entry_c h hk hj, bs, cntB]
    by_cases e : z (7 * k + i) = z (7 * k + j)
    · rw [if_pos e, bs, if_neg i10, pl_e, pl_e, nI_1, if_neg (by simpa using e)]
      congr 3
      show _ + nI 0 = _
      rw [nI_add]
      congr 1
    · rw [if_neg e, bs, if_pos rfl, pl_e, pl_e, nI_1, if_pos (by simpa using e)]
      congr 3
      show _ + nI 2 = _
      rw [nI_add]
      congr 1) (by
    rw [f_L_exchange_L1, if_pos (nI_le (Nat.le_refl _) (by omega))]) (by omega)
theorem ite_some {α : Type} (p : Prop) [Decidable p] (a b : α) : (if p then some a else some b) = some (if p then a else b) := by split <;> rfl
theorem nI_if {k : Nat} (hk : k ≤ 100) : (if nI k = 0 then some (-2000000005 : Int32) else some (nI k)) = some (if k = 0 then (-2000000005 : Int32) else nI k) := by
  by_cases h : k = 0
  · subst h; rfl
  · rw [if_neg h, if_neg (nI_ne0 (by omega) (by omega))]
theorem cntB_le9 (P : Nat → Bool) {n : Nat} (hn : n ≤ 7) : 2 * cntB P n ≤ 14 := by
  have := cntB_le P n
  omega
theorem if_nI_eq {n i j : Nat} (hi : i < n) (hj : j < n) (hn : n ≤ 7) (x : Int64) : (if nI i = nI j then some x else some (-x)) = some (if i = j then x else -x) := by
  by_cases h : i = j
  · rw [if_pos h, if_pos (by rw [h])]
  · rw [if_neg h, if_neg (fun e => h (nI_inj (by omega) (by omega) e))]
theorem exchange_c {n o c y : Nat} {S : Nat → Int32} {C : Nat → Nat → Int32} {m z : Nat → Int32} (hM : Mx n m z) (hH : Hs o c S C) (hy : y < 2 ^ 31) (ns : Int32) (nc : Nat → Int32) (ln : Int32) (t : Nat → Int64) (v : Nat → Int32) (b : Bool) :
    ∃ r n' m' ns' nc' o' c' S' C' t' v', f_L_exchange (nI n) m ns nc (nI o) (nI c) (S 0) (C 0) (S 1) (C 1) (S 2) (C 2) (S 3) (C 3) ln t v (nI y) (b2i b) = some (r, nI n', m', ns', nc', nI o', nI c', S' 0, C' 0, S' 1, C' 1, S' 2, C' 2, S' 3, C' 3, t', v') ∧ Ac n z c r n' m' o' c' S' C' := by
  have hM' := hM
  obtain ⟨h1, h7, hcz, hz, h0, hb⟩ := hM
  obtain ⟨r1, r2, hr, hq⟩ := row_col h1 h7 hy
  generalize hi : y % n = i at r1 hr
  generalize hj : y / 7 % n = j at r2 hq
  unfold f_L_exchange
  rw [total0_c, bs, gd_t (nI_ne h1 h7), pl_e, gd_t (nI_ne h1 h7), pl_e, r1, r2]
  obtain ⟨t1, p1⟩ := permanent_c hM' t
  obtain ⟨t2, p2⟩ := determinant_c hM' t1
  obtain ⟨v1, p3⟩ := wholeDiagonals_c hM' v
  cases b with
  | false =>
    rw [show b2i false = 0 from rfl, xrows_c hM' hr hq, bs, p1, bs]
    dsimp only
    rw [p2, bs]
    dsimp only
    rw [p3, bs]
    dsimp only
    have hle := cntB_le9 (fun q => decide (¬ z (7 * i + q) = z (7 * j + q))) h7
    have hdu := du_rows hM' hr hq
    have e0 : f_X9_entry (nI n) m (nI i) (0 : Int32) = some (z (7 * i + 0)) := entry_c hM' hr (show 0 < n by omega)
    have e1 : ∀ {m' : Nat → Int32} {z' : Nat → Int32}, Mx n m' z' → f_X9_entry (nI n) m' (nI j) (0 : Int32) = some (z' (7 * j + 0)) := fun h => entry_c h hq (show 0 < n by omega)
    rw [if_pos rfl, e0, bs, bs, if_pos rfl, ← hdu]
    rw [← hdu] at hle
    rcases swapRows_c hM' hH hr hq ns nc with ⟨d, nc', g1⟩ | ⟨d, nc', o', S', C', m', g1, g2, g3, g4⟩
    · rw [g1, bs]
      dsimp only
      rw [bs]
      dsimp only
      have hs : ∀ q, q < n → z (7 * j + q) = z (7 * i + q) := fun q hq2 => by
        rw [d] at hdu
        have := cntB_zero (P := fun q => decide (¬ z (7 * i + q) = z (7 * j + q))) (n := n) (by omega) q hq2
        simpa using (by simpa using this : z (7 * i + q) = z (7 * j + q)).symm
      have hsz : ∀ k, k < 49 → mkz n (fun r q => z (7 * sw i j r + q)) k = z k := fun k hk => by
        have := cntB_zero (P := dn (mkz n (fun r q => z (7 * sw i j r + q))) z) (n := 49) d k hk
        unfold dn at this
        simpa using this
      have hMz : Mx n m (mkz n (fun r q => z (7 * sw i j r + q))) := hM'.congr (fun _ _ => rfl) (fun k hk => by
        by_cases e : k = 49
        · subst e; rw [mkz_49, hz]
        · exact hsz k (by omega))
      obtain ⟨t3, p4⟩ := permanent_c hMz t2
      obtain ⟨t4, p5⟩ := determinant_c hMz t3
      obtain ⟨v2, p6⟩ := wholeDiagonals_c hMz v1
      rw [d, nI_if (k := 0) (by decide), if_pos rfl, bs, if_pos rfl, p4, bs]
      dsimp only
      rw [if_pos (cmp_eq (PM_rows h7 hr hq)), p5, bs]
      dsimp only
      rw [if_nI_eq hr hq h7, bs, if_pos (cmp_eq (DT_rows h7 hr hq)), p6, bs]
      dsimp only
      rw [if_pos (WD_rows h7 hr hq), if_pos rfl, e1 hM', bs, bs, if_pos (hs 0 (by omega)), bs]
      dsimp only
      rw [if_neg i10, if_pos rfl]
      exact ⟨_, n, m, _, _, o, c, S, C, _, _, rfl, hH, Or.inl ⟨rfl, rfl, rfl, hM'⟩⟩
    · rw [g1, bs]
      dsimp only
      rw [bs]
      dsimp only
      obtain ⟨t3, p4⟩ := permanent_c g4 t2
      obtain ⟨t4, p5⟩ := determinant_c g4 t3
      obtain ⟨v2, p6⟩ := wholeDiagonals_c g4 v1
      rw [nI_if (Nat.le_trans hle (by decide)), if_neg d, bs, if_pos rfl, p4, bs]
      dsimp only
      rw [if_pos (cmp_eq (PM_rows h7 hr hq)), p5, bs]
      dsimp only
      rw [if_nI_eq hr hq h7, bs, if_pos (cmp_eq (DT_rows h7 hr hq)), p6, bs]
      dsimp only
      rw [if_pos (WD_rows h7 hr hq), if_pos rfl, e1 g4, bs, bs, if_pos (by
        rw [mkz_at (by omega) (by omega)]
        congr 1
        unfold sw
        by_cases e : j = i
        · rw [if_pos e, e]
        · rw [if_neg e, if_pos rfl]), bs]
      dsimp only
      rw [if_neg i10, if_neg (nN (by omega))]
      exact ⟨_, n, m', _, _, o', _, S', C', _, _, rfl, g2, Or.inr ⟨rfl, rfl, ⟨_, g4⟩, g3⟩⟩
  | true =>
    rw [show b2i true = 1 from rfl, xcols_c hM' hr hq, bs, p1, bs]
    dsimp only
    rw [p2, bs]
    dsimp only
    rw [p3, bs]
    dsimp only
    have hle := cntB_le9 (fun r => decide (¬ z (7 * r + i) = z (7 * r + j))) h7
    have hdu := du_cols hM' hr hq
    have e0 : f_X9_entry (nI n) m (0 : Int32) (nI i) = some (z (7 * 0 + i)) := entry_c hM' (show 0 < n by omega) hr
    have e1 : ∀ {m' : Nat → Int32} {z' : Nat → Int32}, Mx n m' z' → f_X9_entry (nI n) m' (0 : Int32) (nI j) = some (z' (7 * 0 + j)) := fun h => entry_c h (show 0 < n by omega) hq
    rw [if_neg i10, e0, bs, bs, if_neg i10, ← hdu]
    rw [← hdu] at hle
    rcases swapColumns_c hM' hH hr hq ns nc with ⟨d, nc', g1⟩ | ⟨d, nc', o', S', C', m', g1, g2, g3, g4⟩
    · rw [g1, bs]
      dsimp only
      rw [bs]
      dsimp only
      have hs : ∀ r, r < n → z (7 * r + j) = z (7 * r + i) := fun q hq2 => by
        rw [d] at hdu
        have := cntB_zero (P := fun r => decide (¬ z (7 * r + i) = z (7 * r + j))) (n := n) (by omega) q hq2
        simpa using (by simpa using this : z (7 * q + i) = z (7 * q + j)).symm
      have hsz : ∀ k, k < 49 → mkz n (fun r q => z (7 * r + sw i j q)) k = z k := fun k hk => by
        have := cntB_zero (P := dn (mkz n (fun r q => z (7 * r + sw i j q))) z) (n := 49) d k hk
        unfold dn at this
        simpa using this
      have hMz : Mx n m (mkz n (fun r q => z (7 * r + sw i j q))) := hM'.congr (fun _ _ => rfl) (fun k hk => by
        by_cases e : k = 49
        · subst e; rw [mkz_49, hz]
        · exact hsz k (by omega))
      obtain ⟨t3, p4⟩ := permanent_c hMz t2
      obtain ⟨t4, p5⟩ := determinant_c hMz t3
      obtain ⟨v2, p6⟩ := wholeDiagonals_c hMz v1
      rw [d, nI_if (k := 0) (by decide), if_pos rfl, bs, if_pos rfl, p4, bs]
      dsimp only
      rw [if_pos (cmp_eq (PM_cols h7 hr hq)), p5, bs]
      dsimp only
      rw [if_nI_eq hr hq h7, bs, if_pos (cmp_eq (DT_cols h7 hr hq)), p6, bs]
      dsimp only
      rw [if_pos (WD_cols h7 hr hq), if_neg i10, e1 hM', bs, bs, if_pos (hs 0 (by omega)), bs]
      dsimp only
      rw [if_neg i10, if_pos rfl]
      exact ⟨_, n, m, _, _, o, c, S, C, _, _, rfl, hH, Or.inl ⟨rfl, rfl, rfl, hM'⟩⟩
    · rw [g1, bs]
      dsimp only
      rw [bs]
      dsimp only
      obtain ⟨t3, p4⟩ := permanent_c g4 t2
      obtain ⟨t4, p5⟩ := determinant_c g4 t3
      obtain ⟨v2, p6⟩ := wholeDiagonals_c g4 v1
      rw [nI_if (Nat.le_trans hle (by decide)), if_neg d, bs, if_pos rfl, p4, bs]
      dsimp only
      rw [if_pos (cmp_eq (PM_cols h7 hr hq)), p5, bs]
      dsimp only
      rw [if_nI_eq hr hq h7, bs, if_pos (cmp_eq (DT_cols h7 hr hq)), p6, bs]
      dsimp only
      rw [if_pos (WD_cols h7 hr hq), if_neg i10, e1 g4, bs, bs, if_pos (by
        rw [mkz_at (by omega) (by omega)]
        congr 1
        unfold sw
        by_cases e : j = i
        · rw [if_pos e, e]
        · rw [if_neg e, if_pos rfl]), bs]
      dsimp only
      rw [if_neg i10, if_neg (nN (by omega))]
      exact ⟨_, n, m', _, _, o', _, S', C', _, _, rfl, g2, Or.inr ⟨rfl, rfl, ⟨_, g4⟩, g3⟩⟩
