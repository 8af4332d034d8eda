/-! THE LAW'S METHODS: one more along a diagonal -/
/-- the greatest of the first i, and -20 -/
def gml (x : Nat → Int32) : Nat → Int32
  | 0 => -20
  | i + 1 => if x i ≤ gml x i then gml x i else x i
theorem gml_20 {x : Nat → Int32} {n : Nat} (hx : ∀ i, i < n → -20 ≤ (x i).toInt ∧ (x i).toInt ≤ 20) : (gml x n).toInt ≤ 20 ∧ (gml x n = (20 : Int32) ↔ ∃ i, i < n ∧ x i = (20 : Int32)) := by
  have e20 : (20 : Int32).toInt = 20 := by decide
  induction n with
  | zero =>
    refine ⟨by show (-20 : Int32).toInt ≤ 20; decide, ?_⟩
    constructor
    · intro h
      exact absurd h (by show ¬ (-20 : Int32) = 20; decide)
    · rintro ⟨i, hi, -⟩; omega
  | succ n ih =>
    obtain ⟨h1, h2⟩ := ih (fun i hi => hx i (by omega))
    have h3 := hx n (by omega)
    rw [gml]
    by_cases e : x n ≤ gml x n
    · rw [if_pos e]
      refine ⟨h1, ?_⟩
      rw [h2]
      constructor
      · rintro ⟨i, hi, h⟩; exact ⟨i, by omega, h⟩
      · rintro ⟨i, hi, h⟩
        by_cases ei : i = n
        · subst ei
          rw [Int32.le_iff_toInt_le, h, e20] at e
          exact h2.mp (Int32_eq_of (by rw [e20]; omega))
        · exact ⟨i, by omega, h⟩
    · rw [if_neg e]
      refine ⟨h3.2, ?_⟩
      constructor
      · intro h; exact ⟨n, by omega, h⟩
      · rintro ⟨i, hi, h⟩
        by_cases ei : i = n
        · subst ei; exact h
        · have h4 := h2.mpr ⟨i, by omega, h⟩
          rw [h4, Int32.le_iff_toInt_le, e20] at e
          omega
theorem aloop_c {n a : Nat} {m z : Nat → Int32} (h : Mx n m z) (ha : a < 2 ^ 31) (hv : VD a n) : lpN (f_L_add_L1 (nI n) m) FU (nI a, (0 : Int32), (-20 : Int32), nI n - (1 : Int32)) = some (sI (fun i => z (7 * (n - 1 - i) + dg a i)) n, gml (fun i => z (7 * (n - 1 - i) + dg a i)) n) := by
  obtain ⟨h1, h7, hcz, hz, h0, hb⟩ := id h
  have hL := lp_run (body := f_L_add_L1 (nI n) m) (fun i => (nI (a / 10 ^ i), sI (fun i => z (7 * (n - 1 - i) + dg a i)) i, gml (fun i => z (7 * (n - 1 - i) + dg a i)) i, rdn n i)) n (sI (fun i => z (7 * (n - 1 - i) + dg a i)) n, gml (fun i => z (7 * (n - 1 - i) + dg a i)) n) (fun i hi => by
    have hd := (hv.1 i hi).1
    rw [f_L_add_L1, if_neg (rdn_lt hi h7), show rdn n i = nI (n - 1 - i) by rw [rdn, if_pos hi], dig_rem ha, entry_c h (show n - 1 - i < n by omega) hd, bs, pl_e, ite_some, bs, pl_e, pl_e, dig_div ha, ← rdn_s hi h7, rdn, if_pos hi]
    rfl) (by
    rw [f_L_add_L1, if_pos (rdn_end n)]) (FU_lt (by omega))
  rw [rdn_0 h1]
  have e0 : nI (a / 10 ^ 0) = nI a := by rw [Nat.pow_zero, Nat.div_one]
  rw [← e0]
  exact hL
theorem sI_ones (f : Nat → Int32) (n : Nat) : sI (fun k => f k + 1) n = sI f n + nI n := by
  induction n with
  | zero => rfl
  | succ n ih => rw [sI, sI, ih, ← nI_1]; grind
theorem ladd_c {n o c y : Nat} {S : Nat → Int32} {C : Nat → Nat → Int32} {m z : Nat → Int32} (hM : Mx n m z) (hH : Hs o c S C) (hy : y < 2 ^ 31) (ns : Int32) (nc : Nat → Int32) (ln : Int32) (v : Nat → Int32) :
    ∃ r n' m' ns' nc' o' c' S' C' v', f_L_add (nI n) m ns nc (nI o) (nI c) (S 0) (C 0) (S 1) (C 1) (S 2) (C 2) (S 3) (C 3) ln v (nI y) = some (r, nI n', m', ns', nc', nI o', nI c', S' 0, C' 0, S' 1, C' 1, S' 2, C' 2, S' 3, C' 3, v') ∧ Ac n z c r n' m' o' c' S' C' := by
  have hM' := hM
  obtain ⟨h1, h7, hcz, hz, h0, hb⟩ := hM
  unfold f_L_add
  rw [total0_c, bs]
  rcases wholeDiagonal_c hM' v with ⟨p, v1, hp, h2⟩ | ⟨v0, h2⟩
  · by_cases e : (nI y - nI y / (2 : Int32) * (2 : Int32)) = 0
    · obtain ⟨hv, hlt, hdg⟩ := numL_VD h7 hp
      obtain ⟨pl1, pv⟩ := prm_range_mem hp

      rw [h2, bs]
      dsimp only
      rw [if_neg (nI_pos hlt), if_pos e, bs]
      dsimp only
      rw [pl_e, aloop_c hM' hlt hv, bs]
      dsimp only
      rw [total2_c hM', bs]
      have hdl : ∀ k, k < n → dg (numL p) (n - 1 - k) < n := fun k hk => (hv.1 _ (by omega)).1
      have hgx : ∀ i, i < n → -20 ≤ (z (7 * (n - 1 - i) + dg (numL p) i)).toInt ∧ (z (7 * (n - 1 - i) + dg (numL p) i)).toInt ≤ 20 := fun i hi => hb _ (by have := (hv.1 i hi).1; omega)
      have hg := (gml_20 hgx).2
      rcases add_c hM' hH hlt hv ns nc with ⟨⟨k, hk, d⟩, g1⟩ | ⟨d, nc', o', S', C', m', g1, g2, g3, g4⟩
      · rw [g1, bs]
        dsimp only
        rw [if_pos (hg.mpr ⟨n - 1 - k, by omega, by rw [show n - 1 - (n - 1 - k) = k by omega]; exact d⟩), if_pos rfl]
        exact ⟨_, n, m, _, _, o, c, S, C, _, rfl, hH, Or.inl ⟨rfl, rfl, rfl, hM'⟩⟩
      · rw [g1, bs]
        dsimp only
        have hsum : sI (fun k => z (7 * k + dg (numL p) (n - 1 - k)) + 1) n = sI (fun i => z (7 * (n - 1 - i) + dg (numL p) i)) n + nI n := by
          rw [sI_ones, ← sI_rev n (fun k => z (7 * k + dg (numL p) (n - 1 - k)))]
          congr 1
          exact sI_congr (fun i hi => by rw [show n - 1 - (n - 1 - i) = i by omega])
        rw [if_neg (fun hh => by
          obtain ⟨i, hi, hx⟩ := hg.mp hh
          have h9 := d (n - 1 - i) (by omega)
          rw [show n - 1 - (n - 1 - i) = i by omega, hx] at h9
          exact absurd h9 (by decide)), if_pos hsum, total2_c g4, bs, if_pos (total_add hM' hv)]
        obtain ⟨q, v2, hq, e2⟩ := best_c g4 v1 1
        have hb4 := g4.2.2.2.2.2
        rw [e2, bs]
        dsimp only
        rw [if_neg i10]
        have e3 : sI (fun k => z (7 * k + dg (numL p) (n - 1 - k)) + 1) n = iI (sq (mkz n (fun r q => if r < n ∧ q = dg (numL p) (n - 1 - r) then z (7 * r + q) + 1 else z (7 * r + q))) 0 p) := by
          rw [sq_sI, pl1]
          refine sI_congr (fun k hk => ?_)
          have hd := hdl k hk
          have hdk := hdg (n - 1 - k) (by omega)
          rw [show n - 1 - (n - 1 - k) = k by omega] at hdk
          rw [Nat.zero_add, ← hdk, mkz_at (by omega) (by omega), if_pos ⟨hk, rfl⟩]
        have hle := hq.le p hp
        obtain ⟨q1, q2⟩ := prm_range_mem hq.mem
        have b1 := sq_bd hb4 p 0 (by omega) (fun v hv2 => by have := pv v hv2; omega)
        have b2 := sq_bd hb4 q 0 (by omega) (fun v hv2 => by have := q2 v hv2; omega)
        rw [e3, if_neg (fun hh => by
          have h5 := (iI_lt (by omega) (by omega) (by omega) (by omega)).mp hh
          omega)]
        exact ⟨_, n, m', _, _, o', _, S', C', _, rfl, g2, Or.inr ⟨rfl, rfl, ⟨_, g4⟩, g3⟩⟩
    · have hlt0 := (numL_VD h7 hp).2.1
      rw [h2, bs]
      dsimp only
      rw [if_neg (nI_pos hlt0), if_neg e]
      obtain ⟨p, v1, hq0, e2⟩ := best_c hM' v1 0
      rw [if_pos rfl] at e2
      have hp := hq0.mem
      rw [e2, bs]
      dsimp only
      rw [bs]
      dsimp only
      obtain ⟨hv, hlt, hdg⟩ := numL_VD h7 hp
      obtain ⟨pl1, pv⟩ := prm_range_mem hp
      rw [pl_e, aloop_c hM' hlt hv, bs]
      dsimp only
      rw [total2_c hM', bs]
      have hdl : ∀ k, k < n → dg (numL p) (n - 1 - k) < n := fun k hk => (hv.1 _ (by omega)).1
      have hgx : ∀ i, i < n → -20 ≤ (z (7 * (n - 1 - i) + dg (numL p) i)).toInt ∧ (z (7 * (n - 1 - i) + dg (numL p) i)).toInt ≤ 20 := fun i hi => hb _ (by have := (hv.1 i hi).1; omega)
      have hg := (gml_20 hgx).2
      rcases add_c hM' hH hlt hv ns nc with ⟨⟨k, hk, d⟩, g1⟩ | ⟨d, nc', o', S', C', m', g1, g2, g3, g4⟩
      · rw [g1, bs]
        dsimp only
        rw [if_pos (hg.mpr ⟨n - 1 - k, by omega, by rw [show n - 1 - (n - 1 - k) = k by omega]; exact d⟩), if_pos rfl]
        exact ⟨_, n, m, _, _, o, c, S, C, _, rfl, hH, Or.inl ⟨rfl, rfl, rfl, hM'⟩⟩
      · rw [g1, bs]
        dsimp only
        have hsum : sI (fun k => z (7 * k + dg (numL p) (n - 1 - k)) + 1) n = sI (fun i => z (7 * (n - 1 - i) + dg (numL p) i)) n + nI n := by
          rw [sI_ones, ← sI_rev n (fun k => z (7 * k + dg (numL p) (n - 1 - k)))]
          congr 1
          exact sI_congr (fun i hi => by rw [show n - 1 - (n - 1 - i) = i by omega])
        rw [if_neg (fun hh => by
          obtain ⟨i, hi, hx⟩ := hg.mp hh
          have h9 := d (n - 1 - i) (by omega)
          rw [show n - 1 - (n - 1 - i) = i by omega, hx] at h9
          exact absurd h9 (by decide)), if_pos hsum, total2_c g4, bs, if_pos (total_add hM' hv)]
        obtain ⟨q, v2, hq, e2⟩ := best_c g4 v1 1
        have hb4 := g4.2.2.2.2.2
        rw [e2, bs]
        dsimp only
        rw [if_neg i10]
        have e3 : sI (fun k => z (7 * k + dg (numL p) (n - 1 - k)) + 1) n = iI (sq (mkz n (fun r q => if r < n ∧ q = dg (numL p) (n - 1 - r) then z (7 * r + q) + 1 else z (7 * r + q))) 0 p) := by
          rw [sq_sI, pl1]
          refine sI_congr (fun k hk => ?_)
          have hd := hdl k hk
          have hdk := hdg (n - 1 - k) (by omega)
          rw [show n - 1 - (n - 1 - k) = k by omega] at hdk
          rw [Nat.zero_add, ← hdk, mkz_at (by omega) (by omega), if_pos ⟨hk, rfl⟩]
        have hle := hq.le p hp
        obtain ⟨q1, q2⟩ := prm_range_mem hq.mem
        have b1 := sq_bd hb4 p 0 (by omega) (fun v hv2 => by have := pv v hv2; omega)
        have b2 := sq_bd hb4 q 0 (by omega) (fun v hv2 => by have := q2 v hv2; omega)
        rw [e3, if_neg (fun hh => by
          have h5 := (iI_lt (by omega) (by omega) (by omega) (by omega)).mp hh
          omega)]
        exact ⟨_, n, m', _, _, o', _, S', C', _, rfl, g2, Or.inr ⟨rfl, rfl, ⟨_, g4⟩, g3⟩⟩
  · rw [h2, bs]
    dsimp only
    rw [if_pos (by decide)]
    obtain ⟨p, v1, hq0, e2⟩ := best_c hM' v0 0
    rw [if_pos rfl] at e2
    have hp := hq0.mem
    rw [e2, bs]
    dsimp only
    rw [bs]
    dsimp only
    obtain ⟨hv, hlt, hdg⟩ := numL_VD h7 hp
    obtain ⟨pl1, pv⟩ := prm_range_mem hp
    rw [pl_e, aloop_c hM' hlt hv, bs]
    dsimp only
    rw [total2_c hM', bs]
    have hdl : ∀ k, k < n → dg (numL p) (n - 1 - k) < n := fun k hk => (hv.1 _ (by omega)).1
    have hgx : ∀ i, i < n → -20 ≤ (z (7 * (n - 1 - i) + dg (numL p) i)).toInt ∧ (z (7 * (n - 1 - i) + dg (numL p) i)).toInt ≤ 20 := fun i hi => hb _ (by have := (hv.1 i hi).1; omega)
    have hg := (gml_20 hgx).2
    rcases add_c hM' hH hlt hv ns nc with ⟨⟨k, hk, d⟩, g1⟩ | ⟨d, nc', o', S', C', m', g1, g2, g3, g4⟩
    · rw [g1, bs]
      dsimp only
      rw [if_pos (hg.mpr ⟨n - 1 - k, by omega, by rw [show n - 1 - (n - 1 - k) = k by omega]; exact d⟩), if_pos rfl]
      exact ⟨_, n, m, _, _, o, c, S, C, _, rfl, hH, Or.inl ⟨rfl, rfl, rfl, hM'⟩⟩
    · rw [g1, bs]
      dsimp only
      have hsum : sI (fun k => z (7 * k + dg (numL p) (n - 1 - k)) + 1) n = sI (fun i => z (7 * (n - 1 - i) + dg (numL p) i)) n + nI n := by
        rw [sI_ones, ← sI_rev n (fun k => z (7 * k + dg (numL p) (n - 1 - k)))]
        congr 1
        exact sI_congr (fun i hi => by rw [show n - 1 - (n - 1 - i) = i by omega])
      rw [if_neg (fun hh => by
        obtain ⟨i, hi, hx⟩ := hg.mp hh
        have h9 := d (n - 1 - i) (by omega)
        rw [show n - 1 - (n - 1 - i) = i by omega, hx] at h9
        exact absurd h9 (by decide)), if_pos hsum, total2_c g4, bs, if_pos (total_add hM' hv)]
      obtain ⟨q, v2, hq, e2⟩ := best_c g4 v1 1
      have hb4 := g4.2.2.2.2.2
      rw [e2, bs]
      dsimp only
      rw [if_neg i10]
      have e3 : sI (fun k => z (7 * k + dg (numL p) (n - 1 - k)) + 1) n = iI (sq (mkz n (fun r q => if r < n ∧ q = dg (numL p) (n - 1 - r) then z (7 * r + q) + 1 else z (7 * r + q))) 0 p) := by
        rw [sq_sI, pl1]
        refine sI_congr (fun k hk => ?_)
        have hd := hdl k hk
        have hdk := hdg (n - 1 - k) (by omega)
        rw [show n - 1 - (n - 1 - k) = k by omega] at hdk
        rw [Nat.zero_add, ← hdk, mkz_at (by omega) (by omega), if_pos ⟨hk, rfl⟩]
      have hle := hq.le p hp
      obtain ⟨q1, q2⟩ := prm_range_mem hq.mem
      have b1 := sq_bd hb4 p 0 (by omega) (fun v hv2 => by have := pv v hv2; omega)
      have b2 := sq_bd hb4 q 0 (by omega) (fun v hv2 => by have := q2 v hv2; omega)
      rw [e3, if_neg (fun hh => by
        have h5 := (iI_lt (by omega) (by omega) (by omega) (by omega)).mp hh
        omega)]
      exact ⟨_, n, m', _, _, o', _, S', C', _, rfl, g2, Or.inr ⟨rfl, rfl, ⟨_, g4⟩, g3⟩⟩
