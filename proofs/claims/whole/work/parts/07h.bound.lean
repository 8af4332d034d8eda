/-! MATHEMATICS: scaledBits, gapBits, boundBits -/
theorem scale_no {n : Nat} {c z : Nat → Int32} (h : Mx n c z) (ht : TS z n = false) {x : Int32} (h1 : ¬ x < 0) (h2 : x ≤ 50) (ts : Int32) (t r k : Nat → UInt64) : f_X9_scaleOrError (nI n) c ts t r k x = some ((-9000000000000000004 : Int64), ts, t, r, k) := by
  unfold f_X9_scaleOrError
  rw [if_neg h1, if_pos h2, canScale_n h, ht, bs]
  rfl
theorem scale_range {n : Nat} {c : Nat → Int32} {x : Int32} (h : x < 0 ∨ ¬ x ≤ 50) (ts : Int32) (t r k : Nat → UInt64) : f_X9_scaleOrError (nI n) c ts t r k x = some ((-9000000000000000002 : Int64), ts, t, r, k) := by
  unfold f_X9_scaleOrError
  by_cases h1 : x < 0
  · rw [if_pos h1]
  · rw [if_neg h1]
    rcases h with h | h
    · exact absurd h h1
    · rw [if_neg h]
theorem cmp0_r : ¬ lg_cmp (-9000000000000000002 : Int64) (0 : Int64) = 0 := by decide
theorem cmp0_p : ¬ lg_cmp (-9000000000000000004 : Int64) (0 : Int64) = 0 := by decide
theorem cmp0_0 : lg_cmp (0 : Int64) (0 : Int64) = 0 := by decide
theorem Iv.cl {n j : Nat} {C R K : Nat → UInt64} (h : Iv n j C R K) {r a : Nat} (hr : r < n) (ha : a < n) : Pd (C (7 * r + a)) (U (C (7 * r + a))) := (h.1 r a hr ha).1
theorem st_scaledBits {n : Nat} {c z : Nat → Int32} (h : Mx n c z) (ts : Int32) (t r k t2 r2 k2 : Nat → UInt64) (a1 a2 a3 : Int32) : ∃ v ts' t' r' k' t2' r2' k2', f_X9_scaledBits (nI n) c ts t r k a1 a2 a3 = some (v, ts', t', r', k') ∧ f_X10_scaledBits z t2 r2 k2 a1 a2 a3 = some (v, t2', r2', k2') := by
  have h1 := h.1
  have hn := h.2.1
  have hz49 := h.2.2.2.1
  unfold f_X9_scaledBits f_X10_scaledBits
  rcases line_cases n a1 with ⟨i, hi, rfl⟩ | hx
  · rw [has_n hi hn, mline_n hz49 hi hn, bs, bs, if_neg i10, if_neg i10]
    rcases line_cases n a2 with ⟨j, hj, rfl⟩ | hy
    · rw [has_n hj hn, mline_n hz49 hj hn, bs, bs, if_neg i10, if_neg i10]
      rcases isSweeps_n a3 with ⟨g1, g2⟩ | ⟨g1, g2, g3⟩ | ⟨m, hm, rfl, g1, g2, g3⟩
      · rw [scale_range (Or.inl g1), g2, bs, bs, bs, if_pos rfl, if_pos rfl]
        dsimp only
        rw [if_neg cmp0_r]
        exact ⟨_, _, _, _, _, _, _, _, rfl, rfl⟩
      · rw [scale_range (Or.inr g2), g3, bs, bs, bs, if_pos rfl, if_pos rfl]
        dsimp only
        rw [if_neg cmp0_r]
        exact ⟨_, _, _, _, _, _, _, _, rfl, rfl⟩
      · rw [g3, bs, bs, if_neg i10, if_neg i10, mcanScale_n hz49 hn, bs]
        cases ht : TS z n with
        | false =>
          rw [scale_no h ht g1 g2, bs, if_pos (show b2i false = 0 by decide)]
          dsimp only
          rw [if_neg cmp0_p]
          exact ⟨_, _, _, _, _, _, _, _, rfl, rfl⟩
        | true =>
          obtain ⟨s, t', r', k', t2', r2', k2', q1, q2, q3, q4, q5⟩ := scale_ok h ht hm ts t r k t2 r2 k2
          rw [q2, q3, bs, bs, if_neg (show ¬ b2i true = 0 by decide)]
          dsimp only
          rw [if_pos cmp0_0, at5_n hi hj hn, bs, show ((7 : Int32) * nI i) = nI (7 * i) from pk_mul 7 i, nI_add, gd_okI (by omega) (by omega)]
          simp (disch := omega) only [nI_clamp]
          have e1 : t' (7 * i + j) = s.1 (7 * i + j) := q4.1 i j hi hj
          have e2 : t2' (7 * i + j) = s.1 (7 * i + j) := q5.1 i j hi hj
          rw [e1, e2, X1_of_n (q1.cl hi hj), toLongBits_n (q1.cl hi hj), bs, bs]
          exact ⟨_, _, _, _, _, _, _, _, rfl, rfl⟩
    · rw [has_no hy hn, mline_no hz49 h1 hy hn, bs, bs, if_pos rfl, if_pos rfl]
      exact ⟨_, _, _, _, _, _, _, _, rfl, rfl⟩
  · rw [has_no hx hn, mline_no hz49 h1 hx hn, bs, bs, if_pos rfl, if_pos rfl]
    exact ⟨_, _, _, _, _, _, _, _, rfl, rfl⟩
/-- the greatest gap, on both sides -/
theorem gap_both {n m : Nat} {z : Nat → Int32} (hz49 : z 49 = nI n) (hn : n ≤ 7) {C R K : Nat → UInt64} (h : Iv n m C R K) {t t2 : Nat → UInt64} (ht : AgC n t C) (ht2 : AgC n t2 C) : ∃ y u, Pd y u ∧ lpN (f_X5_greatestGap_L1 (nI n) t) FU (FP.dconst0, (0 : Int32)) = some y ∧ lpN (f_X10_gapBits_L1 z t2) FU (FP.dconst0, (0 : Int32)) = some y := by
  have hH : (if m = 0 then 32 else 2) ≤ 32 := by split <;> omega
  have hsum : ∀ i, i < n → ∃ u, Pd (ln C true n i) u ∧ u ≤ OO * 2 ^ 8 ∧ f_X5_sumOfRow (nI n) t (nI i) = some (ln C true n i) ∧ f_X10_scaledSum z t2 (nI i) (0 : Int32) = some (ln C true n i) := by
    intro i hi
    have hs := sD_n (g := fun k => C (ix true i k)) hn hH (fun k hk => ⟨(h.1.ix true hi hk).1, (h.1.ix true hi hk).2.1⟩)
    have e1 : ∀ m, m ≤ n → sD (fun k => t (7 * i + k)) m = sD (fun k => C (ix true i k)) m := fun m hm => sD_congr (fun k hk => ht.ix true hi (by omega))
    have e2 : ∀ m, m ≤ n → sD (fun k => t2 (ix true i k)) m = sD (fun k => C (ix true i k)) m := fun m hm => sD_congr (fun k hk => ht2.ix true hi (by omega))
    obtain ⟨u, u1, u2, -⟩ := hs n (Nat.le_refl _)
    refine ⟨u, u1, ?_, ?_, ?_⟩
    · have hle : sN (fun k => U (C (ix true i k))) n ≤ 7 * (32 * OO) := by
        refine Nat.le_trans (sN_le (c := 32 * OO) (fun k hk => Nat.le_trans (h.1.ix true hi hk).2.1 (Nat.mul_le_mul_right _ hH))) (Nat.mul_le_mul_right _ hn)
      rw [show (2 : Nat) ^ 8 = 256 from rfl]
      generalize sN (fun k => U (C (ix true i k))) n = S at *
      generalize OO = o at *
      clear e1 e2 hs
      omega
    · rw [row5_n hi hn (fun m hm => by
        rw [e1 m hm]
        obtain ⟨u, u1, -⟩ := hs m hm
        exact ⟨u, u1⟩), e1 n (Nat.le_refl _)]
      rfl
    · have := sum10_n hz49 true hi hn (t := t2) (fun m hm => by
        rw [e2 m hm]
        obtain ⟨u, u1, -⟩ := hs m hm
        exact ⟨u, u1⟩)
      rw [e2 n (Nat.le_refl _)] at this
      exact this
  have key : ∀ j, j ≤ n → ∃ y u, Pd y u ∧ ∀ f1 f2, lpN (f_X5_greatestGap_L1 (nI n) t) (f1 + j) (FP.dconst0, (0 : Int32)) = lpN (f_X5_greatestGap_L1 (nI n) t) f1 (y, nI j) ∧ lpN (f_X10_gapBits_L1 z t2) (f2 + j) (FP.dconst0, (0 : Int32)) = lpN (f_X10_gapBits_L1 z t2) f2 (y, nI j) := by
    intro j
    induction j with
    | zero => intro _; exact ⟨FP.dconst0, 0, Pd_0, fun f1 f2 => ⟨rfl, rfl⟩⟩
    | succ j ih =>
      intro hj
      obtain ⟨y, u, y1, y2⟩ := ih (by omega)
      obtain ⟨s, s1, s2, s3, s4⟩ := hsum j (by omega)
      obtain ⟨d1, w, v, w1, w2⟩ := dsub1_n s1 s2
      have b1 : f_X5_greatestGap_L1 (nI n) t (y, nI j) = some (.inl (if Op.cmpValue (FP.dcmp w y) .l ≤ 0 then y else w, nI (j + 1))) := by
        rw [f_X5_greatestGap_L1, if_neg (by rw [nI_leI (by omega) (by omega)]; omega), s3, bs, gd_t d1, pl_e, w2, bs]
        split <;> rw [pl_e, nI_1]
      have b2 : f_X10_gapBits_L1 z t2 (y, nI j) = some (.inl (if Op.cmpValue (FP.dcmp w y) .l ≤ 0 then y else w, nI (j + 1))) := by
        rw [f_X10_gapBits_L1, gd_t (by decide), mz49 hz49, if_neg (by rw [nI_leI (by omega) (by omega)]; omega), s4, bs, gd_t d1, pl_e, w2, bs]
        split <;> rw [pl_e, nI_1]
      have hp : ∃ u, Pd (if Op.cmpValue (FP.dcmp w y) .l ≤ 0 then y else w) u := by
        split
        · exact ⟨u, y1⟩
        · exact ⟨v, w1⟩
      obtain ⟨u', hp⟩ := hp
      refine ⟨_, u', hp, fun f1 f2 => ?_⟩
      obtain ⟨g1, g2⟩ := y2 (f1 + 1) (f2 + 1)
      rw [show f1 + (j + 1) = f1 + 1 + j by omega, show f2 + (j + 1) = f2 + 1 + j by omega, g1, g2, lp_step b1, lp_step b2]
      exact ⟨rfl, rfl⟩
  obtain ⟨y, u, y1, y2⟩ := key n (Nat.le_refl _)
  refine ⟨y, u, y1, ?_⟩
  have hF : n + 1 ≤ FU := FU_lt (show n < 100000 by omega)
  obtain ⟨g1, g2⟩ := y2 (FU - n - 1 + 1) (FU - n - 1 + 1)
  rw [show FU - n - 1 + 1 + n = FU by omega] at g1 g2
  rw [g1, g2]
  refine ⟨lp_end ?_, lp_end ?_⟩
  · rw [f_X5_greatestGap_L1, if_pos (by rw [nI_leI (by omega) (by omega)]; omega)]
  · rw [f_X10_gapBits_L1, gd_t (by decide), mz49 hz49, if_pos (by rw [nI_leI (by omega) (by omega)]; omega)]
theorem st_gapBits {n : Nat} {c z : Nat → Int32} (h : Mx n c z) (ts : Int32) (t r k t2 r2 k2 : Nat → UInt64) (a1 : Int32) : ∃ v ts' t' r' k' t2' r2' k2', f_X9_gapBits (nI n) c ts t r k a1 = some (v, ts', t', r', k') ∧ f_X10_gapBits z t2 r2 k2 a1 = some (v, t2', r2', k2') := by
  have h1 := h.1
  have hn := h.2.1
  have hz49 := h.2.2.2.1
  unfold f_X9_gapBits f_X10_gapBits
  rcases isSweeps_n a1 with ⟨g1, g2⟩ | ⟨g1, g2, g3⟩ | ⟨m, hm, rfl, g1, g2, g3⟩
  · rw [scale_range (Or.inl g1), g2, bs, bs, bs, if_pos rfl, if_pos rfl]
    dsimp only
    rw [if_neg cmp0_r]
    exact ⟨_, _, _, _, _, _, _, _, rfl, rfl⟩
  · rw [scale_range (Or.inr g2), g3, bs, bs, bs, if_pos rfl, if_pos rfl]
    dsimp only
    rw [if_neg cmp0_r]
    exact ⟨_, _, _, _, _, _, _, _, rfl, rfl⟩
  · rw [g3, bs, bs, if_neg i10, if_neg i10, mcanScale_n hz49 hn, bs]
    cases ht : TS z n with
    | false =>
      rw [scale_no h ht g1 g2, bs, if_pos (show b2i false = 0 by decide)]
      dsimp only
      rw [if_neg cmp0_p]
      exact ⟨_, _, _, _, _, _, _, _, rfl, rfl⟩
    | true =>
      obtain ⟨s, t', r', k', t2', r2', k2', q1, q2, q3, q4, q5⟩ := scale_ok h ht hm ts t r k t2 r2 k2
      rw [q2, q3, bs, bs, if_neg (show ¬ b2i true = 0 by decide)]
      dsimp only
      obtain ⟨y, u, y1, y2, y3⟩ := gap_both hz49 hn q1 q4.1 q5.1
      dsimp only at y2 y3
      rw [if_pos cmp0_0]
      unfold f_X5_greatestGap
      rw [y2, y3, bs, bs, bs, X1_of_n y1, toLongBits_n y1, bs, bs]
      exact ⟨_, _, _, _, _, _, _, _, rfl, rfl⟩
/-- the product of the bound -/
def PB (n : Nat) : Nat → UInt64
  | 0 => FP.dconst1
  | j + 1 => FP.ddiv (FP.dmul (PB n j) (FP.i2d (nI (j + 1)))) (FP.i2d (nI n))
theorem i2d_pos {j : Nat} (h0 : 0 < j) (hj : j ≤ 7) : ∃ u, Pd (FP.i2d (nI j)) u ∧ 0 < u ∧ OO ≤ 2 * u ∧ u ≤ OO * 2 ^ 3 := by
  obtain ⟨u, u1, u2, u3⟩ := i2d_n (j := j) (by omega)
  have hO := OO_pos
  have h1 : 1 * OO ≤ j * OO := Nat.mul_le_mul_right _ h0
  have h2 : j * OO ≤ 7 * OO := Nat.mul_le_mul_right _ hj
  rw [show (2 : Nat) ^ 3 = 8 from rfl]
  generalize j * OO = P at *
  exact ⟨u, u1, by omega, by omega, by omega⟩
theorem PB_n {n : Nat} (h1 : 1 ≤ n) (hn : n ≤ 7) : ∀ j, j ≤ n → (∃ u, Pd (PB n j) u ∧ u ≤ OO * 2 ^ (4 * j)) ∧ (j < n → ∃ u, Pd (FP.dmul (PB n j) (FP.i2d (nI (j + 1)))) u) := by
  have key : ∀ j, j < n → ∀ u, Pd (PB n j) u → u ≤ OO * 2 ^ (4 * j) → ∃ v, Pd (FP.dmul (PB n j) (FP.i2d (nI (j + 1)))) v ∧ v ≤ OO * 2 ^ (4 * j + 3) := by
    intro j hj u p1 p2
    obtain ⟨a, a1, -, -, a4⟩ := i2d_pos (j := j + 1) (by omega) (by omega)
    obtain ⟨v, v1, v2, -⟩ := dmul_n p1 a1 p2 a4 (by omega)
    exact ⟨v, v1, v2⟩
  intro j
  induction j with
  | zero =>
    intro _
    have hp : Pd (PB n 0) OO := Pd_1
    refine ⟨⟨OO, hp, by rw [Nat.mul_zero, Nat.pow_zero]; omega⟩, fun hj => ?_⟩
    obtain ⟨v, v1, -⟩ := key 0 hj OO hp (by rw [Nat.mul_zero, Nat.pow_zero]; omega)
    exact ⟨v, v1⟩
  | succ j ih =>
    intro hj
    obtain ⟨⟨u, p1, p2⟩, -⟩ := ih (by omega)
    obtain ⟨v, v1, v2⟩ := key j (by omega) u p1 p2
    obtain ⟨b, b1, b2, b3, b4⟩ := i2d_pos h1 hn
    have hvb : v ≤ 2 ^ (4 * j + 4) * b := by
      calc v ≤ OO * 2 ^ (4 * j + 3) := v2
        _ ≤ 2 * b * 2 ^ (4 * j + 3) := Nat.mul_le_mul_right _ b3
        _ = 2 ^ (4 * j + 4) * b := by
          rw [Nat.pow_succ 2 (4 * j + 3)]
          ac_rfl
    obtain ⟨w, w1, w2, -⟩ := ddiv_n v1 b1 b2 (by
      calc v * OO ≤ 2 ^ (4 * j + 4) * b * OO := Nat.mul_le_mul_right _ hvb
        _ = OO * 2 ^ (4 * j + 4) * b := by
          generalize OO = o
          ac_rfl
        _ ≤ MX * b := Nat.mul_le_mul_right _ (OO_mx (by omega)))
    have hp : Pd (PB n (j + 1)) w := w1
    have hw : w ≤ OO * 2 ^ (4 * (j + 1)) := by
      rw [show 4 * (j + 1) = 4 * j + 4 by omega]
      exact w2 _ hvb
    refine ⟨⟨w, hp, hw⟩, fun hj2 => ?_⟩
    obtain ⟨v', v1', -⟩ := key (j + 1) hj2 w hp hw
    exact ⟨v', v1'⟩
def PF (x : UInt64) (F : Nat → UInt64) : Nat → UInt64
  | 0 => x
  | j + 1 => FP.dmul (PF x F j) (F j)
theorem PF_n {n T a u : Nat} {x : UInt64} {F : Nat → UInt64} (hx : Pd x u) (hu : u ≤ OO * 2 ^ a) (hF : Fc n F T) (hT : a + T ≤ 1022) : ∀ j, j ≤ n → ∃ v, Pd (PF x F j) v ∧ v ≤ OO * 2 ^ (a + T) := by
  obtain ⟨e, e1, e2⟩ := hF
  have hmono : ∀ j, j ≤ n → sN e j ≤ T := fun j hj => Nat.le_trans (sN_mono hj) e2
  have key : ∀ j, j ≤ n → ∃ v, Pd (PF x F j) v ∧ v ≤ OO * 2 ^ (a + sN e j) := by
    intro j
    induction j with
    | zero => intro _; exact ⟨u, hx, hu⟩
    | succ j ih =>
      intro hj
      obtain ⟨v, v1, v2⟩ := ih (by omega)
      obtain ⟨f, f1, f2⟩ := e1 j (by omega)
      have := hmono (j + 1) hj
      rw [sN] at this
      obtain ⟨w, w1, w2, -⟩ := dmul_n v1 f1 v2 f2 (by omega)
      refine ⟨w, w1, ?_⟩
      rw [sN, ← Nat.add_assoc]
      exact w2
  intro j hj
  obtain ⟨v, v1, v2⟩ := key j hj
  have := hmono j hj
  exact ⟨v, v1, Nat.le_trans v2 (Nat.mul_le_mul_left _ (Nat.pow_le_pow_right (by omega) (by omega)))⟩
theorem PF_congr {n : Nat} {x : UInt64} {F G : Nat → UInt64} (h : ∀ i, i < n → F i = G i) : ∀ j, j ≤ n → PF x F j = PF x G j := by
  intro j
  induction j with
  | zero => intro _; rfl
  | succ j ih =>
    intro hj
    rw [PF, PF, ih (by omega), h j (by omega)]
theorem bound5_L1 {n : Nat} (h1 : 1 ≤ n) (hn : n ≤ 7) : lpN (f_X5_bound_L1 (nI n)) FU (FP.dconst1, (1 : Int32)) = some (PB n n) := by
  have h := lp_run (body := f_X5_bound_L1 (nI n)) (fun j => (PB n j, nI (j + 1))) n (PB n n) (fun j hj => by
    obtain ⟨-, p2⟩ := PB_n h1 hn j (by omega)
    obtain ⟨u, u1⟩ := p2 hj
    obtain ⟨⟨v, v1, -⟩, -⟩ := PB_n h1 hn (j + 1) (by omega)
    rw [PB] at v1
    rw [f_X5_bound_L1, if_neg (by rw [nI_ltI (by omega) (by omega)]; omega), gd_t u1.ok, pl_e, gd_t v1.ok, pl_e, pl_e, nI_1]
    rfl) (by
    rw [f_X5_bound_L1, if_pos (by rw [nI_ltI (by omega) (by omega)]; omega)]) (fuel := FU) (FU_lt (by omega))
  exact h
theorem bound10_L1 {z : Nat → Int32} {n : Nat} (hz49 : z 49 = nI n) (h1 : 1 ≤ n) (hn : n ≤ 7) : lpN (f_X10_boundBits_L1 z) FU (FP.dconst1, (1 : Int32)) = some (PB n n) := by
  have h := lp_run (body := f_X10_boundBits_L1 z) (fun j => (PB n j, nI (j + 1))) n (PB n n) (fun j hj => by
    obtain ⟨-, p2⟩ := PB_n h1 hn j (by omega)
    obtain ⟨u, u1⟩ := p2 hj
    obtain ⟨⟨v, v1, -⟩, -⟩ := PB_n h1 hn (j + 1) (by omega)
    rw [PB] at v1
    rw [f_X10_boundBits_L1, gd_t (by decide), mz49 hz49, if_neg (by rw [nI_ltI (by omega) (by omega)]; omega), gd_t u1.ok, pl_e, gd_t (by decide), gd_t v1.ok, pl_e, pl_e, nI_1]
    rfl) (by
    rw [f_X10_boundBits_L1, gd_t (by decide), mz49 hz49, if_pos (by rw [nI_ltI (by omega) (by omega)]; omega)]) (fuel := FU) (FU_lt (by omega))
  exact h
theorem bound_fac {z : Nat → Int32} {n : Nat} (hz49 : z 49 = nI n) (hn : n ≤ 7) {x : UInt64} {F f f2 : Nat → UInt64} (hf : AgF n f F) (hf2 : AgF n f2 F) (hok : ∀ j, j ≤ n → ∃ v, Pd (PF x F j) v) : lpN (f_X5_bound_L2 (nI n) f) FU (x, (0 : Int32)) = some (PF x F n) ∧ lpN (f_X5_bound_L3 (nI n) f) FU (x, (0 : Int32)) = some (PF x F n) ∧ lpN (f_X10_boundBits_L2 z f2) FU (x, (0 : Int32)) = some (PF x F n) ∧ lpN (f_X10_boundBits_L3 z f2) FU (x, (0 : Int32)) = some (PF x F n) := by
  refine ⟨?_, ?_, ?_, ?_⟩
  · exact lp_cnt (body := f_X5_bound_L2 (nI n) f) (PF x F) n (PF x F n) (fun j hj => by
      obtain ⟨v, v1⟩ := hok (j + 1) (by omega)
      rw [PF] at v1
      rw [f_X5_bound_L2, if_neg (by rw [nI_leI (by omega) (by omega)]; omega), gd_okI (by omega) (by omega), nI_clamp (by omega), hf j hj, gd_t v1.ok, pl_e, pl_e, nI_1]
      rfl) (by
      rw [f_X5_bound_L2, if_pos (by rw [nI_leI (by omega) (by omega)]; omega)]) (by omega)
  · exact lp_cnt (body := f_X5_bound_L3 (nI n) f) (PF x F) n (PF x F n) (fun j hj => by
      obtain ⟨v, v1⟩ := hok (j + 1) (by omega)
      rw [PF] at v1
      rw [f_X5_bound_L3, if_neg (by rw [nI_leI (by omega) (by omega)]; omega), gd_okI (by omega) (by omega), nI_clamp (by omega), hf j hj, gd_t v1.ok, pl_e, pl_e, nI_1]
      rfl) (by
      rw [f_X5_bound_L3, if_pos (by rw [nI_leI (by omega) (by omega)]; omega)]) (by omega)
  · exact lp_cnt (body := f_X10_boundBits_L2 z f2) (PF x F) n (PF x F n) (fun j hj => by
      obtain ⟨v, v1⟩ := hok (j + 1) (by omega)
      rw [PF] at v1
      rw [f_X10_boundBits_L2, gd_t (by decide), mz49 hz49, if_neg (by rw [nI_leI (by omega) (by omega)]; omega), gd_okI (by omega) (by omega), nI_clamp (by omega), hf2 j hj, gd_t v1.ok, pl_e, pl_e, nI_1]
      rfl) (by
      rw [f_X10_boundBits_L2, gd_t (by decide), mz49 hz49, if_pos (by rw [nI_leI (by omega) (by omega)]; omega)]) (by omega)
  · exact lp_cnt (body := f_X10_boundBits_L3 z f2) (PF x F) n (PF x F n) (fun j hj => by
      obtain ⟨v, v1⟩ := hok (j + 1) (by omega)
      rw [PF] at v1
      rw [f_X10_boundBits_L3, gd_t (by decide), mz49 hz49, if_neg (by rw [nI_leI (by omega) (by omega)]; omega), gd_okI (by omega) (by omega), nI_clamp (by omega), hf2 j hj, gd_t v1.ok, pl_e, pl_e, nI_1]
      rfl) (by
      rw [f_X10_boundBits_L3, gd_t (by decide), mz49 hz49, if_pos (by rw [nI_leI (by omega) (by omega)]; omega)]) (by omega)
theorem st_boundBits {n : Nat} {c z : Nat → Int32} (h : Mx n c z) (ts : Int32) (t r k t2 r2 k2 : Nat → UInt64) (a1 : Int32) : ∃ v ts' t' r' k' t2' r2' k2', f_X9_boundBits (nI n) c ts t r k a1 = some (v, ts', t', r', k') ∧ f_X10_boundBits z t2 r2 k2 a1 = some (v, t2', r2', k2') := by
  have h1 := h.1
  have hn := h.2.1
  have hz49 := h.2.2.2.1
  unfold f_X9_boundBits f_X10_boundBits
  rcases isSweeps_n a1 with ⟨g1, g2⟩ | ⟨g1, g2, g3⟩ | ⟨m, hm, rfl, g1, g2, g3⟩
  · rw [scale_range (Or.inl g1), g2, bs, bs, bs, if_pos rfl, if_pos rfl]
    dsimp only
    rw [if_neg cmp0_r]
    exact ⟨_, _, _, _, _, _, _, _, rfl, rfl⟩
  · rw [scale_range (Or.inr g2), g3, bs, bs, bs, if_pos rfl, if_pos rfl]
    dsimp only
    rw [if_neg cmp0_r]
    exact ⟨_, _, _, _, _, _, _, _, rfl, rfl⟩
  · rw [g3, bs, bs, if_neg i10, if_neg i10, mcanScale_n hz49 hn, bs]
    cases ht : TS z n with
    | false =>
      rw [scale_no h ht g1 g2, bs, if_pos (show b2i false = 0 by decide)]
      dsimp only
      rw [if_neg cmp0_p]
      exact ⟨_, _, _, _, _, _, _, _, rfl, rfl⟩
    | true =>
      obtain ⟨s, t', r', k', t2', r2', k2', q1, q2, q3, q4, q5⟩ := scale_ok h ht hm ts t r k t2 r2 k2
      rw [q2, q3, bs, bs, if_neg (show ¬ b2i true = 0 by decide)]
      dsimp only
      rw [if_pos cmp0_0]
      obtain ⟨-, -, -, qR, qK⟩ := q1
      obtain ⟨-, p2, p3⟩ := q4
      obtain ⟨-, p5, p6⟩ := q5
      dsimp only at p2 p3 p5 p6
      obtain ⟨⟨u, u1, u2⟩, -⟩ := PB_n h1 hn n (Nat.le_refl _)
      have w1 := PF_n (a := 4 * n) u1 u2 qR (by split <;> omega)
      obtain ⟨v, v1, v2⟩ := w1 n (Nat.le_refl _)
      have w2 := PF_n v1 v2 qK (by split <;> omega)
      obtain ⟨b1, -, b3, -⟩ := bound_fac hz49 hn p2 p5 (fun j hj => by
        obtain ⟨v, v1, -⟩ := w1 j hj
        exact ⟨v, v1⟩)
      obtain ⟨-, b2, -, b4⟩ := bound_fac hz49 hn p3 p6 (fun j hj => by
        obtain ⟨v, v1, -⟩ := w2 j hj
        exact ⟨v, v1⟩)
      obtain ⟨y, y1, -⟩ := w2 n (Nat.le_refl _)
      unfold f_X5_bound
      rw [bound5_L1 h1 hn, bound10_L1 hz49 h1 hn, bs, bs, b1, b3, bs, bs, b2, b4, bs, bs, bs, X1_of_n y1, toLongBits_n y1, bs, bs]
      exact ⟨_, _, _, _, _, _, _, _, rfl, rfl⟩
