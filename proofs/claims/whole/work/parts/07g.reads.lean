/-! MATHEMATICS: all sweeps, and what is read behind them -/
set_option maxRecDepth 100000 in
theorem okD_fin {x : UInt64} {s : Bool} {c : Nat} {q : Int} (h : FP.Core.decode FP.Core.b64 x.toNat = .fin s c q) : okD x ∧ x.toNat = s.toNat * 2 ^ 63 + x.toNat % 2 ^ 63 ∧ x.toNat % 2 ^ 63 = (if c < 2 ^ 52 then c else (q + 1074).toNat * 2 ^ 52 + c) := by
  obtain ⟨⟨f1, f2, f3, f4⟩, h3⟩ := fp_fits x h
  obtain ⟨e1, e2, -⟩ := fp_bits s (c := c) (q := q) ⟨f1, f2, f3, f4⟩
  have hx : x.toNat = s.toNat * 2048 * 2 ^ 52 + (if c < 2 ^ 52 then c else (q + 1074).toNat * 2 ^ 52 + c) := by
    have := congrArg UInt64.toNat h3
    rw [UInt64.toNat_ofNat_of_lt' (by simpa using e2), e1] at this
    exact this
  have hs : s.toNat ≤ 1 := by cases s <;> simp
  have hlow : (if c < 2 ^ 52 then c else (q + 1074).toNat * 2 ^ 52 + c) < 2047 * 2 ^ 52 := by split <;> omega
  clear e1 e2 h3 h
  generalize (if c < 2 ^ 52 then c else (q + 1074).toNat * 2 ^ 52 + c) = l at *
  have hm : x.toNat % 2 ^ 63 = l := by omega
  have hx2 : x.toNat = s.toNat * 2 ^ 63 + x.toNat % 2 ^ 63 := by
    rw [hm]
    rw [hx]
    exact congrArg (· + l) (Nat.mul_assoc _ _ _)
  refine ⟨?_, hx2, hm⟩
  show x &&& 0x7fffffffffffffff ≤ 0x7ff0000000000000
  rw [UInt64.le_iff_toNat_le, UInt64.toNat_and]
  have g1 : (0x7fffffffffffffff : UInt64).toNat = 2 ^ 63 - 1 := by decide
  have g2 : (0x7ff0000000000000 : UInt64).toNat = 2047 * 2 ^ 52 := by decide
  rw [g1, g2, Nat.and_two_pow_sub_one_eq_mod, hm]
  omega
theorem xor_top {l : Nat} (h : l < 2 ^ 63) : (2 ^ 63 + l) ^^^ 2 ^ 63 = l := by
  refine Nat.eq_of_testBit_eq (fun i => ?_)
  rw [Nat.testBit_xor, Nat.testBit_two_pow]
  rcases Nat.lt_trichotomy i 63 with h1 | h1 | h1
  · rw [Nat.testBit_two_pow_add_gt h1, decide_eq_false (by omega), Bool.xor_false]
  · subst h1
    rw [Nat.testBit_two_pow_add_eq, decide_eq_true rfl, Nat.testBit_lt_two_pow h]
    rfl
  · have h2 : 2 ^ 63 + l < 2 ^ i := Nat.lt_of_lt_of_le (show 2 ^ 63 + l < 2 ^ 64 by omega) (Nat.pow_le_pow_right (by omega) h1)
    rw [Nat.testBit_lt_two_pow h2, decide_eq_false (by omega), Nat.testBit_lt_two_pow (by omega)]
    rfl
theorem dneg_n {x : UInt64} {c : Nat} {q : Int} (h : FP.Core.decode FP.Core.b64 x.toNat = .fin true c q) : Pd (FP.dneg x) (c * 2 ^ (q + 1074).toNat) := by
  obtain ⟨-, h2, h3⟩ := okD_fin h
  have hF := (fp_fits x h).1
  obtain ⟨e1, e2, e3⟩ := fp_bits false hF
  have hlt : x.toNat % 2 ^ 63 < 2 ^ 63 := Nat.mod_lt _ (by omega)
  have : (FP.dneg x).toNat = FP.Core.encode FP.Core.b64 (.fin false c q) := by
    show (x ^^^ 0x8000000000000000).toNat = _
    rw [UInt64.toNat_xor, show (0x8000000000000000 : UInt64).toNat = 2 ^ 63 by decide, h2, show true.toNat * 2 ^ 63 = 2 ^ 63 from rfl, xor_top hlt, h3, e1]
    show _ = 0 * 2048 * 2 ^ 52 + _
    rw [Nat.zero_add]
  refine ⟨c, q, ?_, rfl⟩
  rw [this]
  exact e3
/-- the distance from one -/
theorem dsub1_n {x : UInt64} {a : Nat} (hx : Pd x a) (ha : a ≤ OO * 2 ^ 8) : okD (FP.dsub x FP.dconst1) ∧ ∃ y u, Pd y u ∧ (if 0 ≤ Op.cmpValue (FP.dcmp (FP.dsub x FP.dconst1) FP.dconst0) .g then some (FP.dsub x FP.dconst1) else some (FP.dneg (FP.dsub x FP.dconst1))) = some y := by
  obtain ⟨c, q, h1, h2⟩ := hx
  have hq := (fp_fits x h1).1.2.1
  have h3 : FP.Core.decode FP.Core.b64 FP.dconst1.toNat = .fin false (2 ^ 52) (-52) := by decide +kernel
  have hmx : OO * 2 ^ 8 ≤ MX := OO_mx (by omega)
  obtain ⟨e, he⟩ : ∃ e : Int, e = min q (-52) := ⟨_, rfl⟩
  have hem : ∀ e q : Int, -1074 ≤ q → e = min q (-52) → e ≤ q ∧ -1074 ≤ e ∧ e ≤ -52 := by
    intro e q h1 h2
    omega
  obtain ⟨he1, he2, he3⟩ := hem e q hq he
  obtain ⟨v, hv⟩ : ∃ v : Int, v = ((c * 2 ^ (q - e).toNat : Nat) : Int) - ((2 ^ 52 * 2 ^ (-52 - e).toNat : Nat) : Int) := ⟨_, rfl⟩
  have p1 := pow_cut (c := c) (q := q) (e := e) he1 he2
  have p2 := pow_cut (c := 2 ^ 52) (q := -52) (e := e) he3 he2
  rw [h2] at p1
  have p3 : 2 ^ 52 * 2 ^ ((-52 : Int) + 1074).toNat = OO := by
    rw [show ((-52 : Int) + 1074).toNat = 1022 from rfl, ← Nat.pow_add 2 52 1022]
    rfl
  rw [p3] at p2
  have hs : FP.Core.exactSum (.fin false c q) (FP.Core.negate (.fin false (2 ^ 52) (-52))) = .fin (FP.Core.sumSign false true v) v.natAbs e := by
    have e0 : FP.Core.exactSum (.fin false c q) (FP.Core.negate (.fin false (2 ^ 52) (-52))) = .fin (FP.Core.sumSign false true (FP.Core.sumUnits false c q true (2 ^ 52) (-52) (min q (-52)))) (FP.Core.sumUnits false c q true (2 ^ 52) (-52) (min q (-52))).natAbs (min q (-52)) := rfl
    have e1 : FP.Core.sumUnits false c q true (2 ^ 52) (-52) e = v := by
      rw [hv]
      unfold FP.Core.sumUnits FP.Core.signed FP.Core.inUnits
      generalize c * 2 ^ (q - e).toNat = x1
      generalize 2 ^ 52 * 2 ^ (-52 - e).toNat = y1
      simp only [↓reduceIte, Bool.false_eq_true]
      omega
    rw [e0, ← he, e1]
  have hd : FP.dsub x FP.dconst1 = UInt64.ofNat (FP.Core.encode FP.Core.b64 (FP.Core.roundRatio FP.Core.b64 (FP.Core.sumSign false true v) v.natAbs 1 e)) := by
    show UInt64.ofNat (FP.Core.encode FP.Core.b64 (FP.Core.round FP.Core.b64 (FP.Core.exactSum (FP.Core.decode FP.Core.b64 x.toNat) (FP.Core.negate (FP.Core.decode FP.Core.b64 FP.dconst1.toNat))))) = _
    rw [h1, h3, hs]
    rfl
  generalize c * 2 ^ (q - e).toNat = x1 at *
  generalize 2 ^ 52 * 2 ^ (-52 - e).toNat = y1 at *
  have hP := Nat.two_pow_pos (e + 1074).toNat
  have hX : v.natAbs * 2 ^ (e + 1074).toNat ≤ MX := by
    have h9 : v.natAbs ≤ x1 ∨ v.natAbs ≤ y1 := by omega
    have hOO : OO ≤ OO * 2 ^ 8 := Nat.le_mul_of_pos_right _ (Nat.two_pow_pos 8)
    rcases h9 with h9 | h9
    · have := Nat.mul_le_mul_right (2 ^ (e + 1074).toNat) h9
      rw [p1] at this
      omega
    · have := Nat.mul_le_mul_right (2 ^ (e + 1074).toNat) h9
      rw [p2] at this
      omega
  have hrel : v.natAbs * 1 * 2 ^ (e + 1074).toNat = v.natAbs * 2 ^ (e + 1074).toNat * 1 * 2 ^ 0 := by
    rw [Nat.pow_zero, Nat.mul_one, Nat.mul_one, Nat.mul_one]
  by_cases hneg : v < 0
  · have hsg : FP.Core.sumSign false true v = true := by
      unfold FP.Core.sumSign
      rw [if_neg (by omega)]
      exact decide_eq_true hneg
    have hApos : 0 < v.natAbs := by omega
    obtain ⟨m, t, r1, r2⟩ := fp_round (B := 1) (Y := 1) (β := 0) (α := (e + 1074).toNat) (e := e) true hApos (by omega) (by omega) (by omega) hrel
    have r3 := Rd_near (by omega) r2 (Or.inl rfl)
    obtain ⟨-, r4⟩ := Rd_le (k := 2096) (by omega) r2 (by rw [Nat.mul_one]; exact hX)
    obtain ⟨c', q', s1, s2, s3, -⟩ := fp_settle (s := true) (Rd_m (by omega) r2) (by omega) (Rd_big (by omega) r2)
    rw [hsg, r1, s1] at hd
    have hdec : FP.Core.decode FP.Core.b64 (FP.dsub x FP.dconst1).toNat = .fin true c' q' := by
      rw [hd]
      exact fp_of true s2
    have hc0 : 0 < c' := by
      refine Nat.pos_of_ne_zero (fun hc => ?_)
      rw [hc, Nat.zero_mul] at s3
      rw [← s3] at r3
      have := Nat.mul_pos hApos hP
      omega
    generalize FP.dsub x FP.dconst1 = w at *
    have hcmp : Op.cmpValue (FP.dcmp w FP.dconst0) .g = -1 := by
      have h0 : FP.Core.decode FP.Core.b64 FP.dconst0.toNat = .fin false 0 (-1074) := by decide +kernel
      have hq' := s2.2.1
      have e1 : FP.dcmp w FP.dconst0 = some (compare (-((c' * 2 ^ (q' - min q' (-1074)).toNat : Nat) : Int)) ((0 * 2 ^ (-1074 - min q' (-1074)).toNat : Nat) : Int)) := by
        show FP.Core.order (FP.Core.decode FP.Core.b64 w.toNat) (FP.Core.decode FP.Core.b64 FP.dconst0.toNat) = _
        rw [hdec, h0]
        rfl
      have hp : 0 < c' * 2 ^ (q' - min q' (-1074)).toNat := Nat.mul_pos hc0 (Nat.two_pow_pos _)
      rw [e1, Nat.zero_mul]
      generalize c' * 2 ^ (q' - min q' (-1074)).toNat = z1 at *
      have hc : compare (-(z1 : Int)) ((0 : Nat) : Int) = if (-(z1 : Int)) < ((0 : Nat) : Int) then .lt else if (-(z1 : Int)) = ((0 : Nat) : Int) then .eq else .gt := rfl
      rw [hc, if_pos (by omega)]
      rfl
    refine ⟨(okD_fin hdec).1, FP.dneg w, _, dneg_n hdec, ?_⟩
    rw [hcmp, if_neg (by decide)]
  · have hsg : FP.Core.sumSign false true v = false := by
      unfold FP.Core.sumSign
      split
      · rfl
      · exact decide_eq_false hneg
    obtain ⟨u, u1, -⟩ := fp_pd (A := v.natAbs) (B := 1) (Y := 1) (X := v.natAbs * 2 ^ (e + 1074).toNat) (α := (e + 1074).toNat) (β := 0) (e := e) (by omega) (by omega) (by omega) hrel (by rw [Nat.mul_one]; exact hX)
    rw [hsg] at hd
    rw [← hd] at u1
    refine ⟨u1.ok, _, u, u1, ?_⟩
    rw [if_pos ((dcmp_ge u1 Pd_0 _).mpr (Nat.zero_le _))]
/-- the states after the sweeps -/
def sqp (n : Nat) (s : (Nat → UInt64) × (Nat → UInt64) × (Nat → UInt64)) : (Nat → UInt64) × (Nat → UInt64) × (Nat → UInt64) := (hs n false (hs n true s.1), fS n true s.1 s.2.1, fS n false (hs n true s.1) s.2.2)
def sqs (n : Nat) (s : (Nat → UInt64) × (Nat → UInt64) × (Nat → UInt64)) : Nat → (Nat → UInt64) × (Nat → UInt64) × (Nat → UInt64)
  | 0 => s
  | j + 1 => sqp n (sqs n s j)
def Ag (n : Nat) (t s : (Nat → UInt64) × (Nat → UInt64) × (Nat → UInt64)) : Prop := AgC n t.1 s.1 ∧ AgF n t.2.1 s.2.1 ∧ AgF n t.2.2 s.2.2
theorem sqs_n {n : Nat} (hn : n ≤ 7) {s : (Nat → UInt64) × (Nat → UInt64) × (Nat → UInt64)} (h : Iv n 0 s.1 s.2.1 s.2.2) : ∀ j, j ≤ 50 → Iv n j (sqs n s j).1 (sqs n s j).2.1 (sqs n s j).2.2 := by
  intro j
  induction j with
  | zero => intro _; exact h
  | succ j ih =>
    intro hj
    exact (sweep_n hn (by omega) (ih (by omega))).2.2
theorem sweep5_n {n j : Nat} (hn : n ≤ 7) (hj : j < 50) {s : (Nat → UInt64) × (Nat → UInt64) × (Nat → UInt64)} (h : Iv n j s.1 s.2.1 s.2.2) {t r k : Nat → UInt64} (ht : Ag n (t, r, k) s) : ∃ t' r' k', f_X5_sweep (nI n) t r k = some (t', r', k') ∧ Ag n (t', r', k') (sqp n s) := by
  obtain ⟨g1, g2, -⟩ := sweep_n hn hj h
  obtain ⟨h1, h2, h3⟩ := ht
  obtain ⟨t1, r1, a1, a2, a3⟩ := rows5_n hn g1 h1 h2
  obtain ⟨t2, k2, b1, b2, b3⟩ := cols5_n hn g2 a2 h3
  unfold f_X5_sweep
  rw [a1, bs]
  dsimp only
  rw [b1, bs]
  exact ⟨t2, r1, k2, rfl, b2, a3, b3⟩
theorem sweeps5_n {n m : Nat} (hn : n ≤ 7) (hm : m ≤ 50) {s : (Nat → UInt64) × (Nat → UInt64) × (Nat → UInt64)} (h : Iv n 0 s.1 s.2.1 s.2.2) {t r k : Nat → UInt64} (ht : Ag n (t, r, k) s) : ∃ t' r' k', lpN (f_X9_scaleOrError_L1 (nI m) (nI n)) FU ((0 : Int32), t, r, k) = some (t', r', k') ∧ Ag n (t', r', k') (sqs n s m) := by
  obtain ⟨w, e1, e2⟩ := lp_cntE (body := f_X9_scaleOrError_L1 (nI m) (nI n)) (fun j (w : (Nat → UInt64) × (Nat → UInt64) × (Nat → UInt64)) => Ag n w (sqs n s j)) m (fun w => Ag n w (sqs n s m)) (fun j w hj hw => by
    obtain ⟨t, r, k⟩ := w
    obtain ⟨t', r', k', q1, q2⟩ := sweep5_n hn (by omega) (sqs_n hn h j (by omega)) hw
    rw [f_X9_scaleOrError_L1, if_neg (by rw [nI_leI (by omega) (by omega)]; omega), q1, bs]
    dsimp only
    rw [pl_e, nI_1]
    exact ⟨(t', r', k'), rfl, q2⟩) (fun w hw => by
    obtain ⟨t, r, k⟩ := w
    rw [f_X9_scaleOrError_L1, if_pos (by rw [nI_leI (by omega) (by omega)]; omega)]
    exact ⟨(t, r, k), rfl, hw⟩) (t, r, k) ht (by omega)
  exact ⟨w.1, w.2.1, w.2.2, e1, e2⟩
theorem sweeps10_n {z : Nat → Int32} {n m : Nat} (hz49 : z 49 = nI n) (hn : n ≤ 7) (hm : m ≤ 50) {s : (Nat → UInt64) × (Nat → UInt64) × (Nat → UInt64)} (h : Iv n 0 s.1 s.2.1 s.2.2) {t r k : Nat → UInt64} (ht : Ag n (t, r, k) s) : ∃ t' r' k', lpN (f_X10_sweep_L3 (nI m) z) FU ((0 : Int32), t, r, k) = some (t', r', k') ∧ Ag n (t', r', k') (sqs n s m) := by
  obtain ⟨w, e1, e2⟩ := lp_cntE (body := f_X10_sweep_L3 (nI m) z) (fun j (w : (Nat → UInt64) × (Nat → UInt64) × (Nat → UInt64)) => Ag n w (sqs n s j)) m (fun w => Ag n w (sqs n s m)) (fun j w hj hw => by
    obtain ⟨t, r, k⟩ := w
    obtain ⟨g1, g2, -⟩ := sweep_n hn (show j < 50 by omega) (sqs_n hn h j (by omega))
    obtain ⟨h1, h2, h3⟩ := hw
    obtain ⟨t1, r1, a1, a2, a3⟩ := rows10_n (g := k) hz49 hn g1 h1 h2
    obtain ⟨t2, k2, b1, b2, b3⟩ := cols10_n (g := r1) hz49 hn g2 a2 h3
    rw [f_X10_sweep_L3, if_neg (by rw [nI_leI (by omega) (by omega)]; omega)]
    dsimp only at a1 b1
    rw [a1, bs]
    dsimp only
    rw [b1, bs]
    dsimp only
    rw [pl_e, nI_1]
    exact ⟨(t2, r1, k2), rfl, b2, a3, b3⟩) (fun w hw => by
    obtain ⟨t, r, k⟩ := w
    rw [f_X10_sweep_L3, if_pos (by rw [nI_leI (by omega) (by omega)]; omega)]
    exact ⟨(t, r, k), rfl, hw⟩) (t, r, k) ht (by omega)
  exact ⟨w.1, w.2.1, w.2.2, e1, e2⟩
/-- the beginning -/
def s0 (z : Nat → Int32) : (Nat → UInt64) × (Nat → UInt64) × (Nat → UInt64) := (fun k => FP.i2d (z k), fun _ => FP.dconst1, fun _ => FP.dconst1)
theorem begin5_n {n : Nat} {c z : Nat → Int32} (hn : n ≤ 7) (hc : ∀ k, k < 49 → c k = z k) (ts : Int32) (t r k : Nat → UInt64) : ∃ t' r' k', f_X5_begin ts t r k (nI n) c = some (nI n, t', r', k') ∧ Ag n (t', r', k') (s0 z) := by
  unfold f_X5_begin f_X4_size
  have hsz : (if (7 : Int32) < nI n then (7 : Int32) else nI n) = nI n := by
    rw [if_neg]
    rw [show (7 : Int32) = nI 7 from rfl, nI_ltI (by omega) (by omega)]
    omega
  rw [bs, pl_e, hsz]
  obtain ⟨w, e1, e2⟩ := lp_cntE (body := f_X5_begin_L1 (nI n) (nI n) c) (fun j (w : (Nat → UInt64) × (Nat → UInt64) × (Nat → UInt64)) => (∀ i a, i < j → a < n → w.1 (7 * i + a) = FP.i2d (z (7 * i + a))) ∧ (∀ i, i < j → w.2.1 i = FP.dconst1) ∧ ∀ i, i < j → w.2.2 i = FP.dconst1) n (fun w => Ag n w (s0 z)) (fun j w hj hw => by
    obtain ⟨t, r, k⟩ := w
    dsimp only at hw
    obtain ⟨h1, h2, h3⟩ := hw
    obtain ⟨t', q1, q2⟩ := lp_cntE (body := f_X5_begin_L2 (nI j) (nI n) (nI n) c) (fun m (t' : Nat → UInt64) => ∀ i a, i < j + 1 → a < n → (i < j ∨ a < m) → t' (7 * i + a) = FP.i2d (z (7 * i + a))) n (fun t' => ∀ i a, i < j + 1 → a < n → t' (7 * i + a) = FP.i2d (z (7 * i + a))) (fun m t' hm ht => by
      rw [f_X5_begin_L2, if_neg (by rw [nI_leI (by omega) (by omega)]; omega), at_n hj hm hn, bs, show (nI j * (7 : Int32)) = nI (j * 7) from pk_mul j 7, nI_add, gd_okI (by omega) (by omega), nI_clamp (by omega), pl_e, pl_e, nI_1]
      refine ⟨_, rfl, fun i a hi ha hx => ?_⟩
      rw [vf_at]
      by_cases e : i = j ∧ a = m
      · obtain ⟨rfl, rfl⟩ := e
        rw [if_pos (by omega), hc _ (by omega)]
      · rw [if_neg (by omega)]
        exact ht i a hi ha (by omega)) (fun t' ht => by
      rw [f_X5_begin_L2, if_pos (by rw [nI_leI (by omega) (by omega)]; omega)]
      exact ⟨t', rfl, fun i a hi ha => ht i a hi ha (Or.inr ha)⟩) t (fun i a hi ha hx => h1 i a (by omega) ha) (by omega)
    change lpN _ FU ((0 : Int32), t) = _ at q1
    rw [f_X5_begin_L1, if_neg (by rw [nI_leI (by omega) (by omega)]; omega), gd_okI (by omega) (by omega), pl_e, gd_okI (by omega) (by omega), pl_e, q1, bs, pl_e, nI_1]
    simp (disch := omega) only [nI_clamp]
    refine ⟨(t', vf_upd r j FP.dconst1, vf_upd k j FP.dconst1), rfl, q2, fun i hi => ?_, fun i hi => ?_⟩
    · show vf_upd r j FP.dconst1 i = _
      rw [vf_at]
      by_cases e : i = j
      · rw [if_pos e]
      · rw [if_neg e]; exact h2 i (by omega)
    · show vf_upd k j FP.dconst1 i = _
      rw [vf_at]
      by_cases e : i = j
      · rw [if_pos e]
      · rw [if_neg e]; exact h3 i (by omega)) (fun w hw => by
    obtain ⟨t, r, k⟩ := w
    rw [f_X5_begin_L1, if_pos (by rw [nI_leI (by omega) (by omega)]; omega)]
    exact ⟨(t, r, k), rfl, fun i a hi ha => hw.1 i a hi ha, fun i hi => hw.2.1 i hi, fun i hi => hw.2.2 i hi⟩) (t, r, k) ⟨fun i a hi => absurd hi (by omega), fun i hi => absurd hi (by omega), fun i hi => absurd hi (by omega)⟩ (by omega)
  change lpN _ FU ((0 : Int32), t, r, k) = _ at e1
  rw [e1, bs]
  exact ⟨w.1, w.2.1, w.2.2, rfl, e2⟩
theorem begin10_n {n : Nat} (hn : n ≤ 7) (z : Nat → Int32) (t r k : Nat → UInt64) : ∃ t' r' k', lpN (f_X10_sweep_L1 z) FU ((0 : Int32), t) = some t' ∧ lpN f_X10_sweep_L2 FU ((0 : Int32), r, k) = some (r', k') ∧ Ag n (t', r', k') (s0 z) := by
  obtain ⟨t', q1, q2⟩ := lp_cntE (body := f_X10_sweep_L1 z) (fun j (w : Nat → UInt64) => ∀ i, i < j → w i = FP.i2d (z i)) 49 (fun w => ∀ i, i < 49 → w i = FP.i2d (z i)) (fun j w hj hw => by
    rw [f_X10_sweep_L1, if_neg (by rw [show (49 : Int32) = nI 49 from rfl, nI_leI (by omega) (by omega)]; omega), gd_okI (by omega) (by omega), gd_okI (by omega) (by omega), pl_e, pl_e, nI_1, nI_clamp (by omega)]
    refine ⟨_, rfl, fun i hi => ?_⟩
    rw [vf_at]
    by_cases e : i = j
    · rw [if_pos e, e]
    · rw [if_neg e]; exact hw i (by omega)) (fun w hw => by
    rw [f_X10_sweep_L1, if_pos (by decide)]
    exact ⟨w, rfl, hw⟩) t (fun i hi => absurd hi (by omega)) (by omega)
  obtain ⟨w, e1, e2, e3⟩ := lp_cntE (body := f_X10_sweep_L2) (fun j (w : (Nat → UInt64) × (Nat → UInt64)) => (∀ i, i < j → w.1 i = FP.dconst1) ∧ ∀ i, i < j → w.2 i = FP.dconst1) 7 (fun w => (∀ i, i < 7 → w.1 i = FP.dconst1) ∧ ∀ i, i < 7 → w.2 i = FP.dconst1) (fun j w hj hw => by
    obtain ⟨r, k⟩ := w
    obtain ⟨h2, h3⟩ := hw
    rw [f_X10_sweep_L2, if_neg (by rw [show (7 : Int32) = nI 7 from rfl, nI_leI (by omega) (by omega)]; omega), gd_okI (by omega) (by omega), pl_e, gd_okI (by omega) (by omega), pl_e, pl_e, nI_1]
    simp (disch := omega) only [nI_clamp]
    refine ⟨(vf_upd r j FP.dconst1, vf_upd k j FP.dconst1), rfl, fun i hi => ?_, fun i hi => ?_⟩
    · show vf_upd r j FP.dconst1 i = _
      rw [vf_at]
      by_cases e : i = j
      · rw [if_pos e]
      · rw [if_neg e]; exact h2 i (by omega)
    · show vf_upd k j FP.dconst1 i = _
      rw [vf_at]
      by_cases e : i = j
      · rw [if_pos e]
      · rw [if_neg e]; exact h3 i (by omega)) (fun w hw => by
    obtain ⟨r, k⟩ := w
    rw [f_X10_sweep_L2, if_pos (by decide)]
    exact ⟨(r, k), rfl, hw⟩) (r, k) ⟨fun i hi => absurd hi (by omega), fun i hi => absurd hi (by omega)⟩ (by omega)
  exact ⟨t', w.1, w.2, q1, e1, fun i a hi ha => q2 _ (by omega), fun i hi => e2 i (by omega), fun i hi => e3 i (by omega)⟩
theorem start_z {n : Nat} {c z : Nat → Int32} (h : Mx n c z) (ht : TS z n = true) : Iv n 0 (s0 z).1 (s0 z).2.1 (s0 z).2.2 := by
  obtain ⟨h1, hn, hc, hz49, h0, hz⟩ := h
  unfold TS at ht
  rw [Bool.and_eq_true, allB_t] at ht
  obtain ⟨t1, t2⟩ := ht
  have hW : ∀ k, k < 49 → z k = nI (z k).toInt.toNat := fun k hk => nn_nat t1 hk
  refine start_n (w := fun k => (z k).toInt.toNat) (fun r a hr ha => ⟨by have := hz (7 * r + a) (by omega); omega, ?_⟩) (fun b i hi => ?_) (fun _ _ => rfl) (fun _ _ => rfl)
  · show FP.i2d (z (7 * r + a)) = _
    rw [← hW _ (by omega)]
  · have := t2 i hi
    rw [Bool.and_eq_true] at this
    refine Decidable.byContradiction fun hcon => ?_
    have hall : ∀ k, k < n → (z (ix b i k)).toInt.toNat = 0 := fun k hk => Decidable.byContradiction fun hne => hcon ⟨k, hk, Nat.pos_of_ne_zero hne⟩
    have hz0 : ∀ k, k < n → z (ix b i k) = 0 := fun k hk => by
      have hlt : ix b i k < 49 := by
        cases b
        · show 7 * k + i < 49
          omega
        · show 7 * i + k < 49
          omega
      rw [hW _ hlt, hall k hk]
      rfl
    cases b
    · have e := of_decide_eq_true this.2
      change 0 < sI (fun k => z (ix false i k)) n at e
      rw [sI_zero' (fun k hk => hz0 k hk)] at e
      exact absurd e (by decide)
    · have e := of_decide_eq_true this.1
      change 0 < sI (fun k => z (ix true i k)) n at e
      rw [sI_zero' (fun k hk => hz0 k hk)] at e
      exact absurd e (by decide)
theorem isSweeps_n (x : Int32) : (x < 0 ∧ f_X10_isSweeps x = some 0) ∨ (¬ x < 0 ∧ ¬ x ≤ 50 ∧ f_X10_isSweeps x = some 0) ∨ ∃ m, m ≤ 50 ∧ x = nI m ∧ ¬ x < 0 ∧ x ≤ 50 ∧ f_X10_isSweeps x = some 1 := by
  unfold f_X10_isSweeps
  rw [min_n]
  by_cases h : x < 0
  · left
    rw [if_pos h]
    exact ⟨h, rfl⟩
  · right
    obtain ⟨m, h1, rfl⟩ := nI_of h
    rw [if_neg h]
    by_cases h2 : m ≤ 50
    · right
      have h3 : nI m ≤ (50 : Int32) := by
        rw [show (50 : Int32) = nI 50 from rfl, nI_leI h1 (by omega)]
        exact h2
      refine ⟨m, h2, rfl, h, h3, ?_⟩
      rw [if_neg (by rw [show (50 : Int32) = nI 50 from rfl, nI_ltI (by omega) h1]; omega)]
      rfl
    · left
      refine ⟨h, ?_, ?_⟩
      · rw [show (50 : Int32) = nI 50 from rfl, nI_leI h1 (by omega)]
        exact h2
      · rw [if_pos (by rw [show (50 : Int32) = nI 50 from rfl, nI_ltI (by omega) h1]; omega)]
        rfl
theorem scale_ok {n m : Nat} {c z : Nat → Int32} (h : Mx n c z) (ht : TS z n = true) (hm : m ≤ 50) (ts : Int32) (t r k t2 r2 k2 : Nat → UInt64) : ∃ s t' r' k' t2' r2' k2', Iv n m s.1 s.2.1 s.2.2 ∧ f_X9_scaleOrError (nI n) c ts t r k (nI m) = some ((0 : Int64), nI n, t', r', k') ∧ f_X10_sweep z t2 r2 k2 (nI m) = some (t2', r2', k2') ∧ Ag n (t', r', k') s ∧ Ag n (t2', r2', k2') s := by
  have hI := start_z h ht
  have hcan := canScale_n h
  obtain ⟨h1, hn, hc, hz49, h0, hz⟩ := h
  obtain ⟨t1, r1, k1, a1, a2⟩ := begin5_n hn hc ts t r k
  obtain ⟨t1', r1', k1', a3, a4, a5⟩ := begin10_n hn z t2 r2 k2
  obtain ⟨t', r', k', b1, b2⟩ := sweeps5_n hn hm hI a2
  obtain ⟨t2', r2', k2', b3, b4⟩ := sweeps10_n hz49 hn hm hI a5
  refine ⟨_, t', r', k', t2', r2', k2', sqs_n hn hI m hm, ?_, ?_, b2, b4⟩
  · unfold f_X9_scaleOrError
    rw [if_neg (nI_pos (by omega)), if_pos (by rw [show (50 : Int32) = nI 50 from rfl, nI_leI (by omega) (by omega)]; omega), hcan, ht, bs, if_neg (by decide), a1, bs]
    dsimp only
    rw [b1, bs]
  · unfold f_X10_sweep
    rw [a3, bs, a4, bs]
    dsimp only
    rw [b3, bs]
