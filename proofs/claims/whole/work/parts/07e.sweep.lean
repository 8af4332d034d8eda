/-! MATHEMATICS: sweep after sweep -/
def fS (n : Nat) (b : Bool) (C F : Nat → UInt64) : Nat → UInt64 := fun i => FP.dmul (F i) (ln C b n i)
/-- factors, and the exponents that they may reach together -/
def Fc (n : Nat) (F : Nat → UInt64) (T : Nat) : Prop := ∃ e : Nat → Nat, (∀ i, i < n → ∃ u, Pd (F i) u ∧ u ≤ OO * 2 ^ e i) ∧ sN e n ≤ T
theorem fac_n {n T D : Nat} {b : Bool} {C F : Nat → UInt64} {x : Nat → Nat} (hF : Fc n F T) (hx : ∀ i, i < n → ∃ s, Pd (ln C b n i) s ∧ s ≤ OO * 2 ^ x i) (hD : sN x n ≤ D) (hT : T + D ≤ 1022) : (∀ i, i < n → ∃ u, Pd (FP.dmul (F i) (ln C b n i)) u) ∧ Fc n (fS n b C F) (T + D) := by
  obtain ⟨e, h1, h2⟩ := hF
  have key : ∀ i, i < n → ∃ u, Pd (FP.dmul (F i) (ln C b n i)) u ∧ u ≤ OO * 2 ^ (e i + x i) := by
    intro i hi
    obtain ⟨u, u1, u2⟩ := h1 i hi
    obtain ⟨s, s1, s2⟩ := hx i hi
    have b1 := le_sN (f := e) hi
    have b2 := le_sN (f := x) hi
    obtain ⟨v, v1, v2, -⟩ := dmul_n u1 s1 u2 s2 (by omega)
    exact ⟨v, v1, v2⟩
  refine ⟨fun i hi => ?_, fun i => e i + x i, key, ?_⟩
  · obtain ⟨u, u1, -⟩ := key i hi
    exact ⟨u, u1⟩
  · rw [sN_add2]
    omega
def eX (s : Nat) : Nat := if s ≤ OO then 0 else if s ≤ 2 * OO then 1 else if s ≤ 4 * OO then 2 else 3
theorem eX_n {s : Nat} (h : s ≤ 8 * OO) : s ≤ OO * 2 ^ eX s ∧ eX s * OO ≤ s := by
  unfold eX
  split
  · rw [Nat.pow_zero]; omega
  · split
    · rw [Nat.pow_one]; omega
    · split
      · rw [show 2 ^ 2 = 4 from rfl]; omega
      · rw [show 2 ^ 3 = 8 from rfl]; omega
theorem ix_not (b : Bool) (i k : Nat) : ix (!b) k i = ix b i k := by cases b <;> rfl
/-- where the other lines' sums are about 1, all sums together are no more than 8 -/
theorem sums_8 {n : Nat} {b : Bool} {C : Nat → UInt64} (hn : n ≤ 7) (hs : ∀ i, i < n → ∃ s, Pd (ln C b n i) s ∧ 1000 * s ≤ 1007 * sN (fun k => U (C (ix b i k))) n) (hq : ∀ k, k < n → 1000 * sN (fun i => U (C (ix (!b) k i))) n ≤ 1009 * OO) : sN (fun i => U (ln C b n i)) n ≤ 8 * OO := by
  have h1 : sN (fun i => 1000 * U (ln C b n i)) n ≤ sN (fun i => 1007 * sN (fun k => U (C (ix b i k))) n) n := sN_le_sum (fun i hi => by
    obtain ⟨s, s1, s2⟩ := hs i hi
    rw [s1.u]
    exact s2)
  rw [sN_mul, sN_mul, sN_swap] at h1
  have h2 : sN (fun k => 1000 * sN (fun i => U (C (ix b i k))) n) n ≤ n * (1009 * OO) := sN_le (fun k hk => by
    have := hq k hk
    rw [sN_congr (g := fun i => U (C (ix b i k))) (fun i _ => by rw [ix_not])] at this
    exact this)
  rw [sN_mul] at h2
  have h3 : n * (1009 * OO) ≤ 7 * (1009 * OO) := Nat.mul_le_mul_right _ hn
  generalize sN (fun k => sN (fun i => U (C (ix b i k))) n) n = S at *
  generalize sN (fun i => U (ln C b n i)) n = X at *
  generalize n * (1009 * OO) = Y at *
  omega
theorem exps_8 {n : Nat} {b : Bool} {C : Nat → UInt64} (hs : ∀ i, i < n → ∃ s, Pd (ln C b n i) s) (h8 : sN (fun i => U (ln C b n i)) n ≤ 8 * OO) : ∃ x : Nat → Nat, (∀ i, i < n → ∃ s, Pd (ln C b n i) s ∧ s ≤ OO * 2 ^ x i) ∧ sN x n ≤ 8 := by
  have hle : ∀ i, i < n → U (ln C b n i) ≤ 8 * OO := fun i hi => Nat.le_trans (le_sN (f := fun i => U (ln C b n i)) hi) h8
  refine ⟨fun i => eX (U (ln C b n i)), fun i hi => ?_, ?_⟩
  · obtain ⟨s, s1⟩ := hs i hi
    exact ⟨_, s1.uu, (eX_n (hle i hi)).1⟩
  · refine Nat.le_of_mul_le_mul_right (c := OO) ?_ OO_pos
    refine Nat.le_trans ?_ h8
    rw [Nat.mul_comm, ← sN_mul]
    refine sN_le_sum (fun i hi => ?_)
    rw [Nat.mul_comm]
    exact (eX_n (hle i hi)).2
theorem Cl.mono {n H L H' L' : Nat} {C : Nat → UInt64} (h : Cl n H L C) (hH : H ≤ H') (hL : L ≤ L') : Cl n H' L' C := fun r a hr ha => by
  obtain ⟨h1, h2, h3⟩ := h r a hr ha
  refine ⟨h1, Nat.le_trans h2 (Nat.mul_le_mul_right _ hH), ?_⟩
  rcases h3 with h3 | h3
  · exact Or.inl h3
  · exact Or.inr (Nat.le_trans h3 (Nat.mul_le_mul_left _ (Nat.pow_le_pow_right (by omega) hL)))
/-- what the loops of a half sweep need -/
def Gd (n : Nat) (b : Bool) (C F : Nat → UInt64) : Prop := ∀ i, i < n → (∀ m, m ≤ n → ∃ u, Pd (sD (fun k => C (ix b i k)) m) u) ∧ (∃ s, Pd (ln C b n i) s ∧ 0 < s) ∧ (∀ k, k < n → ∃ u, Pd (FP.ddiv (C (ix b i k)) (ln C b n i)) u) ∧ ∃ u, Pd (FP.dmul (F i) (ln C b n i)) u
def NZ (n : Nat) (C : Nat → UInt64) : Prop := ∀ b i, i < n → ∃ k, k < n ∧ ¬ U (C (ix b i k)) = 0
/-- the state after j sweeps -/
def Iv (n j : Nat) (C R K : Nat → UInt64) : Prop := Cl n (if j = 0 then 32 else 2) (1 + 15 * j) C ∧ NZ n C ∧ (0 < j → ∀ a, a < n → 1000 * sN (fun r => U (C (ix false a r))) n ≤ 1009 * OO) ∧ Fc n R (if j = 0 then 0 else 56 + 8 * j) ∧ Fc n K (8 * j)
theorem NZ_hs {n H L d : Nat} {b : Bool} {C : Nat → UInt64} (h : NZ n C) (hz : ∀ i k, i < n → k < n → (U (hs n b C (ix b i k)) = 0 ↔ U (C (ix b i k)) = 0)) : NZ n (hs n b C) := by
  intro b' i hi
  obtain ⟨k, hk, hk2⟩ := h b' i hi
  refine ⟨k, hk, fun hc => hk2 ?_⟩
  by_cases e : b' = b
  · subst e
    exact (hz i k hi hk).mp hc
  · have e2 : b' = !b := by
      cases b <;> cases b' <;> simp_all
    subst e2
    rw [ix_not] at hc ⊢
    exact (hz k i hk hi).mp hc
theorem sweep_n {n j : Nat} {C R K : Nat → UInt64} (hn : n ≤ 7) (hj : j < 50) (h : Iv n j C R K) : Gd n true C R ∧ Gd n false (hs n true C) K ∧ Iv n (j + 1) (hs n false (hs n true C)) (fS n true C R) (fS n false (hs n true C) K) := by
  obtain ⟨h1, h2, h3, h4, h5⟩ := h
  -- rows
  have hrow : ∃ d, 7 * 1007 * (if j = 0 then 32 else 2) ≤ 1000 * 2 ^ d ∧ (if j = 0 then d = 8 else d = 4) := by
    by_cases e : j = 0
    · exact ⟨8, by rw [if_pos e]; decide, by rw [if_pos e]⟩
    · exact ⟨4, by rw [if_neg e]; decide, by rw [if_neg e]⟩
  obtain ⟨d, d1, d2⟩ := hrow
  have hd8 : d ≤ 8 := by
    by_cases e : j = 0
    · rw [if_pos e] at d2; omega
    · rw [if_neg e] at d2; omega
  obtain ⟨a1, a2, a3, a4⟩ := half_n (b := true) hn (by split <;> omega) d1 (by omega) h1 (fun i hi => h2 true i hi)
  have hfac1 : ∃ x D, (∀ i, i < n → ∃ s, Pd (ln C true n i) s ∧ s ≤ OO * 2 ^ x i) ∧ sN x n ≤ D ∧ (if j = 0 then 0 else 56 + 8 * j) + D ≤ 56 + 8 * (j + 1) := by
    by_cases e : j = 0
    · refine ⟨fun _ => d, 56, fun i hi => ?_, ?_, ?_⟩
      · obtain ⟨-, s, s1, -, s3, -⟩ := a1 i hi
        exact ⟨s, s1, s3⟩
      · have := sN_le (f := fun _ => d) (n := n) (c := 8) (fun _ _ => hd8)
        omega
      · rw [if_pos e]; omega
    · obtain ⟨x, x1, x2⟩ := exps_8 (b := true) (fun i hi => by
        obtain ⟨-, s, s1, -⟩ := a1 i hi
        exact ⟨s, s1⟩) (sums_8 (b := true) hn (fun i hi => by
        obtain ⟨-, s, s1, -, -, s4⟩ := a1 i hi
        exact ⟨s, s1, s4⟩) (fun k hk => h3 (by omega) k hk))
      exact ⟨x, 8, x1, x2, by rw [if_neg e]; omega⟩
  obtain ⟨x, D, x1, x2, x3⟩ := hfac1
  obtain ⟨f1, f2⟩ := fac_n h4 x1 x2 (by omega)
  have hnz1 : NZ n (hs n true C) := NZ_hs (H := 0) (L := 0) (d := 0) h2 a3
  -- columns
  obtain ⟨c1, c2, c3, c4⟩ := half_n (b := false) (d := 4) hn (by omega) (by decide) (by omega) a2 (fun i hi => hnz1 false i hi)
  obtain ⟨y, y1, y2⟩ := exps_8 (b := false) (fun i hi => by
    obtain ⟨-, s, s1, -⟩ := c1 i hi
    exact ⟨s, s1⟩) (sums_8 (b := false) hn (fun i hi => by
    obtain ⟨-, s, s1, -, -, s4⟩ := c1 i hi
    exact ⟨s, s1, s4⟩) (fun k hk => a4 k hk))
  obtain ⟨g1, g2⟩ := fac_n h5 y1 y2 (by omega)
  have mk_gd : ∀ (b : Bool) (C F : Nat → UInt64) (L d : Nat), (∀ i, i < n → (∀ m, m ≤ n → ∃ u, Pd (sD (fun k => C (ix b i k)) m) u) ∧ ∃ s, Pd (ln C b n i) s ∧ 0 < s ∧ s ≤ OO * 2 ^ d ∧ 1000 * s ≤ 1007 * sN (fun k => U (C (ix b i k))) n) → Cl n 2 L (hs n b C) → (∀ i, i < n → ∃ u, Pd (FP.dmul (F i) (ln C b n i)) u) → Gd n b C F := by
    intro b C F L d p1 p2 p3 i hi
    obtain ⟨q1, s, q2, q3, -⟩ := p1 i hi
    refine ⟨q1, ⟨s, q2, q3⟩, fun k hk => ?_, p3 i hi⟩
    have := (p2.ix b hi hk).1
    rw [hs_ix (by omega) (by omega)] at this
    exact ⟨_, this⟩
  refine ⟨mk_gd true C R _ _ a1 a2 f1, mk_gd false _ K _ _ c1 c2 g1, ?_, NZ_hs (H := 0) (L := 0) (d := 0) hnz1 c3, fun _ => c4, ?_, ?_⟩
  · refine c2.mono (by split <;> omega) ?_
    by_cases e : j = 0
    · rw [if_pos e] at d2; omega
    · rw [if_neg e] at d2; omega
  · obtain ⟨e, e1, e2⟩ := f2
    refine ⟨e, e1, ?_⟩
    rw [if_neg (by omega)]
    omega
  · obtain ⟨e, e1, e2⟩ := g2
    exact ⟨e, e1, by omega⟩
/-- the first state -/
theorem start_n {n : Nat} {C R K : Nat → UInt64} {w : Nat → Nat} (hw : ∀ r a, r < n → a < n → w (7 * r + a) ≤ 20 ∧ C (7 * r + a) = FP.i2d (nI (w (7 * r + a)))) (hnz : ∀ b i, i < n → ∃ k, k < n ∧ 0 < w (ix b i k)) (hR : ∀ i, i < n → R i = FP.dconst1) (hK : ∀ i, i < n → K i = FP.dconst1) : Iv n 0 C R K := by
  have hc : ∀ r a, r < n → a < n → ∃ u, Pd (C (7 * r + a)) u ∧ 1023 * (w (7 * r + a) * OO) ≤ 1024 * u ∧ 1023 * u ≤ 1024 * (w (7 * r + a) * OO) := fun r a hr ha => by
    obtain ⟨h1, h2⟩ := hw r a hr ha
    rw [h2]
    exact i2d_n (by omega)
  have h1O := OO_pos
  refine ⟨fun r a hr ha => ?_, fun b i hi => ?_, fun h => absurd h (by omega), ⟨fun _ => 0, fun i hi => ⟨OO, by rw [hR i hi]; exact Pd_1, by rw [Nat.pow_zero]; omega⟩, ?_⟩, ⟨fun _ => 0, fun i hi => ⟨OO, by rw [hK i hi]; exact Pd_1, by rw [Nat.pow_zero]; omega⟩, ?_⟩⟩
  · obtain ⟨u, u1, u2, u3⟩ := hc r a hr ha
    rw [if_pos rfl, u1.u]
    have hw20 := (hw r a hr ha).1
    have h20 : w (7 * r + a) * OO ≤ 20 * OO := Nat.mul_le_mul_right _ hw20
    refine ⟨u1, by omega, ?_⟩
    by_cases e : w (7 * r + a) = 0
    · rw [e, Nat.zero_mul] at u3
      left; omega
    · have : 1 * OO ≤ w (7 * r + a) * OO := Nat.mul_le_mul_right _ (by omega)
      right
      rw [Nat.mul_zero, Nat.add_zero, Nat.pow_one]
      omega
  · obtain ⟨k, hk, hk2⟩ := hnz b i hi
    refine ⟨k, hk, ?_⟩
    have key : ∀ r a, r < n → a < n → 0 < w (7 * r + a) → ¬ U (C (7 * r + a)) = 0 := by
      intro r a hr ha h0
      obtain ⟨u, u1, u2, u3⟩ := hc r a hr ha
      rw [u1.u]
      have : 1 * OO ≤ w (7 * r + a) * OO := Nat.mul_le_mul_right _ h0
      omega
    cases b
    · exact key k i hk hi hk2
    · exact key i k hi hk hk2
  · rw [if_pos rfl, sN_zero]; omega
  · rw [sN_zero]; omega
