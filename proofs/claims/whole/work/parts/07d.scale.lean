/-! MATHEMATICS: what sweeps do to the entries and to the factors -/
def U (x : UInt64) : Nat := match FP.Core.decode FP.Core.b64 x.toNat with
  | .fin _ c q => c * 2 ^ (q + 1074).toNat
  | _ => 0
theorem Pd.u {x : UInt64} {u : Nat} (h : Pd x u) : U x = u := by
  obtain ⟨c, q, h1, h2⟩ := h
  unfold U
  rw [h1]
  exact h2
theorem Pd.uu {x : UInt64} {u : Nat} (h : Pd x u) : Pd x (U x) := by rw [h.u]; exact h
def sD (g : Nat → UInt64) : Nat → UInt64
  | 0 => FP.dconst0
  | k + 1 => FP.dadd (sD g k) (g k)
theorem sD_congr {f g : Nat → UInt64} {n : Nat} (h : ∀ k, k < n → f k = g k) : sD f n = sD g n := by
  induction n with
  | zero => rfl
  | succ n ih => rw [sD, sD, ih (fun k hk => h k (by omega)), h n (by omega)]
theorem sN_mul (c : Nat) (f : Nat → Nat) (n : Nat) : sN (fun k => c * f k) n = c * sN f n := by
  induction n with
  | zero => rfl
  | succ n ih => rw [sN, sN, ih, Nat.mul_add]
theorem OO_up {a k : Nat} (h : a ≤ 2 ^ k) (hk : k ≤ 1022) : a * OO ≤ MX := by
  rw [Nat.mul_comm]
  exact Nat.le_trans (Nat.mul_le_mul_left _ h) (OO_mx hk)
theorem sD_n {g : Nat → UInt64} {n H : Nat} (hn : n ≤ 7) (hH : H ≤ 32) (hg : ∀ k, k < n → Pd (g k) (U (g k)) ∧ U (g k) ≤ H * OO) : ∀ m, m ≤ n → ∃ u, Pd (sD g m) u ∧ 1000 * u ≤ 1007 * sN (fun k => U (g k)) m ∧ 1000 * sN (fun k => U (g k)) m ≤ 1007 * u := by
  have key : ∀ m, m ≤ n → ∃ u, Pd (sD g m) u ∧ 1000 * u ≤ 1000 * sN (fun k => U (g k)) m + m * sN (fun k => U (g k)) m ∧ 1000 * sN (fun k => U (g k)) m ≤ 1000 * u + m * u ∧ sN (fun k => U (g k)) m ≤ m * (32 * OO) := by
    intro m
    induction m with
    | zero => intro _; exact ⟨0, Pd_0, by rw [sN]; omega, by rw [sN]; omega, by rw [sN]; omega⟩
    | succ m ih =>
      intro hm
      obtain ⟨u, u1, u2, u3, u4⟩ := ih (by omega)
      obtain ⟨g1, g2⟩ := hg m (by omega)
      have hx : U (g m) ≤ 32 * OO := Nat.le_trans g2 (Nat.mul_le_mul_right _ hH)
      have hmx : 1000 * OO ≤ MX := OO_up (k := 10) (by omega) (by omega)
      rw [sN]
      generalize U (g m) = x at *
      generalize sN (fun k => U (g k)) m = S at *
      have b1 : m * S ≤ 7 * S := Nat.mul_le_mul_right _ (by omega)
      have b2 : m * x ≤ 7 * x := Nat.mul_le_mul_right _ (by omega)
      have b3 : m * (32 * OO) ≤ 7 * (32 * OO) := Nat.mul_le_mul_right _ (by omega)
      have b4 : m * u ≤ 7 * u := Nat.mul_le_mul_right _ (by omega)
      obtain ⟨v, v1, v2, v3⟩ := dadd_n u1 g1 (by omega)
      have b5 : m * (1023 * (u + x)) ≤ m * (1024 * v) := Nat.mul_le_mul_left _ v2
      have b6 : m * v ≤ 7 * v := Nat.mul_le_mul_right _ (by omega)
      have e1 : m * (1023 * (u + x)) = 1023 * (m * u) + 1023 * (m * x) := by rw [Nat.mul_left_comm, Nat.mul_add, Nat.mul_add]
      have e2 : m * (1024 * v) = 1024 * (m * v) := Nat.mul_left_comm _ _ _
      rw [e1, e2] at b5
      have e3 : (m + 1) * (S + x) = m * S + m * x + (S + x) := by rw [Nat.add_mul, Nat.mul_add, Nat.one_mul]
      have e4 : (m + 1) * v = m * v + v := by rw [Nat.add_mul, Nat.one_mul]
      have e5 : (m + 1) * (32 * OO) = m * (32 * OO) + 32 * OO := by rw [Nat.add_mul, Nat.one_mul]
      rw [e3, e5]
      refine ⟨v, v1, ?_, ?_, ?_⟩
      · generalize m * S = mS at *
        generalize m * x = mx at *
        clear u3 b3 b4 b5 b6 e1 e2 e3 e4 e5 u4 hmx hx g2 v2
        omega
      · rw [e4]
        generalize m * u = mu at *
        generalize m * x = mx at *
        generalize m * v = mv at *
        clear u2 b3 b1 e1 e2 e3 e4 e5 u4 hmx hx g2
        omega
      · omega
  intro m hm
  obtain ⟨u, u1, u2, u3, -⟩ := key m hm
  generalize sN (fun k => U (g k)) m = S at *
  have b1 : m * S ≤ 7 * S := Nat.mul_le_mul_right _ (by omega)
  have b2 : m * u ≤ 7 * u := Nat.mul_le_mul_right _ (by omega)
  exact ⟨u, u1, by omega, by omega⟩
/-- one entry divided by its line's sum -/
theorem cell_n {x y : UInt64} {a s d L : Nat} (hx : Pd x a) (hy : Pd y s) (hs : 0 < s) (has : 1000 * a ≤ 1007 * s) (hsd : s ≤ OO * 2 ^ d) (hL : a = 0 ∨ OO ≤ a * 2 ^ L) (hd : L + d ≤ 1000) : ∃ u, Pd (FP.ddiv x y) u ∧ 1023 * (u * s) ≤ 1024 * (a * OO) ∧ u ≤ 2 * OO ∧ (u = 0 ↔ a = 0) ∧ (u = 0 ∨ OO ≤ u * 2 ^ (L + d + 1)) := by
  have hmx : 2 * OO ≤ MX := OO_up (k := 1) (by omega) (by omega)
  obtain ⟨u, u1, -, u3, u4, -⟩ := ddiv_n hx hy hs (by
    calc a * OO ≤ 2 * s * OO := Nat.mul_le_mul_right _ (by omega)
      _ = 2 * OO * s := by
        generalize OO = o
        ac_rfl
      _ ≤ MX * s := Nat.mul_le_mul_right _ hmx)
  by_cases ha : a = 0
  · have hu := u4 ha
    subst ha hu
    exact ⟨0, u1, by omega, by omega, Iff.rfl, Or.inl rfl⟩
  · have hL' : OO ≤ a * 2 ^ L := by
      rcases hL with h | h
      · exact absurd h ha
      · exact h
    have hnorm : 2 ^ 52 * s ≤ a * OO := by
      have h1 : 2 ^ (52 + d) ≤ a := by
        refine Nat.le_of_mul_le_mul_right (c := 2 ^ L) ?_ (Nat.two_pow_pos L)
        refine Nat.le_trans ?_ hL'
        rw [← Nat.pow_add]
        exact Nat.pow_le_pow_right (by omega) (by omega)
      calc 2 ^ 52 * s ≤ 2 ^ 52 * (OO * 2 ^ d) := Nat.mul_le_mul_left _ hsd
        _ = 2 ^ (52 + d) * OO := by
          rw [Nat.pow_add 2 52 d]
          generalize OO = o
          ac_rfl
        _ ≤ a * OO := Nat.mul_le_mul_right _ h1
    obtain ⟨w1, w2⟩ := u3 hnorm
    have hlow : a ≤ u * 2 ^ (d + 1) := by
      refine Nat.le_of_mul_le_mul_right (c := OO) ?_ OO_pos
      have h1 : u * s ≤ u * (OO * 2 ^ d) := Nat.mul_le_mul_left _ hsd
      have h2 : u * 2 ^ (d + 1) * OO = 2 * (u * (OO * 2 ^ d)) := by
        rw [Nat.pow_succ]
        generalize OO = o
        ac_rfl
      rw [h2]
      generalize u * (OO * 2 ^ d) = P at *
      generalize a * OO = Q at *
      omega
    have hu0 : ¬ u = 0 := by
      intro h
      rw [h, Nat.zero_mul] at hlow
      omega
    refine ⟨u, u1, w2, ?_, ⟨fun h => absurd h hu0, fun h => absurd h ha⟩, Or.inr ?_⟩
    · refine Nat.le_of_mul_le_mul_right (c := s) ?_ hs
      have h1 : 1000 * a * OO ≤ 1007 * s * OO := Nat.mul_le_mul_right _ has
      have h2 : 1000 * a * OO = 1000 * (a * OO) := Nat.mul_assoc _ _ _
      have h3 : 1007 * s * OO = 1007 * (OO * s) := by rw [Nat.mul_assoc, Nat.mul_comm s]
      have h4 : 2 * OO * s = 2 * (OO * s) := Nat.mul_assoc _ _ _
      rw [h2, h3] at h1
      rw [h4]
      generalize OO * s = P at *
      generalize a * OO = Q at *
      generalize u * s = R at *
      omega
    · refine Nat.le_trans hL' ?_
      calc a * 2 ^ L ≤ u * 2 ^ (d + 1) * 2 ^ L := Nat.mul_le_mul_right _ hlow
        _ = u * 2 ^ (L + d + 1) := by rw [Nat.mul_assoc, ← Nat.pow_add, show d + 1 + L = L + d + 1 by omega]
/-- places along a line: a row (true) or a column -/
def ix (b : Bool) (i k : Nat) : Nat := if b then 7 * i + k else 7 * k + i
def ln (C : Nat → UInt64) (b : Bool) (n i : Nat) : UInt64 := sD (fun k => C (ix b i k)) n
/-- a half sweep -/
def hs (n : Nat) (b : Bool) (C : Nat → UInt64) : Nat → UInt64 := fun j => FP.ddiv (C j) (ln C b n (if b then j / 7 else j % 7))
theorem hs_ix {n : Nat} {b : Bool} {C : Nat → UInt64} {i k : Nat} (hi : i < 7) (hk : k < 7) : hs n b C (ix b i k) = FP.ddiv (C (ix b i k)) (ln C b n i) := by
  unfold hs
  have : (if b then (ix b i k) / 7 else (ix b i k) % 7) = i := by
    unfold ix
    cases b
    · show (7 * k + i) % 7 = i
      omega
    · show (7 * i + k) / 7 = i
      omega
  rw [this]
def Cl (n H L : Nat) (C : Nat → UInt64) : Prop := ∀ r a, r < n → a < n → Pd (C (7 * r + a)) (U (C (7 * r + a))) ∧ U (C (7 * r + a)) ≤ H * OO ∧ (U (C (7 * r + a)) = 0 ∨ OO ≤ U (C (7 * r + a)) * 2 ^ L)
theorem Cl.ix {n H L : Nat} {C : Nat → UInt64} (h : Cl n H L C) (b : Bool) {i k : Nat} (hi : i < n) (hk : k < n) : Pd (C (ix b i k)) (U (C (ix b i k))) ∧ U (C (ix b i k)) ≤ H * OO ∧ (U (C (ix b i k)) = 0 ∨ OO ≤ U (C (ix b i k)) * 2 ^ L) := by
  unfold _root_.Jvm.Pilot.CPermanentDeskLaw_law_r8684_296a8a.ix
  cases b
  · exact h k i hk hi
  · exact h i k hi hk
theorem le_sN {f : Nat → Nat} {m k : Nat} (hk : k < m) : f k ≤ sN f m := by
  induction m with
  | zero => omega
  | succ m ih =>
    rw [sN]
    by_cases e : k = m
    · subst e; omega
    · have := ih (by omega); omega
theorem half_n {n H L d : Nat} {b : Bool} {C : Nat → UInt64} (hn : n ≤ 7) (hH : H ≤ 32) (hd : 7 * 1007 * H ≤ 1000 * 2 ^ d) (hL : L + d ≤ 1000) (hC : Cl n H L C) (hne : ∀ i, i < n → ∃ k, k < n ∧ ¬ U (C (ix b i k)) = 0) :
    (∀ i, i < n → (∀ m, m ≤ n → ∃ u, Pd (sD (fun k => C (ix b i k)) m) u) ∧ ∃ s, Pd (ln C b n i) s ∧ 0 < s ∧ s ≤ OO * 2 ^ d ∧ 1000 * s ≤ 1007 * sN (fun k => U (C (ix b i k))) n) ∧ Cl n 2 (L + d + 1) (hs n b C) ∧ (∀ i k, i < n → k < n → (U (hs n b C (ix b i k)) = 0 ↔ U (C (ix b i k)) = 0)) ∧ (∀ i, i < n → 1000 * sN (fun k => U (hs n b C (ix b i k))) n ≤ 1009 * OO) := by
  have hsum : ∀ i, i < n → ∃ s, Pd (ln C b n i) s ∧ 0 < s ∧ s ≤ OO * 2 ^ d ∧ 1000 * s ≤ 1007 * sN (fun k => U (C (ix b i k))) n ∧ 1000 * sN (fun k => U (C (ix b i k))) n ≤ 1007 * s := by
    intro i hi
    obtain ⟨s, s1, s2, s3⟩ := sD_n (g := fun k => C (ix b i k)) hn hH (fun k hk => ⟨(hC.ix b hi hk).1, (hC.ix b hi hk).2.1⟩) n (Nat.le_refl _)
    have hle : sN (fun k => U (C (ix b i k))) n ≤ 7 * (H * OO) := by
      refine Nat.le_trans (sN_le (c := H * OO) (fun k hk => (hC.ix b hi hk).2.1)) (Nat.mul_le_mul_right _ hn)
    obtain ⟨k, hk, hk2⟩ := hne i hi
    have hpos : 0 < sN (fun k => U (C (ix b i k))) n := Nat.lt_of_lt_of_le (Nat.pos_of_ne_zero hk2) (le_sN (f := fun k => U (C (ix b i k))) hk)
    generalize sN (fun k => U (C (ix b i k))) n = S at *
    refine ⟨s, s1, by omega, ?_, s2, s3⟩
    have h1 : 7 * 1007 * H * OO ≤ 1000 * 2 ^ d * OO := Nat.mul_le_mul_right _ hd
    have e1 : 7 * 1007 * H * OO = 7049 * (H * OO) := Nat.mul_assoc _ _ _
    have e2 : 1000 * 2 ^ d * OO = 1000 * (OO * 2 ^ d) := by rw [Nat.mul_assoc, Nat.mul_comm (2 ^ d)]
    rw [e1, e2] at h1
    generalize H * OO = P at *
    generalize OO * 2 ^ d = Q at *
    omega
  have hcell : ∀ i k, i < n → k < n → ∃ s, Pd (ln C b n i) s ∧ 0 < s ∧ 1000 * sN (fun k => U (C (ix b i k))) n ≤ 1007 * s ∧ ∃ u, Pd (hs n b C (ix b i k)) u ∧ 1023 * (u * s) ≤ 1024 * (U (C (ix b i k)) * OO) ∧ u ≤ 2 * OO ∧ (u = 0 ↔ U (C (ix b i k)) = 0) ∧ (u = 0 ∨ OO ≤ u * 2 ^ (L + d + 1)) := by
    intro i k hi hk
    obtain ⟨s, s1, s2, s3, s4, s5⟩ := hsum i hi
    obtain ⟨c1, c2, c3⟩ := hC.ix b hi hk
    have hle := le_sN (f := fun k => U (C (ix b i k))) hk
    rw [hs_ix (by omega) (by omega)]
    exact ⟨s, s1, s2, s5, cell_n c1 s1 s2 (by omega) s3 c3 hL⟩
  have hcell2 : ∀ i k, i < n → k < n → Pd (hs n b C (ix b i k)) (U (hs n b C (ix b i k))) ∧ U (hs n b C (ix b i k)) ≤ 2 * OO ∧ (U (hs n b C (ix b i k)) = 0 ∨ OO ≤ U (hs n b C (ix b i k)) * 2 ^ (L + d + 1)) := by
    intro i k hi hk
    obtain ⟨s, -, -, -, u, u1, -, u3, -, u5⟩ := hcell i k hi hk
    rw [u1.u]
    exact ⟨u1, u3, u5⟩
  refine ⟨fun i hi => ⟨fun m hm => ?_, ?_⟩, ?_, fun i k hi hk => ?_, fun i hi => ?_⟩
  · obtain ⟨u, u1, -⟩ := sD_n (g := fun k => C (ix b i k)) hn hH (fun k hk => ⟨(hC.ix b hi hk).1, (hC.ix b hi hk).2.1⟩) m hm
    exact ⟨u, u1⟩
  · obtain ⟨s, s1, s2, s3, s4, s5⟩ := hsum i hi
    exact ⟨s, s1, s2, s3, s4⟩
  · intro r a hr ha
    cases b
    · exact hcell2 a r ha hr
    · exact hcell2 r a hr ha
  · obtain ⟨s, -, -, -, u, u1, -, -, u4, -⟩ := hcell i k hi hk
    rw [u1.u]
    exact u4
  · obtain ⟨s, s1, s2, -, s4, s5⟩ := hsum i hi
    refine Nat.le_of_mul_le_mul_right (c := 1023 * s) ?_ (by omega)
    have h1 : sN (fun k => 1023 * (U (hs n b C (ix b i k)) * s)) n ≤ sN (fun k => 1024 * (U (C (ix b i k)) * OO)) n := sN_le_sum (fun k hk => by
      obtain ⟨s', q1, -, -, u, u1, u2, -⟩ := hcell i k hi hk
      rw [u1.u, ← q1.det s1]
      exact u2)
    have e1 : sN (fun k => 1023 * (U (hs n b C (ix b i k)) * s)) n = 1023 * s * sN (fun k => U (hs n b C (ix b i k))) n := by
      rw [← sN_mul]
      refine sN_congr (fun k _ => ?_)
      rw [Nat.mul_assoc, Nat.mul_comm s]
    have e2 : sN (fun k => 1024 * (U (C (ix b i k)) * OO)) n = 1024 * OO * sN (fun k => U (C (ix b i k))) n := by
      rw [← sN_mul]
      refine sN_congr (fun k _ => ?_)
      rw [Nat.mul_assoc, Nat.mul_comm OO]
    rw [e1, e2] at h1
    have h2 : 1024 * OO * (1000 * sN (fun k => U (C (ix b i k))) n) ≤ 1024 * OO * (1007 * s) := Nat.mul_le_mul_left _ s5
    generalize sN (fun k => U (hs n b C (ix b i k))) n = X at *
    generalize sN (fun k => U (C (ix b i k))) n = S at *
    have f1 : 1000 * X * (1023 * s) = 1000 * (1023 * s * X) := by ac_rfl
    have f2 : 1009 * OO * (1023 * s) = 1009 * 1023 * (OO * s) := by
      generalize OO = o
      ac_rfl
    have f3 : 1024 * OO * (1000 * S) = 1000 * (1024 * OO * S) := by
      generalize OO = o
      ac_rfl
    have f4 : 1024 * OO * (1007 * s) = 1024 * 1007 * (OO * s) := by
      generalize OO = o
      ac_rfl
    rw [f3, f4] at h2
    rw [f1, f2]
    generalize 1023 * s * X = A at *
    generalize 1024 * OO * S = B at *
    generalize OO * s = D at *
    omega
