/-! MATHEMATICS: rounding to a double, in units of 2 ^ -1074 -/
theorem fp_shift {A B x y k : Nat} : A * 2 ^ (y + k) < B * 2 ^ (x + k) ↔ A * 2 ^ y < B * 2 ^ x := by
  rw [Nat.pow_add, Nat.pow_add, ← Nat.mul_assoc, ← Nat.mul_assoc]
  exact ⟨fun h => Nat.lt_of_mul_lt_mul_right h, fun h => Nat.mul_lt_mul_of_pos_right h (Nat.two_pow_pos k)⟩
/-- only the difference of the exponents counts -/
theorem fp_two {A B x y x' y' : Nat} (h : x + y' = x' + y) : A * 2 ^ y < B * 2 ^ x ↔ A * 2 ^ y' < B * 2 ^ x' := by
  rw [← fp_shift (A := A) (B := B) (x := x) (y := y) (k := y'), ← fp_shift (A := A) (B := B) (x := x') (y := y') (k := y), h, Nat.add_comm y y']
theorem fp_leading {A B : Nat} (hA : 0 < A) (hB : 0 < B) : (∀ x y : Nat, (x : Int) - y = FP.Core.leading A B → B * 2 ^ x ≤ A * 2 ^ y) ∧ (∀ x y : Nat, (x : Int) - y = FP.Core.leading A B + 1 → A * 2 ^ y < B * 2 ^ x) := by
  have a1 : 2 ^ A.log2 ≤ A := Nat.log2_self_le (by omega)
  have a2 : A < 2 ^ (A.log2 + 1) := Nat.lt_log2_self
  have b1 : 2 ^ B.log2 ≤ B := Nat.log2_self_le (by omega)
  have b2 : B < 2 ^ (B.log2 + 1) := Nat.lt_log2_self
  unfold FP.Core.leading
  generalize A.log2 = a at *
  generalize B.log2 = b at *
  dsimp only
  split
  · rename_i hc
    refine ⟨fun x y hxy => ?_, fun x y hxy => ?_⟩
    · refine Nat.le_of_not_lt (fun hlt => ?_)
      have := (fp_two (A := A) (B := B) (x := x) (y := y) (x' := ((a : Int) - b).toNat) (y' := (-((a : Int) - b)).toNat) (by omega)).mp hlt
      omega
    · have e : a + 1 + y = b + x := by omega
      calc A * 2 ^ y < 2 ^ (a + 1) * 2 ^ y := Nat.mul_lt_mul_of_pos_right a2 (Nat.two_pow_pos y)
        _ = 2 ^ b * 2 ^ x := by rw [← Nat.pow_add, ← Nat.pow_add, e]
        _ ≤ B * 2 ^ x := Nat.mul_le_mul_right _ b1
  · rename_i hc
    refine ⟨fun x y hxy => ?_, fun x y hxy => ?_⟩
    · have e : b + 1 + x = a + y := by omega
      refine Nat.le_of_lt ?_
      calc B * 2 ^ x < 2 ^ (b + 1) * 2 ^ x := Nat.mul_lt_mul_of_pos_right b2 (Nat.two_pow_pos x)
        _ = 2 ^ a * 2 ^ y := by rw [← Nat.pow_add, ← Nat.pow_add, e]
        _ ≤ A * 2 ^ y := Nat.mul_le_mul_right _ a1
    · exact (fp_two (x := x) (y := y) (x' := ((a : Int) - b).toNat) (y' := (-((a : Int) - b)).toNat) (by omega)).mpr (Nat.lt_of_not_le hc)
theorem fp_nearest (A B : Nat) (hB : 0 < B) : 2 * (FP.Core.nearest A B * B) ≤ 2 * A + B ∧ 2 * A ≤ 2 * (FP.Core.nearest A B * B) + B := by
  have h := Nat.div_add_mod A B
  have hm := Nat.mod_lt A hB
  rw [Nat.mul_comm] at h
  unfold FP.Core.nearest
  generalize A / B = d at *
  generalize A % B = r at *
  split
  · constructor <;> omega
  · split
    · rw [Nat.add_mul, Nat.one_mul]
      constructor <;> omega
    · have : d % 2 = 0 ∨ d % 2 = 1 := by omega
      rcases this with e | e
      · rw [e, Nat.add_zero]
        constructor <;> omega
      · rw [e, Nat.add_mul, Nat.one_mul]
        constructor <;> omega
/-- what is rounded to m * 2 ^ t units, X / Y being the number in units -/
def Rd (X Y m t : Nat) : Prop := 2 * (m * (2 ^ t * Y)) ≤ 2 * X + 2 ^ t * Y ∧ 2 * X ≤ 2 * (m * (2 ^ t * Y)) + 2 ^ t * Y ∧ (t = 0 ∨ 2 ^ (52 + t) * Y ≤ X) ∧ X < 2 ^ (53 + t) * Y
theorem fp_round {A B X Y α β : Nat} {e : Int} (s : Bool) (hA : 0 < A) (hB : 0 < B) (hY : 0 < Y) (he : (α : Int) - β = e + 1074) (h : A * Y * 2 ^ α = X * B * 2 ^ β) : ∃ m t : Nat, FP.Core.roundRatio FP.Core.b64 s A B e = FP.Core.settle FP.Core.b64 s m ((t : Int) - 1074) ∧ Rd X Y m t := by
  obtain ⟨l1, l2⟩ := fp_leading hA hB
  unfold FP.Core.roundRatio FP.Core.roundAt
  rw [if_neg (by omega)]
  have hq : FP.Core.quantum FP.Core.b64 A B e = max (-1074) (FP.Core.leading A B + e - 52) := rfl
  rw [hq]
  generalize FP.Core.leading A B = L at *
  obtain ⟨t, ht⟩ : ∃ t : Nat, max (-1074) (L + e - 52) = (t : Int) - 1074 := ⟨(max (-1074) (L + e - 52) + 1074).toNat, by omega⟩
  rw [ht]
  refine ⟨_, t, rfl, ?_⟩
  have hD : 0 < FP.Core.unitsDen B e ((t : Int) - 1074) := Nat.mul_pos hB (Nat.two_pow_pos _)
  obtain ⟨n1, n2⟩ := fp_nearest (FP.Core.unitsNum A e ((t : Int) - 1074)) _ hD
  have key : FP.Core.unitsNum A e ((t : Int) - 1074) * (2 ^ t * Y) = X * FP.Core.unitsDen B e ((t : Int) - 1074) := by
    unfold FP.Core.unitsNum FP.Core.unitsDen
    refine Nat.eq_of_mul_eq_mul_right (Nat.two_pow_pos (α + β)) ?_
    have e1 : (e - ((t : Int) - 1074)).toNat + t + β = ((t : Int) - 1074 - e).toNat + α := by omega
    calc A * 2 ^ (e - ((t : Int) - 1074)).toNat * (2 ^ t * Y) * 2 ^ (α + β) = A * Y * 2 ^ α * 2 ^ ((e - ((t : Int) - 1074)).toNat + t + β) := by
          rw [Nat.pow_add, Nat.pow_add _ _ β, Nat.pow_add]; ac_rfl
      _ = X * B * 2 ^ β * 2 ^ (((t : Int) - 1074 - e).toNat + α) := by rw [h, e1]
      _ = X * (B * 2 ^ ((t : Int) - 1074 - e).toNat) * 2 ^ (α + β) := by
          rw [Nat.pow_add, Nat.pow_add]; ac_rfl
  generalize FP.Core.unitsNum A e ((t : Int) - 1074) = N at *
  generalize FP.Core.unitsDen B e ((t : Int) - 1074) = D at *
  generalize FP.Core.nearest N D = m at *
  have hP : 0 < 2 ^ t * Y := Nat.mul_pos (Nat.two_pow_pos t) hY
  refine ⟨?_, ?_, ?_, ?_⟩
  · refine Nat.le_of_mul_le_mul_right (c := D) ?_ hD
    have := Nat.mul_le_mul_right (2 ^ t * Y) n1
    generalize 2 ^ t * Y = P at *
    have e1 : 2 * (m * D) * P = 2 * (m * P) * D := by ac_rfl
    have e2 : (2 * N + D) * P = 2 * (N * P) + P * D := by rw [Nat.add_mul, Nat.mul_assoc, Nat.mul_comm D P]
    have e3 : (2 * X + P) * D = 2 * (X * D) + P * D := by rw [Nat.add_mul, Nat.mul_assoc]
    rw [e3, ← e1, ← key, ← e2]
    exact this
  · refine Nat.le_of_mul_le_mul_right (c := D) ?_ hD
    have := Nat.mul_le_mul_right (2 ^ t * Y) n2
    generalize 2 ^ t * Y = P at *
    have e1 : 2 * N * P = 2 * X * D := by rw [Nat.mul_assoc, key, Nat.mul_assoc]
    have e2 : (2 * (m * D) + D) * P = (2 * (m * P) + P) * D := by rw [Nat.add_mul, Nat.add_mul]; ac_rfl
    rw [← e1, ← e2]
    exact this
  · by_cases ht0 : t = 0
    · exact Or.inl ht0
    · right
      have hL : L + e - 52 = (t : Int) - 1074 := by omega
      have hl := l1 (52 + t + β) (α) (by omega)
      rw [Nat.pow_add 2 (52 + t) β] at hl
      generalize 2 ^ (52 + t) = P at hl ⊢
      refine Nat.le_of_mul_le_mul_right (c := B * 2 ^ β) ?_ (Nat.mul_pos hB (Nat.two_pow_pos β))
      calc P * Y * (B * 2 ^ β) = B * (P * 2 ^ β) * Y := by ac_rfl
        _ ≤ A * 2 ^ α * Y := Nat.mul_le_mul_right _ hl
        _ = X * (B * 2 ^ β) := by rw [← Nat.mul_assoc X, ← h]; ac_rfl
  · have hlt : ∀ x y : Nat, (x : Int) - y ≥ L + 1 → A * 2 ^ y < B * 2 ^ x := by
      intro x y hxy
      obtain ⟨d, hd⟩ : ∃ d : Nat, (x : Int) - (y + d : Nat) = L + 1 := ⟨((x : Int) - y - (L + 1)).toNat, by omega⟩
      have := l2 x (y + d) hd
      refine Nat.lt_of_le_of_lt ?_ this
      exact Nat.mul_le_mul_left _ (Nat.pow_le_pow_right (by omega) (by omega))
    have hl := hlt (53 + t + β) α (by omega)
    rw [Nat.pow_add 2 (53 + t) β] at hl
    generalize 2 ^ (53 + t) = P at hl ⊢
    refine Nat.lt_of_mul_lt_mul_right (a := B * 2 ^ β) ?_
    calc X * (B * 2 ^ β) = A * 2 ^ α * Y := by rw [← Nat.mul_assoc X, ← h]; ac_rfl
      _ < B * (P * 2 ^ β) * Y := Nat.mul_lt_mul_of_pos_right hl hY
      _ = P * Y * (B * 2 ^ β) := by ac_rfl
theorem Rd_m {X Y m t : Nat} (hY : 0 < Y) (h : Rd X Y m t) : m ≤ 2 ^ 53 := by
  obtain ⟨h1, -, -, h4⟩ := h
  refine Nat.le_of_lt_succ (Nat.lt_of_mul_lt_mul_right (a := 2 ^ t * Y) ?_)
  have e : 2 ^ (53 + t) * Y = 2 ^ 53 * (2 ^ t * Y) := by rw [Nat.pow_add, Nat.mul_assoc]
  have hP : 0 < 2 ^ t * Y := Nat.mul_pos (Nat.two_pow_pos t) hY
  rw [e] at h4
  rw [Nat.succ_mul]
  generalize 2 ^ t * Y = P at *
  omega
/-- at most 2 ^ k: rounded at most 2 ^ k -/
theorem Rd_le {X Y m t k : Nat} (hY : 0 < Y) (h : Rd X Y m t) (hk : X ≤ 2 ^ k * Y) : m * 2 ^ t ≤ 2 ^ k ∧ (t = 0 ∨ 52 + t ≤ k) := by
  obtain ⟨h1, h2, h3, h4⟩ := h
  have ht : t = 0 ∨ 52 + t ≤ k := by
    rcases h3 with h3 | h3
    · exact Or.inl h3
    · right
      have h5 : 2 ^ (52 + t) ≤ 2 ^ k := Nat.le_of_mul_le_mul_right (Nat.le_trans h3 hk) hY
      exact (Nat.pow_le_pow_iff_right (by omega)).mp h5
  refine ⟨?_, ht⟩
  have hd : 2 ^ k = 2 ^ (k - t) * 2 ^ t := by rw [← Nat.pow_add]; congr 1; omega
  rw [hd]
  refine Nat.mul_le_mul_right _ ?_
  refine Nat.le_of_lt_succ (Nat.lt_of_mul_lt_mul_right (a := 2 ^ t * Y) ?_)
  rw [hd, Nat.mul_assoc] at hk
  have hP : 0 < 2 ^ t * Y := Nat.mul_pos (Nat.two_pow_pos t) hY
  rw [Nat.succ_mul]
  generalize 2 ^ t * Y = P at *
  generalize 2 ^ (k - t) = M at *
  omega
/-- nearly what was rounded, unless it is less than any normal number -/
theorem Rd_near {X Y m t : Nat} (hY : 0 < Y) (h : Rd X Y m t) (hn : Y = 1 ∨ 2 ^ 52 * Y ≤ X) : 1023 * X ≤ 1024 * (m * 2 ^ t * Y) ∧ 1023 * (m * 2 ^ t * Y) ≤ 1024 * X := by
  obtain ⟨h1, h2, h3, h4⟩ := h
  have e : m * 2 ^ t * Y = m * (2 ^ t * Y) := Nat.mul_assoc _ _ _
  rw [e]
  by_cases h0 : t = 0 ∧ Y = 1
  · obtain ⟨rfl, rfl⟩ := h0
    rw [show 2 ^ 0 * 1 = 1 from rfl, Nat.mul_one] at h1 h2 ⊢
    clear h3 h4 hn e
    omega
  · have h5 : 2 ^ 52 * (2 ^ t * Y) ≤ X := by
      rcases h3 with h3 | h3
      · subst h3
        rcases hn with hn | hn
        · exact absurd ⟨rfl, hn⟩ h0
        · rw [Nat.pow_zero, Nat.one_mul]; exact hn
      · rw [Nat.pow_add, Nat.mul_assoc] at h3
        exact h3
    generalize 2 ^ t * Y = P at *
    generalize m * P = Q at *
    omega
/-- a number of the format is rounded to itself -/
theorem Rd_exact {X Y m t M t0 : Nat} (hY : 0 < Y) (h : Rd X Y m t) (hX : X = M * 2 ^ t0 * Y) (hM : M < 2 ^ 53) (hn : t0 = 0 ∨ 2 ^ 52 ≤ M) : m = M ∧ t = t0 := by
  obtain ⟨h1, h2, h3, h4⟩ := h
  subst hX
  have hlt : M * 2 ^ t0 < 2 ^ (53 + t) := Nat.lt_of_mul_lt_mul_right h4
  have ht1 : t0 ≤ t := by
    rcases hn with hn | hn
    · omega
    · have h5 : 2 ^ (52 + t0) < 2 ^ (53 + t) := by
        refine Nat.lt_of_le_of_lt ?_ hlt
        rw [Nat.pow_add]
        exact Nat.mul_le_mul_right _ hn
      have := (Nat.pow_lt_pow_iff_right (show 1 < 2 by omega)).mp h5
      omega
  have ht2 : t ≤ t0 := by
    rcases h3 with h3 | h3
    · omega
    · have h5 : 2 ^ (52 + t) ≤ M * 2 ^ t0 := Nat.le_of_mul_le_mul_right h3 hY
      have h6 : 2 ^ (52 + t) < 2 ^ (53 + t0) := by
        refine Nat.lt_of_le_of_lt h5 ?_
        rw [Nat.pow_add 2 53]
        exact Nat.mul_lt_mul_of_pos_right hM (Nat.two_pow_pos _)
      have := (Nat.pow_lt_pow_iff_right (show 1 < 2 by omega)).mp h6
      omega
  have ht : t = t0 := by omega
  subst ht
  refine ⟨?_, rfl⟩
  rw [Nat.mul_assoc] at h1 h2
  have hP : 0 < 2 ^ t * Y := Nat.mul_pos (Nat.two_pow_pos t) hY
  generalize 2 ^ t * Y = P at *
  have a1 : m ≤ M := by
    refine Nat.le_of_lt_succ (Nat.lt_of_mul_lt_mul_right (a := P) ?_)
    rw [Nat.succ_mul]
    omega
  have a2 : M ≤ m := by
    refine Nat.le_of_lt_succ (Nat.lt_of_mul_lt_mul_right (a := P) ?_)
    rw [Nat.succ_mul]
    omega
  omega
/-- what a number of the format is -/
def Ft (c : Nat) (q : Int) : Prop := c < 2 ^ 53 ∧ -1074 ≤ q ∧ q ≤ 971 ∧ (q = -1074 ∨ 2 ^ 52 ≤ c)
theorem fp_settle {s : Bool} {m t : Nat} (hm : m ≤ 2 ^ 53) (ht : t ≤ 2044) (hn : t = 0 ∨ 2 ^ 52 ≤ m) : ∃ c q, FP.Core.settle FP.Core.b64 s m ((t : Int) - 1074) = .fin s c q ∧ Ft c q ∧ c * 2 ^ (q + 1074).toNat = m * 2 ^ t ∧ (m < 2 ^ 53 → c = m ∧ q = (t : Int) - 1074) := by
  unfold FP.Core.settle FP.Core.bound
  have hp : FP.Core.b64.p = 53 := rfl
  have hq : FP.Core.b64.qmax = 971 := by decide
  have ht2 : FP.Core.b64.tails = 2 ^ 52 := rfl
  rw [hp, hq, ht2]
  by_cases h : m < 2 ^ 53
  · rw [if_pos h, if_pos (by omega)]
    refine ⟨m, (t : Int) - 1074, rfl, ⟨h, by omega, by omega, ?_⟩, ?_, fun _ => ⟨rfl, rfl⟩⟩
    · rcases hn with hn | hn
      · left; omega
      · exact Or.inr hn
    · rw [show ((t : Int) - 1074 + 1074).toNat = t by omega]
  · rw [if_neg h, if_pos (by omega)]
    refine ⟨2 ^ 52, (t : Int) - 1074 + 1, rfl, ⟨by decide, by omega, by omega, Or.inr (Nat.le_refl _)⟩, ?_, fun hc => absurd hc h⟩
    have : m = 2 ^ 53 := by omega
    rw [this, show ((t : Int) - 1074 + 1 + 1074).toNat = t + 1 by omega, ← Nat.pow_add, ← Nat.pow_add]
    congr 1
    omega
theorem Rd_big {X Y m t : Nat} (hY : 0 < Y) (h : Rd X Y m t) : t = 0 ∨ 2 ^ 52 ≤ m := by
  obtain ⟨h1, h2, h3, h4⟩ := h
  rcases h3 with h3 | h3
  · exact Or.inl h3
  · right
    refine Nat.le_of_lt_succ (Nat.lt_of_mul_lt_mul_right (a := 2 ^ t * Y) ?_)
    rw [Nat.pow_add, Nat.mul_assoc] at h3
    have hP : 0 < 2 ^ t * Y := Nat.mul_pos (Nat.two_pow_pos t) hY
    generalize 2 ^ t * Y = P at *
    have hs : m.succ * P = m * P + P := Nat.succ_mul m P
    rw [hs]
    clear h4
    omega
set_option maxRecDepth 100000 in
/-- the bits of a number of the format, and back -/
theorem fp_bits (s : Bool) {c : Nat} {q : Int} (h : Ft c q) : FP.Core.encode FP.Core.b64 (.fin s c q) = (s.toNat * 2048) * 2 ^ 52 + (if c < 2 ^ 52 then c else (q + 1074).toNat * 2 ^ 52 + c) ∧ FP.Core.encode FP.Core.b64 (.fin s c q) < 2 ^ 64 ∧ FP.Core.decode FP.Core.b64 (FP.Core.encode FP.Core.b64 (.fin s c q)) = .fin s c q := by
  obtain ⟨h1, h2, h3, h4⟩ := h
  have ht : FP.Core.b64.tails = 2 ^ 52 := rfl
  have hx : FP.Core.b64.exps = 2048 := rfl
  have hq : FP.Core.b64.qmin = -1074 := by decide
  have hs : s.toNat = 0 ∨ s.toNat = 1 := by cases s <;> simp
  have e : FP.Core.encode FP.Core.b64 (.fin s c q) = (s.toNat * 2048) * 2 ^ 52 + (if c < 2 ^ 52 then c else (q + 1074).toNat * 2 ^ 52 + c) := by
    unfold FP.Core.encode FP.Core.assemble
    rw [ht, hx, hq]
    dsimp only
    by_cases hc : c < 2 ^ 52
    · rw [if_pos hc, if_pos hc]
      omega
    · rw [if_neg hc, if_neg hc, show q - -1074 = q + 1074 by omega]
      omega
  have hlt : FP.Core.encode FP.Core.b64 (.fin s c q) < 2 ^ 64 := by
    rw [e]
    split <;> omega
  refine ⟨e, hlt, ?_⟩
  rw [e]
  unfold FP.Core.decode FP.Core.fieldE FP.Core.fieldT FP.Core.fieldS
  rw [ht, hx, hq]
  have hsb : ∀ n : Nat, n = s.toNat → ((n % 2 == 1) = s) := by
    intro n hn
    subst hn
    cases s <;> rfl
  by_cases hc : c < 2 ^ 52
  · rw [if_pos hc]
    have hE : ((s.toNat * 2048) * 2 ^ 52 + c) / 2 ^ 52 = s.toNat * 2048 := by omega
    rw [hE, show s.toNat * 2048 % 2048 = 0 by omega, if_neg (by omega), if_pos rfl, show s.toNat * 2048 / 2048 = s.toNat by omega, hsb _ rfl]
    rw [show ((s.toNat * 2048) * 2 ^ 52 + c) % 2 ^ 52 = c by omega]
    have : q = -1074 := by omega
    rw [this]
  · rw [if_neg hc]
    have hE : ((s.toNat * 2048) * 2 ^ 52 + ((q + 1074).toNat * 2 ^ 52 + c)) / 2 ^ 52 = s.toNat * 2048 + (q + 1074).toNat + 1 := by omega
    have hT : ((s.toNat * 2048) * 2 ^ 52 + ((q + 1074).toNat * 2 ^ 52 + c)) % 2 ^ 52 = c - 2 ^ 52 := by omega
    rw [hE, hT, show (s.toNat * 2048 + (q + 1074).toNat + 1) % 2048 = (q + 1074).toNat + 1 by omega, if_neg (by omega), if_neg (by omega), show (s.toNat * 2048 + (q + 1074).toNat + 1) / 2048 = s.toNat by omega, hsb _ rfl]
    have g1 : 2 ^ 52 + (c - 2 ^ 52) = c := by omega
    have g2 : (-1074 : Int) + ((((q + 1074).toNat + 1 : Nat) : Int) - 1) = q := by omega
    rw [g1, g2]
theorem fp_of (s : Bool) {c : Nat} {q : Int} (h : Ft c q) : FP.Core.decode FP.Core.b64 (UInt64.ofNat (FP.Core.encode FP.Core.b64 (.fin s c q))).toNat = .fin s c q := by
  obtain ⟨-, h2, h3⟩ := fp_bits s h
  rw [UInt64.toNat_ofNat_of_lt' (by simpa using h2)]
  exact h3
set_option maxRecDepth 100000 in
theorem fp_fits (x : UInt64) {s : Bool} {c : Nat} {q : Int} (h : FP.Core.decode FP.Core.b64 x.toNat = .fin s c q) : Ft c q ∧ x = UInt64.ofNat (FP.Core.encode FP.Core.b64 (.fin s c q)) := by
  have hx := x.toNat_lt
  have ht : FP.Core.b64.tails = 2 ^ 52 := rfl
  have hxp : FP.Core.b64.exps = 2048 := rfl
  have hq : FP.Core.b64.qmin = -1074 := by decide
  unfold FP.Core.decode FP.Core.fieldE FP.Core.fieldT FP.Core.fieldS at h
  rw [ht, hxp, hq] at h
  have hE : x.toNat / 2 ^ 52 % 2048 < 2048 := Nat.mod_lt _ (by omega)
  have hs : s = (x.toNat / 2 ^ 52 / 2048 % 2 == 1) ∧ Ft c q ∧ (if c < 2 ^ 52 then x.toNat / 2 ^ 52 % 2048 = 0 ∧ c = x.toNat % 2 ^ 52 else (q + 1074).toNat + 1 = x.toNat / 2 ^ 52 % 2048 ∧ c = 2 ^ 52 + x.toNat % 2 ^ 52) := by
    split at h
    · split at h <;> cases h
    · rename_i hne
      split at h
      · rename_i h0
        injection h with i1 i2 i3
        refine ⟨i1.symm, ⟨by omega, by omega, by omega, Or.inl i3.symm⟩, ?_⟩
        rw [if_pos (by omega)]
        exact ⟨h0, i2.symm⟩
      · rename_i h0
        injection h with i1 i2 i3
        refine ⟨i1.symm, ⟨by omega, by omega, by omega, Or.inr (by omega)⟩, ?_⟩
        rw [if_neg (by omega)]
        exact ⟨by omega, i2.symm⟩
  obtain ⟨h1, h2, h3⟩ := hs
  refine ⟨h2, ?_⟩
  obtain ⟨e1, e2, -⟩ := fp_bits s h2
  refine UInt64.toNat_inj.mp ?_
  rw [UInt64.toNat_ofNat_of_lt' (by simpa using e2), e1]
  have hsn : s.toNat = x.toNat / 2 ^ 52 / 2048 := by
    have : x.toNat / 2 ^ 52 / 2048 < 2 := by omega
    rw [h1]
    generalize x.toNat / 2 ^ 52 / 2048 = w at *
    have : w = 0 ∨ w = 1 := by omega
    rcases this with rfl | rfl <;> rfl
  rw [hsn]
  by_cases hc : c < 2 ^ 52
  · rw [if_pos hc] at h3 ⊢
    omega
  · rw [if_neg hc] at h3 ⊢
    omega
