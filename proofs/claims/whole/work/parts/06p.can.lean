/-! MATHEMATICS: which matrices can be scaled, which can be taken apart -/
def nn (z : Nat → Int32) : Bool := allB (fun k => !decide (z k < 0)) 49
theorem mnv_neg (a b : Int32) : mnv a b < 0 ↔ a < 0 ∨ b < 0 := by
  unfold mnv
  by_cases h : b < a
  · rw [if_pos h]
    constructor
    · intro h1; exact Or.inr h1
    · intro h1
      rcases h1 with h1 | h1
      · rw [Int32.lt_iff_toInt_lt] at *
        omega
      · exact h1
  · rw [if_neg h]
    constructor
    · intro h1; exact Or.inl h1
    · intro h1
      rcases h1 with h1 | h1
      · exact h1
      · rw [Int32.lt_iff_toInt_lt] at *
        omega
theorem ext_neg (z : Nat → Int32) (n : Nat) : ∀ j, extA mnv z n j < 0 ↔ (z 0 < 0 ∨ ∃ k, k < j ∧ z (7 * (k / n) + k % n) < 0) := by
  intro j
  induction j with
  | zero =>
    constructor
    · intro h; exact Or.inl h
    · intro h
      rcases h with h | ⟨k, hk, _⟩
      · exact h
      · omega
  | succ j ih =>
    rw [extA, mnv_neg, ih]
    constructor
    · intro h
      rcases h with (h | ⟨k, hk, h⟩) | h
      · exact Or.inl h
      · exact Or.inr ⟨k, by omega, h⟩
      · exact Or.inr ⟨j, by omega, h⟩
    · intro h
      rcases h with h | ⟨k, hk, h⟩
      · exact Or.inl (Or.inl h)
      · by_cases e : k = j
        · subst e; exact Or.inr h
        · exact Or.inl (Or.inr ⟨k, by omega, h⟩)
theorem least_neg {z : Nat → Int32} {n : Nat} (h1 : 1 ≤ n) (hn : n ≤ 7) (h0 : ∀ r q, r < 7 → q < 7 → (n ≤ r ∨ n ≤ q) → z (7 * r + q) = 0) : extA mnv z n (n * n) < 0 ↔ nn z = false := by
  rw [ext_neg]
  constructor
  · intro h
    rcases h with h | ⟨k, hk, h⟩
    · exact allB_f (n := 49) (k := 0) (by omega) (by simpa using h)
    · have h2 : k / n < n := Nat.div_lt_of_lt_mul hk
      have h3 : k % n < n := Nat.mod_lt _ (by omega)
      exact allB_f (n := 49) (k := 7 * (k / n) + k % n) (by omega) (by simpa using h)
  · intro h
    have hex : ∃ k, k < 49 ∧ z k < 0 := by
      refine Decidable.byContradiction fun hc => ?_
      have : nn z = true := allB_t.mpr (fun k hk => by
        have : ¬ z k < 0 := fun hh => hc ⟨k, hk, hh⟩
        simpa using this)
      rw [this] at h
      cases h
    obtain ⟨k, hk, hz⟩ := hex
    right
    have hr : k / 7 < n := by
      refine Decidable.byContradiction fun hc => ?_
      have := h0 (k / 7) (k % 7) (by omega) (by omega) (Or.inl (by omega))
      rw [show 7 * (k / 7) + k % 7 = k by omega] at this
      rw [this] at hz
      exact absurd hz (by decide)
    have hq : k % 7 < n := by
      refine Decidable.byContradiction fun hc => ?_
      have := h0 (k / 7) (k % 7) (by omega) (by omega) (Or.inr (by omega))
      rw [show 7 * (k / 7) + k % 7 = k by omega] at this
      rw [this] at hz
      exact absurd hz (by decide)
    obtain ⟨d1, d2⟩ := divmod_row (r := k / 7) hq
    refine ⟨n * (k / 7) + k % 7, (mul_lt7 hr hq hn).1, ?_⟩
    rw [d1, d2, show 7 * (k / 7) + k % 7 = k by omega]
    exact hz
/-- a loop that keeps an answer 1 as long as all is well -/
theorem lp_keep {body : Int32 × Int32 → Option ((Int32 × Int32) ⊕ Int32)} (P : Nat → Bool) (N : Nat) (b : Bool) (hs : ∀ j, j < N → body (1, nI j) = some (.inl (b2i (P j), nI (j + 1)))) (h0 : ∀ j, j < N → body (0, nI j) = some (.inl (0, nI (j + 1)))) (he : ∀ x, body (x, nI N) = some (.inr x)) (hN : N < 100000) : lpN body FU (b2i b, (0 : Int32)) = some (b2i (b && allB P N)) := by
  have h := lp_cnt (body := body) (fun j => b2i (b && allB P j)) N (b2i (b && allB P N)) (fun j hj => by
    rw [allB]
    cases hb : (b && allB P j) with
    | false =>
      rw [show b2i false = 0 from rfl, h0 j hj, ← Bool.and_assoc, hb, Bool.false_and]
      rfl
    | true =>
      rw [show b2i true = 1 from rfl, hs j hj, ← Bool.and_assoc, hb, Bool.true_and]) (he _) hN
  rw [show (b && allB P 0) = b from Bool.and_true b] at h
  exact h
theorem nn_loop (z : Nat → Int32) (b : Bool) : lpN (f_X10_canApart_L1 z) FU (b2i b, (0 : Int32)) = some (b2i (b && nn z)) := by
  refine lp_keep (fun k => !decide (z k < 0)) 49 b (fun j hj => ?_) (fun j hj => ?_) (fun x => ?_) (by omega)
  · rw [f_X10_canApart_L1, if_neg (by rw [show (49 : Int32) = nI 49 from rfl, nI_leI (by omega) (by omega)]; omega), if_neg (by decide), gd_okI (by omega) (by omega), nI_clamp (by omega)]
    by_cases h : z j < 0
    · rw [if_pos h, pl_e, nI_1, decide_eq_true h]
      rfl
    · rw [if_neg h, pl_e, nI_1, decide_eq_false h]
      rfl
  · rw [f_X10_canApart_L1, if_neg (by rw [show (49 : Int32) = nI 49 from rfl, nI_leI (by omega) (by omega)]; omega), if_pos rfl, pl_e, nI_1]
  · rw [f_X10_canApart_L1, if_pos (by decide)]
theorem nn_loop2 (z : Nat → Int32) (b : Bool) : lpN (f_X10_canScale_L1 z) FU (b2i b, (0 : Int32)) = some (b2i (b && nn z)) := by
  refine lp_keep (fun k => !decide (z k < 0)) 49 b (fun j hj => ?_) (fun j hj => ?_) (fun x => ?_) (by omega)
  · rw [f_X10_canScale_L1, if_neg (by rw [show (49 : Int32) = nI 49 from rfl, nI_leI (by omega) (by omega)]; omega), if_neg (by decide), gd_okI (by omega) (by omega), nI_clamp (by omega)]
    by_cases h : z j < 0
    · rw [if_pos h, pl_e, nI_1, decide_eq_true h]
      rfl
    · rw [if_neg h, pl_e, nI_1, decide_eq_false h]
      rfl
  · rw [f_X10_canScale_L1, if_neg (by rw [show (49 : Int32) = nI 49 from rfl, nI_leI (by omega) (by omega)]; omega), if_pos rfl, pl_e, nI_1]
  · rw [f_X10_canScale_L1, if_pos (by decide)]
def TA (z : Nat → Int32) (n : Nat) : Bool := (LSb z n && !decide (rowSum z n 0 < 1)) && nn z
theorem b2i_gd {α : Type} {b : Bool} {K : Option α} : gd (b2i b = 0 ∨ b2i b = 1) K = K := gd_t (by cases b <;> decide)
theorem mcanApart_n {z : Nat → Int32} {n : Nat} (hz49 : z 49 = nI n) (h1 : 1 ≤ n) (hn : n ≤ 7) : f_X10_canApart z = some (b2i (TA z n)) := by
  unfold f_X10_canApart
  rw [areSumsLike_n hz49 h1 hn, bs]
  have ey : (if b2i (LSb z n) = 0 then some (0 : Int32) else (f_X10_sumOfLine z (0 : Int32) (0 : Int32)).bind (fun r_5 => if r_5 < (1 : Int32) then some (0 : Int32) else some (1 : Int32))) = some (b2i (LSb z n && !decide (rowSum z n 0 < 1))) := by
    cases LSb z n with
    | false => rfl
    | true =>
      rw [if_neg (show ¬ b2i true = 0 by decide), show (0 : Int32) = nI 0 from rfl, sumOfLine_n hz49 (by omega) hn, if_pos (show nI 0 = 0 from rfl), bs, Bool.true_and]
      by_cases h : rowSum z n 0 < 1
      · rw [if_pos h, decide_eq_true h]
        rfl
      · rw [if_neg h, decide_eq_false h]
        rfl
  rw [ey, bs, nn_loop, bs, b2i_gd]
  rfl
theorem canApart_n {c z : Nat → Int32} {n : Nat} (h : Mx n c z) : f_X4_canBeTakenApart (nI n) c = some (b2i (TA z n)) := by
  obtain ⟨h1, hn, hc, hz49, h0, hz⟩ := h
  unfold f_X4_canBeTakenApart
  have hl := least_neg h1 hn h0
  rw [least_n h1 hn, bs, extA_congr hc hn _ (Nat.le_refl _), hasLikeSums_n h1 hn, LSb_congr hc hn]
  unfold TA
  cases hnn : nn z with
  | false =>
    rw [if_pos (hl.mpr hnn), Bool.and_false]
    rfl
  | true =>
    rw [if_neg (fun hh => by rw [hl.mp hh] at hnn; cases hnn), bs, Bool.and_true]
    cases LSb z n with
    | false => rfl
    | true =>
      rw [if_neg (show ¬ b2i true = 0 by decide), show (0 : Int32) = nI 0 from rfl, sumOfRow_n (by omega) hn, bs, rowSum_congr hc (by omega) hn, Bool.true_and]
      by_cases h : rowSum z n 0 < 1
      · rw [if_pos h, decide_eq_true h]
        rfl
      · rw [if_neg h, decide_eq_false h]
        rfl
