/-! MATHEMATICS, part g: changes (clear, set, exchanges, turning, multiplying, keep, restore, undo) -/
theorem lp_cntE {α ρ : Type} {body : Int32 × α → Option ((Int32 × α) ⊕ ρ)} (I : Nat → α → Prop) (N : Nat) (Q : ρ → Prop) (hs : ∀ j a, j < N → I j a → ∃ a', body (nI j, a) = some (.inl (nI (j + 1), a')) ∧ I (j + 1) a') (he : ∀ a, I N a → ∃ r, body (nI N, a) = some (.inr r) ∧ Q r) (a0 : α) (h0 : I 0 a0) (hN : N < 1000) : ∃ r, lpN body FU (nI 0, a0) = some r ∧ Q r := by
  refine lp_inv (body := body) (fun s => ∃ j a, s = (nI j, a) ∧ j ≤ N ∧ I j a) (fun s => N - s.1.toNatClampNeg) Q ?_ FU _ ⟨0, a0, rfl, Nat.zero_le _, h0⟩ (FU_lt (by show N - _ < 100000; omega))
  rintro s ⟨j, a, rfl, hj, hI⟩
  by_cases e : j = N
  · subst e
    right
    exact he a hI
  · left
    obtain ⟨a', h1, h2⟩ := hs j a (by omega) hI
    refine ⟨_, h1, ⟨j + 1, a', rfl, by omega, h2⟩, ?_⟩
    show N - (nI (j + 1)).toNatClampNeg < N - (nI j).toNatClampNeg
    rw [nI_clamp (by omega), nI_clamp (by omega)]
    omega
theorem ix49 {c z : Nat → Int32} (h : ∀ r q, r < 7 → q < 7 → c (7 * r + q) = z (7 * r + q)) : ∀ k, k < 49 → c k = z k := fun k hk => by
  have := h (k / 7) (k % 7) (by omega) (Nat.mod_lt _ (by omega))
  rw [show 7 * (k / 7) + k % 7 = k by omega] at this
  exact this
theorem Mx_perm {n : Nat} {m z nc z2 : Nat → Int32} (h : Mx n m z) (s1 s2 : Nat → Nat → Nat) (hs : ∀ r q, r < 7 → q < 7 → s1 r q < 7 ∧ s2 r q < 7 ∧ ((n ≤ r ∨ n ≤ q) → (n ≤ s1 r q ∨ n ≤ s2 r q)))
    (hnc : ∀ r q, r < 7 → q < 7 → nc (7 * r + q) = z (7 * s1 r q + s2 r q)) (hz2 : ∀ r q, r < 7 → q < 7 → z2 (7 * r + q) = z (7 * s1 r q + s2 r q)) (h49 : z2 49 = nI n) : Mx n nc z2 := by
  obtain ⟨h1, h7, hc, hz, h0, hb⟩ := h
  refine ⟨h1, h7, ix49 (fun r q hr hq => by rw [hnc r q hr hq, hz2 r q hr hq]), h49, fun r q hr hq hx => ?_, fun k hk => ?_⟩
  · obtain ⟨a, b, c⟩ := hs r q hr hq
    rw [hz2 r q hr hq]
    exact h0 _ _ a b (c hx)
  · have := hz2 (k / 7) (k % 7) (by omega) (Nat.mod_lt _ (by omega))
    rw [show 7 * (k / 7) + k % 7 = k by omega] at this
    rw [this]
    obtain ⟨a, b, c⟩ := hs (k / 7) (k % 7) (by omega) (Nat.mod_lt _ (by omega))
    exact hb _ (by omega)
theorem upd_at (f : Nat → Int32) (k : Nat) (x : Int32) (j : Nat) : upd f k x j = if j = k then x else f j := rfl
theorem Mx_upd {n i j : Nat} {m z nc : Nat → Int32} (h : Mx n m z) (hi : i < n) (hj : j < n) (hc : ∀ k, k < 49 → nc k = m k) {x : Int32} (hx : -20 ≤ x.toInt ∧ x.toInt ≤ 20) : Mx n (upd nc (7 * i + j) x) (upd z (7 * i + j) x) := by
  obtain ⟨h1, h7, hcz, hz, h0, hb⟩ := h
  refine ⟨h1, h7, fun k hk => ?_, ?_, fun r q hr hq hx => ?_, fun k hk => ?_⟩
  · rw [upd_at, upd_at]
    split
    · rfl
    · rw [hc k hk, hcz k hk]
  · rw [upd_at, if_neg (by omega)]; exact hz
  · rw [upd_at, if_neg (by omega)]; exact h0 r q hr hq hx
  · rw [upd_at]
    split
    · exact hx
    · exact hb k hk
/-! the desk's and the model's changes of state -/
def dn (a b : Nat → Int32) (k : Nat) : Bool := decide (¬ a k = b k)
def cntP (P : Nat → Bool) (n : Nat) : Nat → Nat
  | 0 => 0
  | r + 1 => cntP P n r + cntB (fun q => P (7 * r + q)) n
theorem cntP_all {P : Nat → Bool} {n : Nat} (hn : n ≤ 7) (h0 : ∀ r q, r < 7 → q < 7 → (n ≤ r ∨ n ≤ q) → P (7 * r + q) = false) : cntP P n n = cntB P 49 := by
  have h1 : ∀ r, r ≤ 7 → cntP P 7 r = cntP P n r := by
    intro r
    induction r with
    | zero => intro _; rfl
    | succ r ih =>
      intro hr
      rw [cntP, cntP, ih (by omega), cntB_tail hn (fun k h1 h2 => h0 r k (by omega) h2 (Or.inr h1))]
  have h2 : ∀ d, n + d ≤ 7 → cntP P n (n + d) = cntP P n n := by
    intro d
    induction d with
    | zero => intro _; rfl
    | succ d ih =>
      intro hd
      rw [← Nat.add_assoc, cntP, ih (by omega), cntB_false (fun k hk => h0 (n + d) k (by omega) (by omega) (Or.inl (by omega))), Nat.add_zero]
  have h3 : ∀ r, cntP P 7 r = cntB P (7 * r) := by
    intro r
    induction r with
    | zero => rfl
    | succ r ih => rw [cntP, ih, Nat.mul_add, Nat.mul_one, cntB_add]
  rw [← h2 (7 - n) (by omega), show n + (7 - n) = 7 by omega, ← h1 7 (by omega), h3]
theorem cntB_le (P : Nat → Bool) (n : Nat) : cntB P n ≤ n := by
  induction n with
  | zero => exact Nat.le_refl _
  | succ n ih => rw [cntB]; split <;> omega
theorem cntB_zero {P : Nat → Bool} {n : Nat} (h : cntB P n = 0) : ∀ k, k < n → P k = false := by
  induction n with
  | zero => intro k hk; omega
  | succ n ih =>
    rw [cntB] at h
    intro k hk
    by_cases e : k = n
    · subst e
      cases hp : P k with
      | false => rfl
      | true => rw [hp] at h; simp at h
    · exact ih (by omega) k (by omega)
theorem countUnlike_n {n : Nat} (hn : n ≤ 7) (a b : Nat → Int32) : f_X4_countUnlike (nI n) a (nI n) b = some (nI (cntP (dn a b) n n)) := by
  unfold f_X4_countUnlike
  have h := lp_cnt (body := f_X4_countUnlike_L1 (nI n) a (nI n) b) (fun r => nI (cntP (dn a b) n r)) n (nI (cntP (dn a b) n n)) (fun r hr => by
    rw [f_X4_countUnlike_L1]
    have h2 := lp_cnt (body := f_X4_countUnlike_L2 (nI r) (nI n) a (nI n) b) (fun q => nI (cntP (dn a b) n r + cntB (fun q => dn a b (7 * r + q)) q)) n (nI (cntP (dn a b) n (r + 1))) (fun q hq => by
      rw [f_X4_countUnlike_L2]
      rw [at_n hr hq hn, at_n hr hq hn, cntB]
      simp (disch := omega) only [lit32, bs, pl_e, gd_okI, nI_leI, nI_ltI, nI_eq, nI_add, pk_mul, pk_sub, nI_m1', nI_clamp, if_pos, if_neg, ↓reduceIte]
      by_cases e : a (7 * r + q) = b (7 * r + q)
      · rw [if_pos e, if_neg (by simp [dn, e])]
        try rfl
      · rw [if_neg e, if_pos (by simp [dn, e])]
        try rfl) (by
      rw [f_X4_countUnlike_L2]
      simp (disch := omega) only [lit32, bs, pl_e, gd_okI, nI_leI, nI_ltI, nI_eq, nI_add, pk_mul, pk_sub, nI_m1', nI_clamp, if_pos, if_neg, ↓reduceIte]
      try rfl) (by omega)
    have h3 : lpN (f_X4_countUnlike_L2 (nI r) (nI n) a (nI n) b) FU (nI (cntP (dn a b) n r), (0 : Int32)) = some (nI (cntP (dn a b) n (r + 1))) := h2
    rw [h3]
    simp (disch := omega) only [lit32, bs, pl_e, gd_okI, nI_leI, nI_ltI, nI_eq, nI_add, pk_mul, pk_sub, nI_m1', nI_clamp, if_pos, if_neg, ↓reduceIte]) (by
    rw [f_X4_countUnlike_L1]
    simp (disch := omega) only [lit32, bs, pl_e, gd_okI, nI_leI, nI_ltI, nI_eq, nI_add, pk_mul, pk_sub, nI_m1', nI_clamp, if_pos, if_neg, ↓reduceIte]) (by omega)
  show (lpN (f_X4_countUnlike_L1 (nI n) a (nI n) b) FU (nI (cntP (dn a b) n 0), nI 0)).bind _ = _
  rw [h, bs]
theorem i10 : ¬ (1 : Int32) = 0 := by decide
/-! the calls -/
theorem in20 {x : Int32} (h1 : ¬ x < (-20 : Int32)) (h2 : ¬ (20 : Int32) < x) : -20 ≤ x.toInt ∧ x.toInt ≤ 20 := by
  rw [Int32.lt_iff_toInt_lt] at h1 h2
  have e1 : (-20 : Int32).toInt = -20 := by decide
  have e2 : (20 : Int32).toInt = 20 := by decide
  omega
