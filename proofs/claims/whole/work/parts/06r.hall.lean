/-! MATHEMATICS: every order is among the orders -/
theorem prm_all : ∀ (k : Nat) (s q : List Nat), s.length = k → q.Perm s → q ∈ prm k s := by
  intro k
  induction k with
  | zero =>
    intro s q hs hq
    have : s = [] := List.length_eq_zero_iff.mp hs
    subst this
    rw [prm, List.mem_singleton]
    exact List.perm_nil.mp hq
  | succ k ih =>
    intro s q hs hq
    cases q with
    | nil =>
      have := hq.length_eq
      rw [hs] at this
      cases this
    | cons a q =>
      have ha : a ∈ s := hq.mem_iff.mp List.mem_cons_self
      rw [prm, List.mem_flatMap]
      refine ⟨a, ha, ?_⟩
      rw [List.mem_map]
      refine ⟨q, ih (s.erase a) q (by rw [List.length_erase_of_mem ha]; omega) ?_, rfl⟩
      exact (List.perm_cons a).mp (hq.trans (List.perm_cons_erase ha))
/-- sums of naturals over two lines -/
theorem sN_le_sum {f g : Nat → Nat} {n : Nat} (h : ∀ k, k < n → f k ≤ g k) : sN f n ≤ sN g n := by
  induction n with
  | zero => exact Nat.le_refl _
  | succ n ih =>
    have h1 := ih (fun k hk => h k (by omega))
    have h2 := h n (by omega)
    rw [sN, sN]
    omega
theorem sN_add2 (f g : Nat → Nat) (n : Nat) : sN (fun k => f k + g k) n = sN f n + sN g n := by
  induction n with
  | zero => rfl
  | succ n ih => rw [sN, sN, sN, ih]; omega
theorem sN_zero (n : Nat) : sN (fun _ => 0) n = 0 := by
  induction n with
  | zero => rfl
  | succ n ih => rw [sN, ih]
theorem sN_swap (f : Nat → Nat → Nat) (m n : Nat) : sN (fun i => sN (fun j => f i j) n) m = sN (fun j => sN (fun i => f i j) m) n := by
  induction m with
  | zero => show (0 : Nat) = sN (fun j => 0) n; rw [sN_zero]
  | succ m ih =>
    show sN (fun i => sN (fun j => f i j) n) m + sN (fun j => f m j) n = sN (fun j => sN (fun i => f i j) m + f m j) n
    rw [ih, sN_add2]
theorem sN_cnt (P : Nat → Bool) (c n : Nat) : sN (fun k => if P k then c else 0) n = c * cntB P n := by
  induction n with
  | zero => rfl
  | succ n ih =>
    rw [sN, ih, cntB]
    by_cases h : P n = true
    · rw [if_pos h, if_pos h, Nat.mul_add, Nat.mul_one]
    · rw [if_neg h, if_neg h, Nat.add_zero, Nat.add_zero]
/-- the columns that some row of R has -/
def nbr (adj : Nat → Nat → Bool) (n : Nat) (R : Nat → Bool) (S : Nat → Bool) : Nat → Bool := fun a => S a && !allB (fun r => !(R r && adj r a)) n
theorem nbr_t {adj : Nat → Nat → Bool} {n : Nat} {R S : Nat → Bool} {a : Nat} : nbr adj n R S a = true ↔ S a = true ∧ ∃ r, r < n ∧ R r = true ∧ adj r a = true := by
  unfold nbr
  rw [Bool.and_eq_true]
  constructor
  · intro h
    refine ⟨h.1, ?_⟩
    refine Decidable.byContradiction fun hc => ?_
    have : allB (fun r => !(R r && adj r a)) n = true := allB_t.mpr (fun r hr => by
      cases hh : (R r && adj r a) with
      | false => rfl
      | true =>
        rw [Bool.and_eq_true] at hh
        exact absurd ⟨r, hr, hh.1, hh.2⟩ hc)
    rw [this] at h
    exact absurd h.2 (by decide)
  · intro h
    obtain ⟨h1, r, h2, h3, h4⟩ := h
    refine ⟨h1, ?_⟩
    rw [allB_f h2 (by rw [h3, h4]; rfl)]
    rfl
/-- like sums: as many columns as rows -/
theorem like_hall {w : Nat → Nat → Nat} {n c : Nat} (hc : 0 < c) (hr : ∀ r, r < n → sN (fun a => w r a) n = c) (hq : ∀ a, a < n → sN (fun r => w r a) n = c) (R : Nat → Bool) : cntB R n ≤ cntB (nbr (fun r a => decide (0 < w r a)) n R (fun _ => true)) n := by
  have e1 : c * cntB R n = sN (fun r => if R r then sN (fun a => w r a) n else 0) n := by
    rw [← sN_cnt]
    exact sN_congr (fun r h => by
      by_cases hR : R r = true
      · rw [if_pos hR, if_pos hR, hr r h]
      · rw [if_neg hR, if_neg hR])
  have e2 : sN (fun r => if R r then sN (fun a => w r a) n else 0) n = sN (fun r => sN (fun a => if R r then w r a else 0) n) n := sN_congr (fun r h => by
    by_cases hR : R r = true
    · rw [if_pos hR]
      exact sN_congr (fun a _ => by rw [if_pos hR])
    · rw [if_neg hR]
      have : (fun a => if R r = true then w r a else 0) = fun _ => 0 := by
        funext a
        rw [if_neg hR]
      rw [this, sN_zero])
  have e3 : sN (fun a => sN (fun r => if R r then w r a else 0) n) n ≤ sN (fun a => if nbr (fun r a => decide (0 < w r a)) n R (fun _ => true) a then c else 0) n := sN_le_sum (fun a ha => by
    by_cases hn : nbr (fun r a => decide (0 < w r a)) n R (fun _ => true) a = true
    · rw [if_pos hn, ← hq a ha]
      refine sN_le_sum (fun r _ => ?_)
      by_cases hR : R r = true
      · rw [if_pos hR]
        exact Nat.le_refl _
      · rw [if_neg hR]
        exact Nat.zero_le _
    · rw [if_neg hn]
      have : sN (fun r => if R r then w r a else 0) n = sN (fun _ => 0) n := sN_congr (fun r hr' => by
        by_cases hR : R r = true
        · rw [if_pos hR]
          refine Decidable.byContradiction fun hcc => ?_
          exact hn (nbr_t.mpr ⟨rfl, r, hr', hR, by simp; omega⟩)
        · rw [if_neg hR])
      rw [this, sN_zero]
      exact Nat.le_refl _)
  rw [sN_cnt, sN_swap, ← e2, ← e1] at e3
  exact Nat.le_of_mul_le_mul_left e3 hc
