/-! MATHEMATICS, part c: sums of lines, yes and no, extremes -/
theorem lp_cnt {α ρ : Type} {body : α × Int32 → Option ((α × Int32) ⊕ ρ)} (A : Nat → α) (N : Nat) (r : ρ) (hs : ∀ j, j < N → body (A j, nI j) = some (.inl (A (j + 1), nI (j + 1)))) (he : body (A N, nI N) = some (.inr r)) (hN : N < 100000) : lpN body FU (A 0, nI 0) = some r := lp_run (fun j => (A j, nI j)) N r hs he (FU_lt hN)
theorem lp_cntR {α ρ : Type} {body : Int32 × α → Option ((Int32 × α) ⊕ ρ)} (A : Nat → α) (N : Nat) (r : ρ) (hs : ∀ j, j < N → body (nI j, A j) = some (.inl (nI (j + 1), A (j + 1)))) (he : body (nI N, A N) = some (.inr r)) (hN : N < 100000) : lpN body FU (nI 0, A 0) = some r := lp_run (fun j => (nI j, A j)) N r hs he (FU_lt hN)
def b2i (b : Bool) : Int32 := if b then 1 else 0
def allB (P : Nat → Bool) : Nat → Bool
  | 0 => true
  | n + 1 => allB P n && P n
theorem allB_t {P : Nat → Bool} {n : Nat} : allB P n = true ↔ ∀ k, k < n → P k = true := by
  induction n with
  | zero => exact ⟨fun _ k hk => absurd hk (by omega), fun _ => rfl⟩
  | succ n ih =>
    rw [allB, Bool.and_eq_true, ih]
    constructor
    · intro h k hk
      by_cases e : k = n
      · subst e; exact h.2
      · exact h.1 k (by omega)
    · intro h
      exact ⟨fun k hk => h k (by omega), h n (by omega)⟩
theorem allB_f {P : Nat → Bool} {n k : Nat} (hk : k < n) (h : P k = false) : allB P n = false := by
  cases e : allB P n with
  | false => rfl
  | true => rw [allB_t.mp e k hk] at h; cases h
theorem allB_congr {P R : Nat → Bool} {n : Nat} (h : ∀ k, k < n → P k = R k) : allB P n = allB R n := by
  induction n with
  | zero => rfl
  | succ n ih => rw [allB, allB, ih (fun k hk => h k (by omega)), h n (by omega)]
/-- a search that ends at the first fault: its answer is the whole's -/
theorem lp_all {ρ : Type} {body : Int32 → Option (Int32 ⊕ ρ)} (P : Nat → Bool) (N : Nat) (bad r : ρ) (hs : ∀ k, k < N → P k = true → body (nI k) = some (.inl (nI (k + 1)))) (hb : ∀ k, k < N → P k = false → body (nI k) = some (.inr bad)) (he : body (nI N) = some (.inr r)) (hN : N < 100000) : lpN body FU (nI 0) = some (if allB P N then r else bad) := by
  rcases lp_find (body := body) (fun k => nI k) (fun k => P k = false) N (fun _ => bad) r (fun k hk h => hs k hk (by cases e : P k with | true => rfl | false => exact absurd e h)) hb he (FU_lt hN) with ⟨h1, h2⟩ | ⟨k, h1, h2, -, h4⟩
  · rw [if_pos]
    · exact h2
    · exact allB_t.mpr (fun k hk => by cases e : P k with | true => rfl | false => exact absurd e (h1 k hk))
  · rw [allB_f h1 h2]
    exact h4
def rowSum (z : Nat → Int32) (n r : Nat) : Int32 := sI (fun q => z (7 * r + q)) n
def colSum (z : Nat → Int32) (n q : Nat) : Int32 := sI (fun r => z (7 * r + q)) n
theorem sumOfRow_n {n r : Nat} (hr : r < n) (hn : n ≤ 7) (z : Nat → Int32) : f_X4_sumOfRow (nI n) z (nI r) = some (rowSum z n r) := by
  unfold f_X4_sumOfRow
  have h := lp_cnt (body := f_X4_sumOfRow_L1 (nI r) (nI n) z) (fun j => sI (fun q => z (7 * r + q)) j) n (rowSum z n r) (fun j hj => by
    rw [f_X4_sumOfRow_L1]
    rw [at_n hr hj hn]
    simp (disch := omega) only [lit32, bs, pl_e, gd_okI, nI_leI, nI_ltI, nI_eq, nI_add, pk_mul, pk_sub, nI_m1', nI_clamp, if_pos, if_neg, ↓reduceIte]
    rfl) (by
    rw [f_X4_sumOfRow_L1]
    simp (disch := omega) only [lit32, bs, pl_e, gd_okI, nI_leI, nI_ltI, nI_eq, nI_add, pk_mul, pk_sub, nI_m1', nI_clamp, if_pos, if_neg, ↓reduceIte]
    rfl) (by omega)
  show (lpN (f_X4_sumOfRow_L1 (nI r) (nI n) z) FU (sI (fun q => z (7 * r + q)) 0, nI 0)).bind _ = _
  rw [h, bs]
theorem sumOfColumn_n {n r : Nat} (hr : r < n) (hn : n ≤ 7) (z : Nat → Int32) : f_X4_sumOfColumn (nI n) z (nI r) = some (colSum z n r) := by
  unfold f_X4_sumOfColumn
  have h := lp_cnt (body := f_X4_sumOfColumn_L1 (nI r) (nI n) z) (fun j => sI (fun q => z (7 * q + r)) j) n (colSum z n r) (fun j hj => by
    rw [f_X4_sumOfColumn_L1]
    rw [at_n hj hr hn]
    simp (disch := omega) only [lit32, bs, pl_e, gd_okI, nI_leI, nI_ltI, nI_eq, nI_add, pk_mul, pk_sub, nI_m1', nI_clamp, if_pos, if_neg, ↓reduceIte]
    rfl) (by
    rw [f_X4_sumOfColumn_L1]
    simp (disch := omega) only [lit32, bs, pl_e, gd_okI, nI_leI, nI_ltI, nI_eq, nI_add, pk_mul, pk_sub, nI_m1', nI_clamp, if_pos, if_neg, ↓reduceIte]
    rfl) (by omega)
  show (lpN (f_X4_sumOfColumn_L1 (nI r) (nI n) z) FU (sI (fun q => z (7 * q + r)) 0, nI 0)).bind _ = _
  rw [h, bs]
theorem sumOfAll_n {n : Nat} (hn : n ≤ 7) (z : Nat → Int32) : f_X4_sumOfAll (nI n) z = some (sI (fun r => rowSum z n r) n) := by
  unfold f_X4_sumOfAll
  have h := lp_cnt (body := f_X4_sumOfAll_L1 (nI n) z) (fun j => sI (fun r => rowSum z n r) j) n (sI (fun r => rowSum z n r) n) (fun j hj => by
    rw [f_X4_sumOfAll_L1]
    rw [sumOfRow_n hj hn]
    simp (disch := omega) only [lit32, bs, pl_e, gd_okI, nI_leI, nI_ltI, nI_eq, nI_add, pk_mul, pk_sub, nI_m1', nI_clamp, if_pos, if_neg, ↓reduceIte]
    rfl) (by
    rw [f_X4_sumOfAll_L1]
    simp (disch := omega) only [lit32, bs, pl_e, gd_okI, nI_leI, nI_ltI, nI_eq, nI_add, pk_mul, pk_sub, nI_m1', nI_clamp, if_pos, if_neg, ↓reduceIte]) (by omega)
  show (lpN (f_X4_sumOfAll_L1 (nI n) z) FU (sI (fun r => rowSum z n r) 0, nI 0)).bind _ = _
  rw [h, bs]
def LSb (z : Nat → Int32) (n : Nat) : Bool := allB (fun k => decide (rowSum z n k = rowSum z n 0) && decide (colSum z n k = rowSum z n 0)) n
theorem hasLikeSums_n {n : Nat} (h1 : 1 ≤ n) (hn : n ≤ 7) (z : Nat → Int32) : f_X4_hasLikeSums (nI n) z = some (b2i (LSb z n)) := by
  unfold f_X4_hasLikeSums
  rw [show (0 : Int32) = nI 0 from rfl, sumOfRow_n h1 hn, bs]
  rw [lp_all (body := f_X4_hasLikeSums_L1 (rowSum z n 0) (nI n) z) (fun k => decide (rowSum z n k = rowSum z n 0) && decide (colSum z n k = rowSum z n 0)) n (.inr (nI 0)) (.inl ()) (fun k hk h => by
    simp only [Bool.and_eq_true, decide_eq_true_eq] at h
    rw [f_X4_hasLikeSums_L1]
    rw [sumOfRow_n hk hn, sumOfColumn_n hk hn]
    simp (disch := omega) only [lit32, bs, pl_e, gd_okI, nI_leI, nI_ltI, nI_eq, nI_add, pk_mul, pk_sub, nI_m1', nI_clamp, if_pos, if_neg, ↓reduceIte, h]) (fun k hk h => by
    rw [f_X4_hasLikeSums_L1]
    rw [sumOfRow_n hk hn, sumOfColumn_n hk hn]
    simp (disch := omega) only [lit32, bs, pl_e, gd_okI, nI_leI, nI_ltI, nI_eq, nI_add, pk_mul, pk_sub, nI_m1', nI_clamp, if_pos, if_neg, ↓reduceIte]
    by_cases e : rowSum z n k = rowSum z n 0
    · rw [if_pos e]
      by_cases e2 : colSum z n k = rowSum z n 0
      · simp [e, e2] at h
      · rw [if_neg e2]
    · rw [if_neg e]) (by
    rw [f_X4_hasLikeSums_L1]
    simp (disch := omega) only [lit32, bs, pl_e, gd_okI, nI_leI, nI_ltI, nI_eq, nI_add, pk_mul, pk_sub, nI_m1', nI_clamp, if_pos, if_neg, ↓reduceIte]) (by omega)]
  rw [bs]
  unfold LSb
  cases allB (fun k => decide (rowSum z n k = rowSum z n 0) && decide (colSum z n k = rowSum z n 0)) n <;> rfl
/-! the model -/
theorem mz49 {z : Nat → Int32} {n : Nat} (hz : z 49 = nI n) : z (49 : Int32).toNatClampNeg = nI n := hz
