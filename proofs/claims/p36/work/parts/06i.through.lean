/-! MATHEMATICS: whole diagonals through a cell -/
theorem pL01 {f : Nat → Int64} {P : Nat → Bool} {n : Nat} (h : ∀ k, k < n → f k = if P k then 1 else 0) : pL f n = if allB P n then 1 else 0 := by
  induction n with
  | zero => rfl
  | succ n ih =>
    rw [pL, ih (fun k hk => h k (by omega)), h n (by omega), allB]
    cases allB P n <;> cases P n <;> rfl
theorem fold32 {α : Type} (F : α → Int64) (L : List α) (b : Int32) : L.foldl (fun b p => b + (F p).toInt32) b = b + (lsum F L).toInt32 := by
  induction L generalizing b with
  | nil => show b = b + (0 : Int64).toInt32; rw [show (0 : Int64).toInt32 = 0 from rfl]; grind
  | cons a L ih =>
    rw [List.foldl_cons, ih]
    show b + (F a).toInt32 + (lsum F L).toInt32 = b + (F a + lsum F L).toInt32
    rw [Int64.toInt32_add]
    grind
def fx (cell : Nat → Nat → Int64) (r q : Nat) : Nat → Nat → Int64 := fun i a => if i = r ∧ a ≠ q then 0 else cell i a
theorem sL_single (q : Nat) (v : Int64) : ∀ n, sL (fun a => if a = q then v else 0) n = if q < n then v else 0 := by
  intro n
  induction n with
  | zero => rfl
  | succ n ih =>
    rw [sL, ih]
    by_cases h : n = q
    · rw [if_pos h, if_neg (by omega), if_pos (by omega)]
      grind
    · rw [if_neg h]
      by_cases h2 : q < n
      · rw [if_pos h2, if_pos (by omega)]
        grind
      · rw [if_neg h2, if_neg (by omega)]
        grind
theorem Bk_fix (cell : Nat → Nat → Int64) {r q : Nat} (hq : q < 7) : ∀ (rs : List Nat) (S : Nat → Bool), r ∈ rs → rs.Nodup → Bk (wt false) (fx cell r q) rs S = if S q then cell r q * Bk (wt false) cell (rs.erase r) (dl S q) else 0 := by
  intro rs
  induction rs with
  | nil => intro S h; cases h
  | cons r0 rs ih =>
    intro S h hnd
    rw [List.nodup_cons] at hnd
    by_cases e : r0 = r
    · subst e
      rw [List.erase_cons_head, Bk]
      have e1 : sL (fun a => if S a then wt false S a * fx cell r0 q r0 a * Bk (wt false) (fx cell r0 q) rs (dl S a) else 0) 7 = sL (fun a => if a = q then (if S q then cell r0 q * Bk (wt false) cell rs (dl S q) else 0) else 0) 7 := by
        refine sL_congr (fun a ha => ?_)
        by_cases ea : a = q
        · subst ea
          rw [if_pos rfl]
          by_cases hS : S a = true
          · rw [if_pos hS, if_pos hS]
            show 1 * (if r0 = r0 ∧ a ≠ a then 0 else cell r0 a) * _ = _
            rw [if_neg (by simp), Bk_cell (wt false) (cell' := cell) rs (dl S a) (fun r' hr' a' _ _ => by
              show (if r' = r0 ∧ a' ≠ a then 0 else cell r' a') = _
              rw [if_neg (show ¬ (r' = r0 ∧ a' ≠ a) from fun hc => hnd.1 (hc.1 ▸ hr'))])]
            grind
          · rw [if_neg hS, if_neg hS]
        · rw [if_neg ea]
          by_cases hS : S a = true
          · rw [if_pos hS]
            show 1 * (if r0 = r0 ∧ a ≠ q then 0 else cell r0 a) * _ = _
            rw [if_pos ⟨rfl, ea⟩]
            grind
          · rw [if_neg hS]
      rw [e1, sL_single, if_pos hq]
    · have hr : r ∈ rs := by
        rcases List.mem_cons.mp h with h | h
        · exact absurd h.symm e
        · exact h
      rw [List.erase_cons_tail (by simpa using e), Bk]
      by_cases hS : S q = true
      · rw [if_pos hS, Bk, ← sL_mul]
        refine sL_congr (fun a ha => ?_)
        by_cases ea : a = q
        · subst ea
          rw [if_pos hS, ih (dl S a) hr hnd.2, if_neg (by rw [dl_self]; decide), if_neg (by rw [dl_self]; decide)]
          grind
        · rw [dl_at ea]
          by_cases hSa : S a = true
          · rw [if_pos hSa, if_pos hSa, ih (dl S a) hr hnd.2, dl_at (Ne.symm ea), if_pos hS, dl_comm S a q]
            show 1 * (if r0 = r ∧ a ≠ q then 0 else cell r0 a) * _ = _ * (1 * _ * _)
            rw [if_neg (fun hc => e hc.1)]
            grind
          · rw [if_neg hSa, if_neg hSa]
            grind
      · rw [if_neg hS]
        have e1 : sL (fun a => if S a then wt false S a * fx cell r q r0 a * Bk (wt false) (fx cell r q) rs (dl S a) else 0) 7 = sL (fun _ => 0) 7 := by
          refine sL_congr (fun a ha => ?_)
          by_cases hSa : S a = true
          · have hdq : ¬ dl S a q = true := by
              unfold dl
              rw [Bool.and_eq_true]
              exact fun hc => hS hc.1
            rw [if_pos hSa, ih (dl S a) hr hnd.2, if_neg hdq]
            grind
          · rw [if_neg hSa]
        rw [e1, sL_zero]
