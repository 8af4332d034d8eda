/-! MATHEMATICS, part i: turning, multiplying, keep, restore, undo, the text's ends -/
theorem cpy50 (z old : Nat → Int32) {x : Nat} (hx : x < 50) : va_cpy z old 0 0 50 x = z x := by
  show (if 0 ≤ x ∧ x < 0 + 50 then z (0 + (x - 0)) else old x) = z x
  rw [if_pos (by omega), Nat.zero_add, Nat.sub_zero]
theorem not_in {x lo hi : Int32} : (if x < lo then (0 : Int32) else if hi < x then 0 else 1) = 0 ↔ (x < lo ∨ hi < x) := by
  by_cases h : x < lo
  · simp [h]
  · by_cases h2 : hi < x
    · simp [h, h2]
    · simp [h, h2]
/-- the snapshot: whether there is one, and what it is -/
def KI (b : Bool) (ks : Int32) (kc kept : Nat → Int32) : Prop := b = true → ∃ n, ks = nI n ∧ Mx n kc kept
