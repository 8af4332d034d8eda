/-! MATHEMATICS, part b: states, rows copied, the history -/
/-- a matrix of n rows: the desk's cells, the model's row -/
def Mx (n : Nat) (c z : Nat → Int32) : Prop := 1 ≤ n ∧ n ≤ 7 ∧ (∀ k, k < 49 → c k = z k) ∧ z 49 = nI n ∧ (∀ r q, r < 7 → q < 7 → (n ≤ r ∨ n ≤ q) → z (7 * r + q) = 0) ∧ (∀ k, k < 49 → -20 ≤ (z k).toInt ∧ (z k).toInt ≤ 20)
theorem Mx.congr {n : Nat} {c c' z z' : Nat → Int32} (h : Mx n c z) (hc : ∀ k, k < 49 → c' k = c k) (hz : ∀ k, k < 50 → z' k = z k) : Mx n c' z' := by
  obtain ⟨h1, h2, h3, h4, h5, h6⟩ := h
  refine ⟨h1, h2, fun k hk => by rw [hc k hk, hz k (by omega), h3 k hk], by rw [hz 49 (by omega), h4], fun r q hr hq h => by rw [hz _ (by omega), h5 r q hr hq h], fun k hk => by rw [hz k (by omega)]; exact h6 k hk⟩
/-- the history: a ring of states, and the model's rows -/
def HI (o c : Nat) (S : Nat → Int32) (C : Nat → Nat → Int32) (past : Nat → Int32) : Prop := o < 4 ∧ c ≤ 4 ∧ ∀ i, i < c → ∃ n, S ((o + i) % 4) = nI n ∧ Mx n (C ((o + i) % 4)) (fun k => past (50 * i + k))
theorem rem4 {o i : Nat} (ho : o < 4) (hi : i ≤ 4) : (nI o + nI i) - (nI o + nI i) / (4 : Int32) * (4 : Int32) = nI ((o + i) % 4) := by
  rw [nI_add]
  exact pk_rem (a := o + i) (d := 4) (by omega) (by omega) (by omega)
theorem placeOf_n {o i : Nat} (ho : o < 4) (hi : i ≤ 4) : f_X3_placeOf (nI o) (nI i) = some (nI ((o + i) % 4)) := by
  unfold f_X3_placeOf
  rw [pl_e, rem4 ho hi]
  have : (o + i) % 4 < 4 := Nat.mod_lt _ (by omega)
  simp (disch := omega) only [lit32, bs, pl_e, gd_okI, nI_leI, nI_ltI, nI_eq, nI_add, pk_mul, pk_sub, nI_m1', nI_clamp, if_pos, if_neg, ↓reduceIte]
def updC (C : Nat → Nat → Int32) (j : Nat) (w : Nat → Int32) : Nat → Nat → Int32 := fun k => if k = j then w else C k
