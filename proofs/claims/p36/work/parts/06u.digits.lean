/-! MATHEMATICS: an order's number and its digits; the least on a diagonal -/
theorem numL_dg : ∀ (m : Nat) (q : List Nat), q.length = m → (∀ v ∈ q, v < 10) → numL q < 10 ^ m ∧ ∀ i, i < m → dg (numL q) i = q.getD (m - 1 - i) 0 := by
  intro m
  induction m with
  | zero =>
    intro q hq _
    have : q = [] := List.length_eq_zero_iff.mp hq
    subst this
    exact ⟨by decide, fun i hi => absurd hi (by omega)⟩
  | succ m ih =>
    intro q hq hv
    have hne : q ≠ [] := by
      intro e
      rw [e] at hq
      cases hq
    obtain ⟨L, b, rfl⟩ : ∃ L b, q = L ++ [b] := ⟨q.dropLast, q.getLast hne, (List.dropLast_concat_getLast hne).symm⟩
    have hL : L.length = m := by
      rw [List.length_append, List.length_singleton] at hq
      omega
    have hb : b < 10 := hv b (by simp)
    obtain ⟨h1, h2⟩ := ih L hL (fun v hv2 => hv v (List.mem_append_left _ hv2))
    rw [numL_push]
    refine ⟨by rw [Nat.pow_succ]; omega, fun i hi => ?_⟩
    cases i with
    | zero =>
      unfold dg
      rw [Nat.pow_zero, Nat.div_one, show m + 1 - 1 - 0 = L.length by omega]
      rw [List.getD_eq_getElem?_getD, List.getElem?_append_right (Nat.le_refl _), Nat.sub_self]
      show (10 * numL L + b) % 10 = b
      omega
    | succ i =>
      have e1 : dg (10 * numL L + b) (i + 1) = dg (numL L) i := by
        unfold dg
        rw [Nat.pow_succ, Nat.mul_comm (10 ^ i) 10, ← Nat.div_div_eq_div_mul, show (10 * numL L + b) / 10 = numL L by omega]
      rw [e1, h2 i (by omega), List.getD_eq_getElem?_getD, List.getD_eq_getElem?_getD, List.getElem?_append_left (by omega), show m + 1 - 1 - (i + 1) = m - 1 - i by omega]
theorem getD_inj {p : List Nat} (hp : p.Nodup) {i j : Nat} (hi : i < p.length) (hj : j < p.length) (h : p.getD i 0 = p.getD j 0) : i = j := by
  rw [List.getD_eq_getElem?_getD, List.getD_eq_getElem?_getD, List.getElem?_eq_getElem hi, List.getElem?_eq_getElem hj] at h
  rw [List.Nodup, List.pairwise_iff_getElem] at hp
  rcases Nat.lt_trichotomy i j with h1 | h1 | h1
  · exact absurd h (hp i j hi hj h1)
  · exact h1
  · exact absurd h.symm (hp j i hj hi h1)
theorem prm_nodup {n : Nat} {p : List Nat} (h : p ∈ prm n (List.range n)) : p.Nodup :=
  (prm_perm n _ List.length_range p h).nodup_iff.mpr List.nodup_range
theorem prm_onto {n : Nat} {p : List Nat} (h : p ∈ prm n (List.range n)) {a : Nat} (ha : a < n) : ∃ r, r < n ∧ p.getD r 0 = a := by
  have hm : a ∈ p := (prm_perm n _ List.length_range p h).mem_iff.mpr (List.mem_range.mpr ha)
  obtain ⟨r, h1, h2⟩ := List.getElem_of_mem hm
  have hl := (prm_range_mem h).1
  refine ⟨r, by omega, ?_⟩
  rw [List.getD_eq_getElem?_getD, List.getElem?_eq_getElem h1]
  exact h2
theorem numL_VD {n : Nat} (hn : n ≤ 7) {p : List Nat} (h : p ∈ prm n (List.range n)) : VD (numL p) n ∧ numL p < 2 ^ 31 ∧ ∀ i, i < n → dg (numL p) i = p.getD (n - 1 - i) 0 := by
  obtain ⟨hl, hv⟩ := prm_range_mem h
  obtain ⟨h1, h2⟩ := numL_dg n p hl (fun v hv2 => by have := hv v hv2; omega)
  have h3 : 10 ^ n ≤ 10 ^ 7 := Nat.pow_le_pow_right (by omega) hn
  refine ⟨⟨fun j hj => ⟨?_, ?_⟩, Nat.div_eq_of_lt h1⟩, by omega, h2⟩
  · rw [h2 j hj]
    exact getD_mem hl hv (by omega)
  · cases hb : (um (numL p) j).testBit (dg (numL p) j) with
    | false => rfl
    | true =>
      obtain ⟨i, hi, he⟩ := (um_bit _ _ _).mp hb
      rw [h2 i (by omega), h2 j hj] at he
      have := getD_inj (prm_nodup h) (by omega) (by omega) he
      omega
