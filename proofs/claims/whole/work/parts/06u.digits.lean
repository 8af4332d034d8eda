/-! MATHEMATICS: an order's number and its digits; the least on a diagonal -/
theorem numL_dg : ∀ (m : Nat) (q : List Nat), q.length = m → (∀ v ∈ q, v < 10) → numL q < 10 ^ m ∧ ∀ i, i < m → dg (numL q) i = q.getD (m - 1 - i) 0 := by
  intro m
  induction m with
  | zero =>
    intro q hq _
    have : q = [] := List.length_eq_zero_iff.mp hq
    subst this
    exact ⟨by decide, fun i hi => absurd hi (by omega)⟩
  | succ m ih =>
    intro q hq hv
    have hne : q ≠ [] := by
      intro e
      rw [e] at hq
      cases hq
    obtain ⟨L, b, rfl⟩ : ∃ L b, q = L ++ [b] := ⟨q.dropLast, q.getLast hne, (List.dropLast_concat_getLast hne).symm⟩
    have hL : L.length = m := by
      rw [List.length_append, List.length_singleton] at hq
      omega
    have hb : b < 10 := hv b (by simp)
    obtain ⟨h1, h2⟩ := ih L hL (fun v hv2 => hv v (List.mem_append_left _ hv2))
    rw [numL_push]
    refine ⟨by rw [Nat.pow_succ]; omega, fun i hi => ?_⟩
    cases i with
    | zero =>
      unfold dg
      rw [Nat.pow_zero, Nat.div_one, show m + 1 - 1 - 0 = L.length by omega]
      rw [List.getD_eq_getElem?_getD, List.getElem?_append_right (Nat.le_refl _), Nat.sub_self]
      show (10 * numL L + b) % 10 = b
      omega
    | succ i =>
      have e1 : dg (10 * numL L + b) (i + 1) = dg (numL L) i := by
        unfold dg
        rw [Nat.pow_succ, Nat.mul_comm (10 ^ i) 10, ← Nat.div_div_eq_div_mul, show (10 * numL L + b) / 10 = numL L by omega]
      rw [e1, h2 i (by omega), List.getD_eq_getElem?_getD, List.getD_eq_getElem?_getD, List.getElem?_append_left (by omega), show m + 1 - 1 - (i + 1) = m - 1 - i by omega]
theorem getD_inj {p : List Nat} (hp : p.Nodup) {i j : Nat} (hi : i < p.length) (hj : j < p.length) (h : p.getD i 0 = p.getD j 0) : i = j := by
  rw [List.getD_eq_getElem?_getD, List.getD_eq_getElem?_getD, List.getElem?_eq_getElem hi, List.getElem?_eq_getElem hj] at h
  rw [List.Nodup, List.pairwise_iff_getElem] at hp
  rcases Nat.lt_trichotomy i j with h1 | h1 | h1
  · exact absurd h (hp i j hi hj h1)
  · exact h1
  · exact absurd h.symm (hp j i hj hi h1)
theorem prm_nodup {n : Nat} {p : List Nat} (h : p ∈ prm n (List.range n)) : p.Nodup :=
  (prm_perm n _ List.length_range p h).nodup_iff.mpr List.nodup_range
theorem prm_onto {n : Nat} {p : List Nat} (h : p ∈ prm n (List.range n)) {a : Nat} (ha : a < n) : ∃ r, r < n ∧ p.getD r 0 = a := by
  have hm : a ∈ p := (prm_perm n _ List.length_range p h).mem_iff.mpr (List.mem_range.mpr ha)
  obtain ⟨r, h1, h2⟩ := List.getElem_of_mem hm
  have hl := (prm_range_mem h).1
  refine ⟨r, by omega, ?_⟩
  rw [List.getD_eq_getElem?_getD, List.getElem?_eq_getElem h1]
  exact h2
theorem numL_VD {n : Nat} (hn : n ≤ 7) {p : List Nat} (h : p ∈ prm n (List.range n)) : VD (numL p) n ∧ numL p < 2 ^ 31 ∧ ∀ i, i < n → dg (numL p) i = p.getD (n - 1 - i) 0 := by
  obtain ⟨hl, hv⟩ := prm_range_mem h
  obtain ⟨h1, h2⟩ := numL_dg n p hl (fun v hv2 => by have := hv v hv2; omega)
  have h3 : 10 ^ n ≤ 10 ^ 7 := Nat.pow_le_pow_right (by omega) hn
  refine ⟨⟨fun j hj => ⟨?_, ?_⟩, Nat.div_eq_of_lt h1⟩, by omega, h2⟩
  · rw [h2 j hj]
    exact getD_mem hl hv (by omega)
  · cases hb : (um (numL p) j).testBit (dg (numL p) j) with
    | false => rfl
    | true =>
      obtain ⟨i, hi, he⟩ := (um_bit _ _ _).mp hb
      rw [h2 i (by omega), h2 j hj] at he
      have := getD_inj (prm_nodup h) (by omega) (by omega) he
      omega
/-- the least of the first i, and 20 -/
def gmn (x : Nat → Int32) : Nat → Int32
  | 0 => 20
  | i + 1 => if x i < gmn x i then x i else gmn x i
theorem gmn_n {g : Nat → Nat} {x : Nat → Int32} {n : Nat} (h1 : 1 ≤ n) (hx : ∀ i, i < n → x i = nI (g i)) (hg : ∀ i, i < n → g i ≤ 20) : ∃ v, gmn x n = nI v ∧ (∀ i, i < n → v ≤ g i) ∧ ∃ i, i < n ∧ v = g i := by
  have key : ∀ m, m ≤ n → ∃ v, gmn x m = nI v ∧ v ≤ 20 ∧ (∀ i, i < m → v ≤ g i) ∧ (v = 20 ∨ ∃ i, i < m ∧ v = g i) := by
    intro m
    induction m with
    | zero => intro _; exact ⟨20, rfl, by omega, fun i hi => absurd hi (by omega), Or.inl rfl⟩
    | succ m ih =>
      intro hm
      obtain ⟨v, e1, e2, e3, e4⟩ := ih (by omega)
      have hgm := hg m (by omega)
      rw [gmn, e1, hx m (by omega)]
      by_cases hlt : g m < v
      · rw [if_pos (by rw [nI_ltI (by omega) (by omega)]; exact hlt)]
        refine ⟨g m, rfl, by omega, fun i hi => ?_, Or.inr ⟨m, by omega, rfl⟩⟩
        by_cases e : i = m
        · subst e; exact Nat.le_refl _
        · have := e3 i (by omega); omega
      · rw [if_neg (by rw [nI_ltI (by omega) (by omega)]; exact hlt)]
        refine ⟨v, rfl, e2, fun i hi => ?_, ?_⟩
        · by_cases e : i = m
          · subst e; omega
          · exact e3 i (by omega)
        · rcases e4 with e4 | ⟨i, e4, e5⟩
          · exact Or.inl e4
          · exact Or.inr ⟨i, by omega, e5⟩
  obtain ⟨v, e1, e2, e3, e4⟩ := key n (Nat.le_refl _)
  refine ⟨v, e1, e3, ?_⟩
  rcases e4 with e4 | e4
  · have := e3 0 (by omega)
    have := hg 0 (by omega)
    exact ⟨0, by omega, by omega⟩
  · exact e4
/-- the least of the first i + 1 -/
def gm1 (x : Nat → Int32) : Nat → Int32
  | 0 => x 0
  | i + 1 => if gm1 x i ≤ x (i + 1) then gm1 x i else x (i + 1)
theorem gm1_n {g : Nat → Nat} {x : Nat → Int32} {n : Nat} (hx : ∀ i, i < n → x i = nI (g i)) (hg : ∀ i, i < n → g i ≤ 20) : ∀ m, m < n → ∃ v, gm1 x m = nI v ∧ v ≤ 20 ∧ (∀ i, i < m + 1 → v ≤ g i) ∧ ∃ i, i < m + 1 ∧ v = g i := by
  intro m
  induction m with
  | zero =>
    intro hm
    exact ⟨g 0, hx 0 hm, hg 0 hm, fun i hi => by rw [show i = 0 by omega]; exact Nat.le_refl _, 0, by omega, rfl⟩
  | succ m ih =>
    intro hm
    obtain ⟨v, e1, e2, e3, i, e4, e5⟩ := ih (by omega)
    have hgm := hg (m + 1) hm
    rw [gm1, e1, hx (m + 1) hm]
    by_cases hle : v ≤ g (m + 1)
    · rw [if_pos (by rw [nI_leI (by omega) (by omega)]; exact hle)]
      refine ⟨v, rfl, e2, fun j hj => ?_, i, by omega, e5⟩
      by_cases e : j = m + 1
      · subst e; exact hle
      · exact e3 j (by omega)
    · rw [if_neg (by rw [nI_leI (by omega) (by omega)]; exact hle)]
      refine ⟨g (m + 1), rfl, hgm, fun j hj => ?_, m + 1, by omega, rfl⟩
      by_cases e : j = m + 1
      · subst e; exact Nat.le_refl _
      · have := e3 j (by omega); omega
/-- the weight of a diagonal, on both sides -/
theorem leastOn_n {W : Nat → Nat} {c : Nat → Int32} {n : Nat} (h1 : 1 ≤ n) (hn : n ≤ 7) {p : List Nat} (h : p ∈ prm n (List.range n)) (hc : ∀ k, k < 49 → c k = nI (W k)) (hW : ∀ k, k < 49 → W k ≤ 20) : ∃ v, f_X4_leastOn (nI n) c (nI (numL p)) = some (nI v) ∧ (∀ i, i < n → v ≤ W (7 * i + p.getD i 0)) ∧ ∃ i, i < n ∧ v = W (7 * i + p.getD i 0) := by
  obtain ⟨hv, ha, hd⟩ := numL_VD hn h
  obtain ⟨hl, hm⟩ := prm_range_mem h
  have hb : ∀ i, i < n → p.getD i 0 < n := fun i hi => getD_mem hl hm hi
  obtain ⟨v, e1, e2, i, e3, e4⟩ := gmn_n (g := fun i => W (7 * (n - 1 - i) + p.getD (n - 1 - i) 0)) (x := fun i => c (7 * (n - 1 - i) + dg (numL p) i)) h1 (fun i hi => by
    have := hb (n - 1 - i) (by omega)
    show c (7 * (n - 1 - i) + dg (numL p) i) = nI (W (7 * (n - 1 - i) + p.getD (n - 1 - i) 0))
    rw [hd i hi]
    exact hc _ (by omega)) (fun i hi => by
    have := hb (n - 1 - i) (by omega)
    exact hW _ (by omega))
  refine ⟨v, ?_, fun j hj => ?_, n - 1 - i, by omega, e4⟩
  · unfold f_X4_leastOn
    rw [pl_e, show (20 : Int32) = gmn (fun i => c (7 * (n - 1 - i) + dg (numL p) i)) 0 from rfl, lp_dig ha h1 hn (gmn (fun i => c (7 * (n - 1 - i) + dg (numL p) i))) (gmn (fun i => c (7 * (n - 1 - i) + dg (numL p) i)) n) (fun i hi => by
      rw [f_X4_leastOn_L1, if_neg (nI_pos (by omega)), dig_rem ha, at_n (by omega) (hv.1 i hi).1 hn, bs]
      rfl) (fun d => by
      rw [f_X4_leastOn_L1, if_pos (by decide)]), bs, e1]
  · have := e2 (n - 1 - j) (by omega)
    rw [show n - 1 - (n - 1 - j) = j by omega] at this
    exact this
theorem mleastOn_n {W : Nat → Nat} {z c o : Nat → Int32} {n : Nat} (hz49 : z 49 = nI n) (h1 : 1 ≤ n) (hn : n ≤ 7) {p : List Nat} (h : p ∈ prm n (List.range n)) (ho : Od o p) (hc : ∀ k, k < 49 → c k = nI (W k)) (hW : ∀ k, k < 49 → W k ≤ 20) : ∃ v, f_X10_leastOnOrder z o c = some (nI v) ∧ (∀ i, i < n → v ≤ W (7 * i + p.getD i 0)) ∧ ∃ i, i < n ∧ v = W (7 * i + p.getD i 0) := by
  obtain ⟨hl, hm⟩ := prm_range_mem h
  have hb : ∀ i, i < n → p.getD i 0 < n := fun i hi => getD_mem hl hm hi
  obtain ⟨v, e1, -, e2, e3⟩ := gm1_n (g := fun i => W (7 * i + p.getD i 0)) (x := fun i => c (7 * i + p.getD i 0)) (n := n) (fun i hi => by
    have := hb i hi
    exact hc _ (by omega)) (fun i hi => by
    have := hb i hi
    exact hW _ (by omega)) (n - 1) (by omega)
  rw [show n - 1 + 1 = n by omega] at e2 e3
  refine ⟨v, ?_, e2, e3⟩
  have hb0 := hb 0 (by omega)
  unfold f_X10_leastOnOrder
  rw [gd_t (by decide), show (0 : Int32).toNatClampNeg = 0 from rfl, ho.getD (show 0 < p.length by omega), gd_okI (by omega) (by omega), nI_clamp (by omega), pl_e]
  have hr := lp_run (body := f_X10_leastOnOrder_L1 z o c) (fun j => (gm1 (fun i => c (7 * i + p.getD i 0)) j, nI (j + 1))) (n - 1) (gm1 (fun i => c (7 * i + p.getD i 0)) (n - 1)) (fun j hj => by
    have hbj := hb (j + 1) (by omega)
    rw [f_X10_leastOnOrder_L1, gd_t (by decide), mz49 hz49, if_neg (by rw [nI_leI (by omega) (by omega)]; omega), gd_okI (by omega) (by omega), nI_clamp (by omega), ho.getD (by omega), show ((7 : Int32) * nI (j + 1)) = nI (7 * (j + 1)) from pk_mul 7 (j + 1), nI_add, gd_okI (by omega) (by omega), nI_clamp (by omega), pl_e, pl_e, pl_e, nI_1, gm1]
    by_cases hq : gm1 (fun i => c (7 * i + p.getD i 0)) j ≤ c (7 * (j + 1) + p.getD (j + 1) 0)
    · rw [if_pos hq, if_pos hq]
    · rw [if_neg hq, if_neg hq]) (by
    rw [f_X10_leastOnOrder_L1, gd_t (by decide), mz49 hz49, if_pos (by rw [nI_leI (by omega) (by omega)]; omega)]) (fuel := FU) (FU_lt (by omega))
  rw [gm1, show 7 * 0 + p.getD 0 0 = p.getD 0 0 by omega] at hr
  rw [show nI (0 + 1) = (1 : Int32) from rfl] at hr
  rw [hr, bs, e1]
