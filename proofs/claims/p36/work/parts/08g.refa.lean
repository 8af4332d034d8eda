/-! THE LAW'S METHODS: calls that are refused, or bring nothing -/
theorem set_v {n : Nat} {m : Nat → Int32} (hn : n ≤ 7) {x y : Int32} (h : (∀ k, k < n → x ≠ nI k) ∨ (∀ k, k < n → y ≠ nI k)) (ns : Int32) (nc : Nat → Int32) (ho hc s0 s1 s2 s3 : Int32) (c0 c1 c2 c3 : Nat → Int32) (e : Int32) : f_X9_set (nI n) m ns nc ho hc s0 c0 s1 c1 s2 c2 s3 c3 x y e = some (-2000000001, nI n, m, ns, nc, ho, hc, s0, c0, s1, c1, s2, c2, s3, c3) := by
  rcases line_cases n x with hx | hx
  · rcases h with h | h
    · obtain ⟨k, hk, rfl⟩ := hx
      exact absurd rfl (h k hk)
    · exact set_u hn (Or.inr ⟨hx, h⟩) ns nc ho hc s0 s1 s2 s3 c0 c1 c2 c3 e
  · exact set_u hn (Or.inl hx) ns nc ho hc s0 s1 s2 s3 c0 c1 c2 c3 e
theorem swapRows_v {n : Nat} {m : Nat → Int32} (hn : n ≤ 7) {x y : Int32} (h : (∀ k, k < n → x ≠ nI k) ∨ (∀ k, k < n → y ≠ nI k)) (ns : Int32) (nc : Nat → Int32) (ho hc s0 s1 s2 s3 : Int32) (c0 c1 c2 c3 : Nat → Int32)  : f_X9_swapRows (nI n) m ns nc ho hc s0 c0 s1 c1 s2 c2 s3 c3 x y = some (-2000000001, nI n, m, ns, nc, ho, hc, s0, c0, s1, c1, s2, c2, s3, c3) := by
  rcases line_cases n x with hx | hx
  · rcases h with h | h
    · obtain ⟨k, hk, rfl⟩ := hx
      exact absurd rfl (h k hk)
    · exact swapRows_u hn (Or.inr ⟨hx, h⟩) ns nc ho hc s0 s1 s2 s3 c0 c1 c2 c3
  · exact swapRows_u hn (Or.inl hx) ns nc ho hc s0 s1 s2 s3 c0 c1 c2 c3
theorem swapColumns_v {n : Nat} {m : Nat → Int32} (hn : n ≤ 7) {x y : Int32} (h : (∀ k, k < n → x ≠ nI k) ∨ (∀ k, k < n → y ≠ nI k)) (ns : Int32) (nc : Nat → Int32) (ho hc s0 s1 s2 s3 : Int32) (c0 c1 c2 c3 : Nat → Int32)  : f_X9_swapColumns (nI n) m ns nc ho hc s0 c0 s1 c1 s2 c2 s3 c3 x y = some (-2000000001, nI n, m, ns, nc, ho, hc, s0, c0, s1, c1, s2, c2, s3, c3) := by
  rcases line_cases n x with hx | hx
  · rcases h with h | h
    · obtain ⟨k, hk, rfl⟩ := hx
      exact absurd rfl (h k hk)
    · exact swapColumns_u hn (Or.inr ⟨hx, h⟩) ns nc ho hc s0 s1 s2 s3 c0 c1 c2 c3
  · exact swapColumns_u hn (Or.inl hx) ns nc ho hc s0 s1 s2 s3 c0 c1 c2 c3
theorem set_o0 {n : Nat} {m : Nat → Int32} (h1 : 1 ≤ n) (hn : n ≤ 7) {e : Int32} (he : e < (-20 : Int32) ∨ (20 : Int32) < e) (ns : Int32) (nc : Nat → Int32) (ho hc s0 s1 s2 s3 : Int32) (c0 c1 c2 c3 : Nat → Int32) : f_X9_set (nI n) m ns nc ho hc s0 c0 s1 c1 s2 c2 s3 c3 (0 : Int32) (0 : Int32) e = some (-2000000002, nI n, m, ns, nc, ho, hc, s0, c0, s1, c1, s2, c2, s3, c3) := set_o (i := 0) (j := 0) hn (by omega) (by omega) ns nc ho hc s0 s1 s2 s3 c0 c1 c2 c3 he
theorem set_same {n i : Nat} {m z : Nat → Int32} (hM : Mx n m z) (hi : i < n) (ns : Int32) (nc : Nat → Int32) (ho hc s0 s1 s2 s3 : Int32) (c0 c1 c2 c3 : Nat → Int32) : f_X9_set (nI n) m ns nc ho hc s0 c0 s1 c1 s2 c2 s3 c3 (nI i) (0 : Int32) (z (7 * i + 0)) = some (-2000000005, nI n, m, ns, nc, ho, hc, s0, c0, s1, c1, s2, c2, s3, c3) := by
  obtain ⟨h1, h7, hcz, hz, h0, hb⟩ := hM
  have hbz := hb (7 * i + 0) (by omega)
  have e1 : ¬ z (7 * i + 0) < (-20 : Int32) := by
    rw [Int32.lt_iff_toInt_lt, show (-20 : Int32).toInt = -20 by decide]; omega
  have e2 : ¬ (20 : Int32) < z (7 * i + 0) := by
    rw [Int32.lt_iff_toInt_lt, show (20 : Int32).toInt = 20 by decide]; omega
  have hE : f_X9_isEntry (z (7 * i + 0)) = some 1 := by
    unfold f_X9_isEntry
    rw [if_neg e1, if_neg e2]
  have hh0 : f_X4_has (nI n) (0 : Int32) = some 1 := has_n (k := 0) (by omega) h7
  have ha0 : f_X4_at (nI n) m (nI i) (0 : Int32) = some (m (7 * i + 0)) := at_n (c := 0) hi (by omega) h7 m
  unfold f_X9_set
  rw [has_n hi h7, hh0, hE, ha0]
  simp only [bs, i10, ↓reduceIte]
  rw [hcz _ (show 7 * i + 0 < 49 by omega), if_pos rfl]
theorem swapRows_same {n o c i : Nat} {S : Nat → Int32} {C : Nat → Nat → Int32} {m z : Nat → Int32} (hM : Mx n m z) (hH : Hs o c S C) (hi : i < n) (ns : Int32) (nc : Nat → Int32) : ∃ nc', f_X9_swapRows (nI n) m ns nc (nI o) (nI c) (S 0) (C 0) (S 1) (C 1) (S 2) (C 2) (S 3) (C 3) (nI i) (nI i) = some (-2000000005, nI n, m, nI n, nc', nI o, nI c, S 0, C 0, S 1, C 1, S 2, C 2, S 3, C 3) := by
  rcases swapRows_c hM hH hi hi ns nc with ⟨d, h⟩ | ⟨d, -⟩
  · exact h
  · rw [du_rows hM hi hi, cntB_false (fun k _ => by simp)] at d
    exact absurd rfl d
theorem swapColumns_same {n o c : Nat} {S : Nat → Int32} {C : Nat → Nat → Int32} {m z : Nat → Int32} (hM : Mx n m z) (hH : Hs o c S C) (ns : Int32) (nc : Nat → Int32) : ∃ nc', f_X9_swapColumns (nI n) m ns nc (nI o) (nI c) (S 0) (C 0) (S 1) (C 1) (S 2) (C 2) (S 3) (C 3) (0 : Int32) (0 : Int32) = some (-2000000005, nI n, m, nI n, nc', nI o, nI c, S 0, C 0, S 1, C 1, S 2, C 2, S 3, C 3) := by
  have hi : 0 < n := hM.1
  rcases swapColumns_c hM hH hi hi ns nc with ⟨d, h⟩ | ⟨d, -⟩
  · exact h
  · rw [du_cols hM hi hi, cntB_false (fun k _ => by simp)] at d
    exact absurd rfl d
theorem multiply_same {n o c : Nat} {S : Nat → Int32} {C : Nat → Nat → Int32} {m z : Nat → Int32} (hM : Mx n m z) (hH : Hs o c S C) (ns : Int32) (nc : Nat → Int32) : ∃ nc', f_X9_multiply (nI n) m ns nc (nI o) (nI c) (S 0) (C 0) (S 1) (C 1) (S 2) (C 2) (S 3) (C 3) (0 : Int32) (1 : Int32) = some (-2000000005, nI n, m, nI n, nc', nI o, nI c, S 0, C 0, S 1, C 1, S 2, C 2, S 3, C 3) := by
  have hi : 0 < n := hM.1
  have h7 := hM.2.1
  have hb := hM.2.2.2.2.2
  rcases multiply_c hM hH hi ns nc (f := 1) (by decide) (by decide) with ⟨⟨q, hq, d⟩, -⟩ | ⟨-, ⟨d, h⟩ | ⟨d, -⟩⟩
  · have hbz := hb (7 * 0 + q) (by omega)
    unfold bad at d
    rw [Int32.mul_one, Int32.lt_iff_toInt_lt, Int32.lt_iff_toInt_lt, show (-20 : Int32).toInt = -20 by decide, show (20 : Int32).toInt = 20 by decide] at d
    omega
  · exact h
  · rw [du_mul hM hi (by decide), if_pos rfl] at d
    exact absurd rfl d
theorem multiply_o0 {n : Nat} {m : Nat → Int32} (h1 : 1 ≤ n) (hn : n ≤ 7) (ns : Int32) (nc : Nat → Int32) (ho hc s0 s1 s2 s3 : Int32) (c0 c1 c2 c3 : Nat → Int32) {f : Int32} (h : f < (-9 : Int32) ∨ (9 : Int32) < f) : f_X9_multiply (nI n) m ns nc ho hc s0 c0 s1 c1 s2 c2 s3 c3 (0 : Int32) f = some (-2000000002, nI n, m, ns, nc, ho, hc, s0, c0, s1, c1, s2, c2, s3, c3) := multiply_o (i := 0) hn (by omega) ns nc ho hc s0 s1 s2 s3 c0 c1 c2 c3 h
theorem no_c {n x : Nat} (h1 : 1 ≤ n) (hn : n ≤ 7) (hx : x < 2 ^ 31) : ∃ no : Int32, (∀ k, k < n → no ≠ nI k) ∧ (if (nI x - nI x / (2 : Int32) * (2 : Int32)) = 0 then some ((-1 : Int32) - (nI x - nI x / (99 : Int32) * (99 : Int32))) else some (nI n + (nI x - nI x / (99 : Int32) * (99 : Int32)))) = some no := by
  have e1 : nI x - nI x / (99 : Int32) * (99 : Int32) = nI (x % 99) := n_rem x 99 hx (by omega) (by omega)
  have h2 : x % 99 < 99 := Nat.mod_lt _ (by omega)
  rw [e1]
  by_cases e : (nI x - nI x / (2 : Int32) * (2 : Int32)) = 0
  · rw [if_pos e]
    refine ⟨_, fun k hk h => ?_, rfl⟩
    have h3 := congrArg Int32.toInt h
    rw [Int32.toInt_sub, nI_toInt (by omega), nI_toInt (by omega), show (-1 : Int32).toInt = -1 by decide, Int.bmod_eq_of_le (by omega) (by omega)] at h3
    omega
  · rw [if_neg e, nI_add]
    refine ⟨_, fun k hk h => ?_, rfl⟩
    have := nI_inj (by omega) (by omega) h
    omega
theorem neg_c {x : Nat} (hx : x < 2 ^ 31) : (-1 : Int32) - (nI x - nI x / (99 : Int32) * (99 : Int32)) < 0 := by
  have e1 : nI x - nI x / (99 : Int32) * (99 : Int32) = nI (x % 99) := n_rem x 99 hx (by omega) (by omega)
  have h2 : x % 99 < 99 := Nat.mod_lt _ (by omega)
  rw [e1, Int32.lt_iff_toInt_lt, Int32.toInt_sub, nI_toInt (by omega), show (-1 : Int32).toInt = -1 by decide, Int.bmod_eq_of_le (by omega) (by omega), show (0 : Int32).toInt = 0 by decide]
  omega
theorem far_c {x : Nat} (hx : x < 2 ^ 31) : ∃ e : Int32, (e < (-20 : Int32) ∨ (20 : Int32) < e) ∧ (if (nI x - nI x / (2 : Int32) * (2 : Int32)) = 0 then some ((-21 : Int32) - (nI x - nI x / (99 : Int32) * (99 : Int32))) else some ((21 : Int32) + (nI x - nI x / (99 : Int32) * (99 : Int32)))) = some e := by
  have e1 : nI x - nI x / (99 : Int32) * (99 : Int32) = nI (x % 99) := n_rem x 99 hx (by omega) (by omega)
  have h2 : x % 99 < 99 := Nat.mod_lt _ (by omega)
  rw [e1]
  by_cases e : (nI x - nI x / (2 : Int32) * (2 : Int32)) = 0
  · rw [if_pos e]
    refine ⟨_, Or.inl ?_, rfl⟩
    rw [Int32.lt_iff_toInt_lt, Int32.toInt_sub, nI_toInt (by omega), show (-21 : Int32).toInt = -21 by decide, Int.bmod_eq_of_le (by omega) (by omega), show (-20 : Int32).toInt = -20 by decide]
    omega
  · rw [if_neg e]
    refine ⟨_, Or.inr ?_, rfl⟩
    rw [Int32.lt_iff_toInt_lt, Int32.toInt_add, nI_toInt (by omega), show (21 : Int32).toInt = 21 by decide, Int.bmod_eq_of_le (by omega) (by omega), show (20 : Int32).toInt = 20 by decide]
    omega
theorem or_c {P : Int32 → Prop} (p : Prop) [Decidable p] {a b : Int32} (ha : P a) (hb : P b) : ∃ e, P e ∧ (if p then some a else some b) = some e := by
  by_cases h : p
  · exact ⟨a, ha, by rw [if_pos h]⟩
  · exact ⟨b, hb, by rw [if_neg h]⟩
theorem dg_0 (i : Nat) : dg 0 i = 0 := by
  unfold dg
  rw [Nat.zero_div]
theorem VD_no0 {n : Nat} (h1 : 1 ≤ n) (hn : n ≤ 7) : ∃ a, a < 2 ^ 31 ∧ (if nI n = (1 : Int32) then some (1 : Int32) else some (0 : Int32)) = some (nI a) ∧ ¬ VD a n := by
  by_cases e : n = 1
  · subst e
    refine ⟨1, by omega, rfl, fun h => ?_⟩
    have := (h.1 0 (by omega)).1
    exact absurd this (by decide)
  · refine ⟨0, by omega, ?_, fun h => ?_⟩
    · rw [if_neg (show ¬ nI n = (1 : Int32) from fun h => e (nI_inj (b := 1) (by omega) (by omega) h))]
      rfl
    · have := VD_dist h (i := 0) (j := 1) (by omega) (by omega) (by rw [dg_0, dg_0])
      omega
theorem VD_no8 {n x : Nat} (h1 : 1 ≤ n) (hn : n ≤ 7) (hx : x < 2 ^ 31) : ∃ a, a < 2 ^ 31 ∧ (8 : Int32) + (nI x - nI x / (2 : Int32) * (2 : Int32)) = nI a ∧ ¬ VD a n := by
  have e1 : nI x - nI x / (2 : Int32) * (2 : Int32) = nI (x % 2) := n_rem x 2 hx (by omega) (by omega)
  have h2 : x % 2 < 2 := Nat.mod_lt _ (by omega)
  refine ⟨8 + x % 2, by omega, by rw [e1]; exact nI_add 8 _, fun h => ?_⟩
  have := (h.1 0 (by omega)).1
  unfold dg at this
  rw [Nat.pow_zero, Nat.div_one] at this
  omega
theorem VD_no7 {n : Nat} (h1 : 1 ≤ n) (hn : n ≤ 7) : ∃ a, a < 2 ^ 31 ∧ (if nI n = (7 : Int32) then some (6543211 : Int32) else some (nI n)) = some (nI a) ∧ ¬ VD a n := by
  by_cases e : n = 7
  · subst e
    refine ⟨6543211, by omega, rfl, fun h => ?_⟩
    have := VD_dist h (i := 0) (j := 1) (by omega) (by omega) (by decide)
    omega
  · refine ⟨n, by omega, ?_, fun h => ?_⟩
    · rw [if_neg (show ¬ nI n = (7 : Int32) from fun h => e (nI_inj (b := 7) (by omega) (by omega) h))]
    · have := (h.1 0 (by omega)).1
      unfold dg at this
      rw [Nat.pow_zero, Nat.div_one] at this
      omega
theorem mask_1n : ∀ n, n ≤ 7 → 1 ≤ n → ¬ ((1 : Int32) <<< (nI n &&& 31)) &&& (nI (2 ^ n - 1) ^^^ (-1 : Int32)) = 0 := by decide +kernel
theorem mask_m1 : ∀ n, n ≤ 7 → 1 ≤ n → ¬ (-1 : Int32) &&& (nI (2 ^ n - 1) ^^^ (-1 : Int32)) = 0 := by decide +kernel
theorem mask_1 : ∀ n, n ≤ 7 → 1 ≤ n → (1 : Int32) &&& (nI (2 ^ n - 1) ^^^ (-1 : Int32)) = 0 := by decide +kernel
theorem mask_0 : ∀ n, n ≤ 7 → 1 ≤ n → (0 : Int32) &&& (nI (2 ^ n - 1) ^^^ (-1 : Int32)) = 0 := by decide +kernel
theorem bc_1 : f_J6_bitCount_0f7a4 (1 : Int32) = some (1 : Int32) := by decide +kernel
theorem bc_0 : f_J6_bitCount_0f7a4 (0 : Int32) = some (0 : Int32) := by decide +kernel
theorem up1 {n : Nat} (hn : n ≤ 7) : nI n < nI n + (1 : Int32) := by
  rw [nI_1, nI_ltI (by omega) (by omega)]
  omega
set_option maxHeartbeats 4000000 in
theorem refusesAny_c {n o c x : Nat} {S : Nat → Int32} {C : Nat → Nat → Int32} {m z : Nat → Int32} (hM : Mx n m z) (hH : Hs o c S C) (hx : x < 2 ^ 31) (ns : Int32) (nc : Nat → Int32) (ms : Int32) (mc : Nat → Int32) (tx : Nat → Int32) (p1 p2 p3 p4 p5 : Int32) (t : Nat → Int64) (v : Nat → Int32) :
    ∃ ns' nc' q1 q2 q3 q4 q5, f_L_refusesAny (nI n) m ns nc ms mc (nI o) (nI c) (S 0) (C 0) (S 1) (C 1) (S 2) (C 2) (S 3) (C 3) (nI 0) tx p1 p2 p3 p4 p5 t v (nI x) = some (1, nI n, m, ns', nc', ms, mc, nI o, nI c, S 0, C 0, S 1, C 1, S 2, C 2, S 3, C 3, nI 0, q1, q2, q3, q4, q5, t, v) := by
  obtain ⟨h1, h7, hcz, hz, h0, hb⟩ := id hM
  obtain ⟨no, hno, eno⟩ := no_c h1 h7 hx
  obtain ⟨far, hfar, efar⟩ := far_c hx
  obtain ⟨e8, he8, ee8⟩ := or_c (P := fun x => x < 1 ∨ (7 : Int32) < x) (nI x - nI x / (2 : Int32) * (2 : Int32) = 0) (a := 0) (b := 8) (Or.inl (by decide)) (Or.inr (by decide))
  obtain ⟨e10, he10, ee10⟩ := or_c (P := fun x => x < (-9 : Int32) ∨ (9 : Int32) < x) (nI x - nI x / (2 : Int32) * (2 : Int32) = 0) (a := -10) (b := 10) (Or.inl (by decide)) (Or.inr (by decide))
  obtain ⟨e9, he9, ee9⟩ := or_c (P := fun x => x < 0 ∨ (8 : Int32) < x) (nI x - nI x / (2 : Int32) * (2 : Int32) = 0) (a := -1) (b := 9) (Or.inl (by decide)) (Or.inr (by decide))
  obtain ⟨eb, -, eeb⟩ := or_c (P := fun _ => True) (nI x - nI x / (3 : Int32) * (3 : Int32) = 0) (a := 1) (b := 0) trivial trivial
  obtain ⟨a0, ha0, ea0, va0⟩ := VD_no0 h1 h7
  obtain ⟨a8, ha8, ea8, va8⟩ := VD_no8 h1 h7 hx
  obtain ⟨a7, ha7, ea7, va7⟩ := VD_no7 h1 h7
  have hneg := neg_c hx
  have en1 : nI n - (1 : Int32) = nI (n - 1) := pk_sub h1
  have hn1 : n - 1 < n := by omega
  have e0 : f_X9_entry (nI n) m (nI (n - 1)) (0 : Int32) = some (z (7 * (n - 1) + 0)) := entry_c hM hn1 (show 0 < n by omega)
  unfold f_L_refusesAny
  rw [total0_c, bs, eno, bs, efar, bs, ee8, bs, clear_o _ _ _ _ _ _ _ _ _ _ _ _ _ he8, bs]
  dsimp only
  rw [if_pos rfl, en1]
  rw [set_v h7 (Or.inl hno), bs]
  dsimp only
  rw [if_pos rfl]
  rw [set_v h7 (Or.inr hno), bs]
  dsimp only
  rw [if_pos rfl]
  rw [set_o0 h1 h7 hfar, bs]
  dsimp only
  rw [if_pos rfl]
  rw [e0, bs]
  rw [set_same hM hn1, bs]
  dsimp only
  rw [if_pos rfl]
  rw [swapRows_v h7 (Or.inl hno), bs]
  dsimp only
  rw [if_pos rfl]
  rw [swapRows_v h7 (Or.inr hno), bs]
  dsimp only
  rw [if_pos rfl]
  obtain ⟨nc1, g1⟩ := swapRows_same hM hH hn1 ns nc
  rw [g1, bs]
  dsimp only
  rw [if_pos rfl]
  rw [swapColumns_v h7 (Or.inl hno), bs]
  dsimp only
  rw [if_pos rfl]
  rw [swapColumns_v h7 (Or.inr hno), bs]
  dsimp only
  rw [if_pos rfl]
  obtain ⟨nc2, g2⟩ := swapColumns_same hM hH (nI n) nc1
  rw [g2, bs]
  dsimp only
  rw [if_pos rfl]
  rw [multiply_u h7 hno, bs]
  dsimp only
  rw [if_pos rfl]
  rw [ee10, bs]
  rw [multiply_o0 h1 h7 _ _ _ _ _ _ _ _ _ _ _ _ he10, bs]
  dsimp only
  rw [if_pos rfl]
  obtain ⟨nc3, g3⟩ := multiply_same hM hH (nI n) nc2
  rw [g3, bs]
  dsimp only
  rw [if_pos rfl, bs]
  dsimp only
  rw [if_neg i10]
  rw [add_u h1 h7 (Or.inl hneg), bs]
  dsimp only
  rw [if_pos rfl]
  rw [ea0, bs]
  rw [add_u h1 h7 (Or.inr ⟨a0, ha0, rfl, va0⟩), bs]
  dsimp only
  rw [if_pos rfl]
  rw [ea8]
  rw [add_u h1 h7 (Or.inr ⟨a8, ha8, rfl, va8⟩), bs]
  dsimp only
  rw [if_pos rfl]
  rw [ea7, bs]
  rw [add_u h1 h7 (Or.inr ⟨a7, ha7, rfl, va7⟩), bs]
  dsimp only
  rw [if_pos rfl]
  rw [entry_u h7 (Or.inl hno), bs, if_pos rfl, entry_u h7 (Or.inr hno), bs, if_pos rfl, ee9, bs, total_o _ _ he9, bs, if_pos rfl, eeb, bs, lineSum_u h7 hno, bs, if_pos rfl]
  rw [wholeDiagonal_o hneg, bs]
  dsimp only
  rw [if_pos rfl]
  rw [through_u h7 (Or.inl hno), bs]
  dsimp only
  rw [if_pos rfl]
  rw [through_u h7 (Or.inr hno), bs]
  dsimp only
  rw [if_pos rfl]
  rw [rooks_o (Or.inl (show (-1 : Int32) < 0 by decide)), bs]
  dsimp only
  rw [if_pos rfl]
  rw [rooks_o (Or.inr (up1 h7)), bs]
  dsimp only
  rw [if_pos rfl, bs]
  dsimp only
  rw [if_neg i10]
  rw [minor_u h7 (Or.inl hno), bs]
  dsimp only
  rw [if_pos (cmp_eq rfl)]
  rw [minor_u h7 (Or.inr hno), bs]
  dsimp only
  rw [if_pos (cmp_eq rfl)]
  rw [permanentOf_u h7 (Or.inl (mask_1n n h7 h1)), bs]
  dsimp only
  rw [if_pos (cmp_eq rfl)]
  rw [permanentOf_u h7 (Or.inr (mask_1n n h7 h1)), bs]
  dsimp only
  rw [if_pos (cmp_eq rfl)]
  rw [permanentOf_u h7 (Or.inl (mask_m1 n h7 h1)), bs]
  dsimp only
  rw [if_pos (cmp_eq rfl)]
  rw [permanentOf_p h7 (mask_1 n h7 h1) (mask_0 n h7 h1) bc_1 bc_0 (by decide), bs]
  dsimp only
  rw [if_pos (cmp_eq rfl)]
  rw [sumOf_o (Or.inl (show (-1 : Int32) < 0 by decide)), bs]
  dsimp only
  rw [if_pos (cmp_eq rfl)]
  rw [sumOf_o (Or.inr (up1 h7)), bs]
  dsimp only
  rw [if_pos (cmp_eq rfl), bs]
  dsimp only
  rw [if_neg i10]
  rw [clearText_c, bs]
  dsimp only
  rw [if_pos rfl]
  obtain ⟨q1, q2, q3, q4, q5, ns', nc', g9⟩ := read_c (n := n) (m := m) p1 p2 p3 p4 p5 (nI n) nc3 tx (nI o) (nI c) (S 0) (S 1) (S 2) (S 3) (C 0) (C 1) (C 2) (C 3)
  rw [g9, bs]
  dsimp only
  rw [if_pos rfl]
  exact ⟨ns', nc', q1, q2, q3, q4, q5, rfl⟩
