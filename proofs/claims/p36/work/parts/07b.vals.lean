/-! MATHEMATICS, the class alone: what its calls read -/
theorem entry_c {n i j : Nat} {c z : Nat → Int32} (h : Mx n c z) (hi : i < n) (hj : j < n) : f_X9_entry (nI n) c (nI i) (nI j) = some (z (7 * i + j)) := by
  obtain ⟨h1, h7, hc, hz, h0, hb⟩ := h
  unfold f_X9_entry
  rw [has_n hi h7, has_n hj h7, at_n hi hj h7, hc _ (by omega)]
  rfl
theorem entry_u {n : Nat} {c : Nat → Int32} (hn : n ≤ 7) {x y : Int32} (h : (∀ k, k < n → x ≠ nI k) ∨ (∀ k, k < n → y ≠ nI k)) : f_X9_entry (nI n) c x y = some (-2000000001) := by
  unfold f_X9_entry
  rcases line_cases n x with ⟨k, hk, rfl⟩ | hx
  · rw [has_n hk hn]
    rcases h with h | h
    · exact absurd rfl (h k hk)
    · rw [has_no h hn]
      rfl
  · rw [has_no hx hn]
    rfl
theorem total0_c (n : Nat) (c : Nat → Int32) (hs ln : Int32) : f_X9_total (nI n) c hs ln 0 = some (nI n) := rfl
theorem total7_c (n : Nat) (c : Nat → Int32) (hs ln : Int32) : f_X9_total (nI n) c hs ln 7 = some hs := by
  unfold f_X9_total f_X3_count
  rw [if_neg (by decide), if_neg (by decide), if_neg (by decide), if_neg (by decide), if_neg (by decide), if_neg (by decide), if_neg (by decide), if_pos (by decide)]
  rfl
theorem total1_c {n : Nat} {c z : Nat → Int32} (h : Mx n c z) (hs ln : Int32) : f_X9_total (nI n) c hs ln 1 = some (nI (cntB (nz z) 49)) := by
  obtain ⟨h1, h7, hc, hz, h0, hb⟩ := h
  have h0c : ∀ r q, r < 7 → q < 7 → (n ≤ r ∨ n ≤ q) → c (7 * r + q) = 0 := fun r q hr hq h => by rw [hc _ (by omega), h0 r q hr hq h]
  unfold f_X9_total
  rw [if_neg (by decide), if_pos rfl, countNotZero_n h7, cnt2_all h7 h0c, cntB_congr (fun k hk => by unfold nz; rw [hc k hk])]
  rfl
theorem total2_c {n : Nat} {c z : Nat → Int32} (h : Mx n c z) (hs ln : Int32) : f_X9_total (nI n) c hs ln 2 = some (sI z 49) := by
  obtain ⟨h1, h7, hc, hz, h0, hb⟩ := h
  have h0c : ∀ r q, r < 7 → q < 7 → (n ≤ r ∨ n ≤ q) → c (7 * r + q) = 0 := fun r q hr hq h => by rw [hc _ (by omega), h0 r q hr hq h]
  unfold f_X9_total
  rw [if_neg (by decide), if_neg (by decide), if_pos (by decide), sumOfAll_n h7, sumAll_eq h7 h0c, sI_congr hc]
  rfl
/-- symmetric, or not -/
def SY (z : Nat → Int32) : Bool := allB (fun k => decide (z k = z (k % 7 * 7 + k / 7))) 49
theorem total5_c {n : Nat} {c z : Nat → Int32} (h : Mx n c z) (hs ln : Int32) : f_X9_total (nI n) c hs ln 5 = some (b2i (SY z)) := by
  obtain ⟨h1, h7, hc, hz, h0, hb⟩ := h
  have h0c : ∀ r q, r < 7 → q < 7 → (n ≤ r ∨ n ≤ q) → c (7 * r + q) = 0 := fun r q hr hq h => by rw [hc _ (by omega), h0 r q hr hq h]
  unfold f_X9_total
  rw [if_neg (by decide), if_neg (by decide), if_neg (by decide), if_neg (by decide), if_neg (by decide), if_pos (by decide), isSymmetric_n h1 h7, symm_eq h7 h0c, show allB (fun k => decide (c k = c (k % 7 * 7 + k / 7))) 49 = SY z from allB_congr (fun k hk => by
    have hm : k % 7 < 7 := Nat.mod_lt _ (by omega)
    rw [hc k hk, hc _ (by omega)])]
  cases SY z <;> rfl
theorem total_o {n1 : Int32} {c : Nat → Int32} (hs ln : Int32) {x : Int32} (h : x < 0 ∨ (8 : Int32) < x) : f_X9_total n1 c hs ln x = some (-2000000002) := by
  have e : ∀ k : Nat, k ≤ 8 → ¬ x = nI k := fun k hk e => by
    subst e
    rcases h with h | h
    · rw [show (0 : Int32) = nI 0 from rfl, nI_ltI (by omega) (by omega)] at h
      omega
    · rw [show (8 : Int32) = nI 8 from rfl, nI_ltI (by omega) (by omega)] at h
      omega
  unfold f_X9_total
  rw [if_neg (show ¬ x = (0 : Int32) from e 0 (by omega)), if_neg (show ¬ x = (1 : Int32) from e 1 (by omega)), if_neg (show ¬ x = (2 : Int32) from e 2 (by omega)), if_neg (show ¬ x = (3 : Int32) from e 3 (by omega)), if_neg (show ¬ x = (4 : Int32) from e 4 (by omega)), if_neg (show ¬ x = (5 : Int32) from e 5 (by omega)), if_neg (show ¬ x = (6 : Int32) from e 6 (by omega)), if_neg (show ¬ x = (7 : Int32) from e 7 (by omega)), if_neg (show ¬ x = (8 : Int32) from e 8 (by omega))]
theorem lineSum_c {n i : Nat} {c z : Nat → Int32} (h : Mx n c z) (hi : i < n) : f_X9_lineSum (nI n) c (nI i) 0 = some (rowSum z n i) := by
  obtain ⟨h1, h7, hc, hz, h0, hb⟩ := h
  unfold f_X9_lineSum
  rw [has_n hi h7, sumOfRow_n hi h7, rowSum_congr hc (by omega) h7]
  rfl
theorem lineSum_u {n : Nat} {c : Nat → Int32} (hn : n ≤ 7) {x : Int32} (h : ∀ k, k < n → x ≠ nI k) (b : Int32) : f_X9_lineSum (nI n) c x b = some (-2000000001) := by
  unfold f_X9_lineSum
  rw [has_no h hn]
  rfl
/-! permanents, determinants -/
def PM (n : Nat) (z : Nat → Int32) : Int64 := Bk (wt false) (cl z) (List.range n) (tb (2 ^ n - 1))
def DT (n : Nat) (z : Nat → Int32) : Int64 := Bk (wt true) (cl z) (List.range n) (tb (2 ^ n - 1))
def MN (n : Nat) (z : Nat → Int32) (r q : Nat) : Int64 := Bk (wt false) (cl z) (fl (tb (2 ^ n - 1 - 2 ^ r)) 7) (tb (2 ^ n - 1 - 2 ^ q))
def RK (n : Nat) (z : Nat → Int32) (k : Nat) : Int32 := (sL (fun s => if pc s = k then Bs (mk z) n (tb s) else 0) (2 ^ n)).toInt32
theorem Bk_full (w : (Nat → Bool) → Nat → Int64) {n : Nat} {cell cell' : Nat → Nat → Int64} (hn : n ≤ 7) (h : ∀ r a, r < n → a < n → cell r a = cell' r a) : Bk w cell (List.range n) (tb (2 ^ n - 1)) = Bk w cell' (List.range n) (tb (2 ^ n - 1)) := by
  have := Bk_mat w hn (full_lt n) (full_lt n) h
  rw [fl_full n hn] at this
  exact this
theorem cl_congr {n : Nat} {c z : Nat → Int32} (hn : n ≤ 7) (h : ∀ k, k < 49 → c k = z k) : ∀ r a, r < n → a < n → cl c r a = cl z r a := fun r a hr ha => by
  unfold cl
  rw [h _ (by omega)]
theorem permanent_c {n : Nat} {c z : Nat → Int32} (h : Mx n c z) (t : Nat → Int64) : ∃ t', f_X9_permanent (nI n) c t = some (PM n z, t') := by
  obtain ⟨h1, hn, hc, hz49, h0, hz⟩ := h
  obtain ⟨t', e1⟩ := expand_n hn (full_lt n) (full_lt n) t c
  rw [fl_full n hn, Bk_full (wt false) hn (cl_congr hn hc)] at e1
  refine ⟨t', ?_⟩
  unfold f_X9_permanent
  rw [allLines_n n hn, bs, bs, e1, bs]
  rfl
theorem determinant_c {n : Nat} {c z : Nat → Int32} (h : Mx n c z) (t : Nat → Int64) : ∃ t', f_X9_determinant (nI n) c t = some (DT n z, t') := by
  obtain ⟨h1, hn, hc, hz49, h0, hz⟩ := h
  obtain ⟨t', e1⟩ := determinant_n hn t c
  rw [Bk_full (wt true) hn (cl_congr hn hc)] at e1
  exact ⟨t', e1⟩
theorem minor_c {n r q : Nat} {c z : Nat → Int32} (h : Mx n c z) (hr : r < n) (hq : q < n) (t : Nat → Int64) : ∃ t', f_X9_minor (nI n) c t (nI r) (nI q) = some (MN n z r q, t') := by
  obtain ⟨h1, hn, hc, hz49, h0, hz⟩ := h
  obtain ⟨t', e1⟩ := expandWithout_n hn hr hq t c
  have l1 := Nat.sub_le (2 ^ n - 1) (2 ^ r)
  have l2 := Nat.sub_le (2 ^ n - 1) (2 ^ q)
  have l3 := full_lt n
  rw [Bk_mat (wt false) hn (by omega) (by omega) (cl_congr hn hc)] at e1
  refine ⟨t', ?_⟩
  unfold f_X9_minor
  rw [has_n hr hn, has_n hq hn, bs, if_neg i10, bs, if_neg i10, e1, bs]
  rfl
theorem minor_u {n : Nat} {c : Nat → Int32} (hn : n ≤ 7) {x y : Int32} (h : (∀ k, k < n → x ≠ nI k) ∨ (∀ k, k < n → y ≠ nI k)) (t : Nat → Int64) : f_X9_minor (nI n) c t x y = some (-9000000000000000001, t) := by
  unfold f_X9_minor
  rcases line_cases n x with ⟨k, hk, rfl⟩ | hx
  · rw [has_n hk hn]
    rcases h with h | h
    · exact absurd rfl (h k hk)
    · rw [has_no h hn]
      rfl
  · rw [has_no hx hn]
    rfl
theorem permanentOf_u {n : Nat} {c : Nat → Int32} (hn : n ≤ 7) {x y : Int32} (h : ¬ x &&& (nI (2 ^ n - 1) ^^^ (-1 : Int32)) = 0 ∨ ¬ y &&& (nI (2 ^ n - 1) ^^^ (-1 : Int32)) = 0) (t : Nat → Int64) : f_X9_permanentOf (nI n) c t x y = some (-9000000000000000001, t) := by
  unfold f_X9_permanentOf
  rw [allLines_n n hn, bs, pl_e]
  by_cases e : x &&& (nI (2 ^ n - 1) ^^^ (-1 : Int32)) = 0
  · rw [if_pos e, if_neg (h.resolve_left (fun hh => hh e))]
  · rw [if_neg e]
theorem permanentOf_p {n : Nat} {c : Nat → Int32} (hn : n ≤ 7) {x y u v : Int32} (hx : x &&& (nI (2 ^ n - 1) ^^^ (-1 : Int32)) = 0) (hy : y &&& (nI (2 ^ n - 1) ^^^ (-1 : Int32)) = 0) (bx : f_J6_bitCount_0f7a4 x = some u) (b_y : f_J6_bitCount_0f7a4 y = some v) (huv : ¬ u = v) (t : Nat → Int64) : f_X9_permanentOf (nI n) c t x y = some (-9000000000000000004, t) := by
  unfold f_X9_permanentOf
  rw [allLines_n n hn, bs, pl_e, if_pos hx, if_pos hy, bx, bs, b_y, bs, if_neg huv]
theorem sumOf_o {n : Nat} {c : Nat → Int32} {x : Int32} (h : x < 0 ∨ nI n < x) (t : Nat → Int64) : f_X9_sumOf (nI n) c t x = some (-9000000000000000002, t) := by
  unfold f_X9_sumOf f_X4_size
  by_cases e : x < 0
  · rw [if_pos e]
  · rw [if_neg e, bs, if_neg (fun hh => Int32_not_lt_of_le hh (h.resolve_left e))]
theorem rooks_c {n k : Nat} {c z : Nat → Int32} (h : Mx n c z) (hk : k ≤ n) (ms : Int32) (mc : Nat → Int32) (t : Nat → Int64) : ∃ mc' t', f_X9_rooks (nI n) c ms mc t (nI k) = some (RK n z k, nI n, mc', t') := by
  obtain ⟨h1, hn, hc, hz49, h0, hz⟩ := h
  unfold f_X9_rooks f_X4_size
  rw [if_neg (show ¬ nI k < 0 by rw [show (0 : Int32) = nI 0 from rfl, nI_ltI (by omega) (by omega)]; omega), bs, if_pos ((nI_leI (by omega) (by omega)).mpr hk)]
  obtain ⟨mc', e0, e00⟩ := marks_n h1 hn ms mc c
  rw [e0, bs]
  obtain ⟨t', e1⟩ := sumOfExpansions_n (n := n) (k := k) hn (by omega) t mc'
  have e3 : sL (fun s => if pc s = k then Bs (cl mc') n (tb s) else 0) (2 ^ n) = sL (fun s => if pc s = k then Bs (mk z) n (tb s) else 0) (2 ^ n) := by
    refine sL_congr (fun s hs => ?_)
    by_cases hp : pc s = k
    · rw [if_pos hp, if_pos hp]
      refine sL_congr (fun R hR => ?_)
      exact Bk_mat (wt false) hn hR hs (marks_cl hn hc e00)
    · rw [if_neg hp, if_neg hp]
  rw [e3] at e1
  dsimp only
  rw [e1, bs]
  exact ⟨_, _, rfl⟩
theorem rooks_o {n : Nat} {c : Nat → Int32} {x : Int32} (h : x < 0 ∨ nI n < x) (ms : Int32) (mc : Nat → Int32) (t : Nat → Int64) : f_X9_rooks (nI n) c ms mc t x = some (-2000000002, ms, mc, t) := by
  unfold f_X9_rooks f_X4_size
  by_cases e : x < 0
  · rw [if_pos e]
  · rw [if_neg e, bs, if_neg (fun hh => Int32_not_lt_of_le hh (h.resolve_left e))]
theorem through_u {n : Nat} {c : Nat → Int32} (hn : n ≤ 7) {x y : Int32} (h : (∀ k, k < n → x ≠ nI k) ∨ (∀ k, k < n → y ≠ nI k)) (ms : Int32) (mc : Nat → Int32) (t : Nat → Int64) : f_X9_diagonalsThrough (nI n) c ms mc t x y = some (-2000000001, ms, mc, t) := by
  unfold f_X9_diagonalsThrough
  rcases line_cases n x with ⟨k, hk, rfl⟩ | hx
  · rw [has_n hk hn]
    rcases h with h | h
    · exact absurd rfl (h k hk)
    · rw [has_no h hn]
      rfl
  · rw [has_no hx hn]
    rfl
/-! diagonals -/
def WD (n : Nat) (z : Nat → Int32) : Nat := EW z n 0
theorem wholeDiagonals_c {n : Nat} {c z : Nat → Int32} (h : Mx n c z) (t : Nat → Int32) : ∃ t', f_X9_wholeDiagonals (nI n) c t = some (nI (WD n z), t') := by
  obtain ⟨h1, hn, hc, hz49, h0, hz⟩ := h
  have hp0 : 0 < 2 ^ n := Nat.pow_pos (by omega)
  have h7 : 2 ^ n ≤ 128 := two_pow_le hn
  obtain ⟨t', e1, e2⟩ := countWhole_n (z := c) h1 hn t
  refine ⟨t', ?_⟩
  unfold f_X9_wholeDiagonals WD
  rw [e1, bs, show (0 : Int32) = nI 0 from rfl, of2_n (by omega), bs, e2 0 (by omega)]
  unfold EW
  rw [WL_congr hc _ _ _ (by rw [pc_zero]; omega)]
theorem wholeDiagonal_o {n1 : Int32} {c : Nat → Int32} {x : Int32} (h : x < 0) (t : Nat → Int32) : f_X9_wholeDiagonal n1 c t x = some (-2000000002, t) := by
  unfold f_X9_wholeDiagonal
  rw [if_neg (fun hc => Int32_not_lt_of_le hc h)]
/-- the first whole diagonal, or that there is none -/
theorem wholeDiagonal_c {n : Nat} {c z : Nat → Int32} (h : Mx n c z) (t : Nat → Int32) : (∃ p t', p ∈ prm n (List.range n) ∧ f_X9_wholeDiagonal (nI n) c t 0 = some (nI (numL p), t')) ∨ ∃ t', f_X9_wholeDiagonal (nI n) c t 0 = some (-2000000005, t') := by
  obtain ⟨h1, hn, hc, hz49, h0, hz⟩ := h
  have h7 : 2 ^ n ≤ 128 := two_pow_le hn
  have hp0 : 0 < 2 ^ n := Nat.pow_pos (by omega)
  obtain ⟨t', e1, e2⟩ := countWhole_n (z := c) h1 hn t
  have hEl := EW_le (z := c) (u := 0) hn hp0
  have eE := EW_zero (z := c) hn
  unfold f_X9_wholeDiagonal
  rw [if_pos (by decide), e1, bs, show (0 : Int32) = nI 0 from rfl, of2_n (by omega), bs, e2 0 hp0]
  cases hL : (prm n (List.range n)).filter (whL c 0) with
  | nil =>
    rw [hL] at eE
    rw [if_neg (by rw [nI_ltI (by omega) (by omega), eE]; simp)]
    exact Or.inr ⟨_, rfl⟩
  | cons p L =>
    rw [hL] at eE
    rw [if_pos (by rw [nI_ltI (by omega) (by omega), eE]; simp)]
    rw [diagonalOfRank_n (i := 0) (w := p) h1 hn e2 (by rw [WL_whole hn, hL]; rfl), bs]
    refine Or.inl ⟨p, t', ?_, rfl⟩
    have : p ∈ (prm n (List.range n)).filter (whL c 0) := by rw [hL]; exact List.mem_cons_self
    exact (List.mem_filter.mp this).1
theorem FB_all {n : Nat} (hn : n ≤ 7) (f : List Nat → Int) : ∃ q, FB (prm n (List.range n)) f q := by
  refine FB_ex f _ (fun h => ?_)
  have hPL : PL n 0 = prm n (List.range n) := by
    unfold PL
    rw [pc_zero, Nat.sub_zero, fl_cs0 n hn]
  rw [← hPL] at h
  exact PL_ne hn (Nat.pow_pos (by omega)) h
/-- the best diagonal -/
theorem best_c {n : Nat} {c z : Nat → Int32} (h : Mx n c z) (t : Nat → Int32) (a1 : Int32) : ∃ q t', FB (prm n (List.range n)) (sq z 0) q ∧ f_X9_best (nI n) c t a1 = some (if a1 = 0 then nI (numL q) else iI (sq z 0 q), t') := by
  obtain ⟨h1, hn, hc, hz49, h0, hz⟩ := h
  have hp0 : 0 < 2 ^ n := Nat.pow_pos (by omega)
  have hzc : ∀ k, k < 49 → -20 ≤ (c k).toInt ∧ (c k).toInt ≤ 20 := fun k hk => by
    rw [hc k hk]
    exact hz k hk
  obtain ⟨t', e1, e2⟩ := findGreatest_n hzc h1 hn t
  obtain ⟨q, e3⟩ := FB_all hn (sq z 0)
  have hPL : PL n 0 = prm n (List.range n) := by
    unfold PL
    rw [pc_zero, Nat.sub_zero, fl_cs0 n hn]
  have e5 : FB (PL n 0) (sq c 0) q := by
    rw [hPL]
    refine FB_congr (fun x hx => ?_) e3
    obtain ⟨p1, p2⟩ := prm_range_mem hx
    exact (sq_congr hc x 0 (by omega) (fun v hv => by have := p2 v hv; omega)).symm
  refine ⟨q, t', e3, ?_⟩
  unfold f_X9_best
  rw [e1, bs]
  by_cases ha : a1 = 0
  · rw [if_pos ha, if_pos ha, greatestDiagonal_n hzc h1 hn e2 e5, bs]
  · rw [if_neg ha, if_neg ha, show (0 : Int32) = nI 0 from rfl, of2_n (by omega), bs]
    obtain ⟨v, g1, g2⟩ := e2 0 hp0
    have g3 := FO_uniq g1 (Or.inr ⟨q, e5, rfl⟩)
    obtain ⟨p1, p2⟩ := prm_range_mem e3.mem
    rw [g2, g3, pc_zero, sq_congr hc q 0 (by omega) (fun v hv => by have := p2 v hv; omega)]
/-! a text that is empty -/
theorem clearText_c : f_X9_clearText (nI 0) = some (0, nI 0) := rfl
theorem read_c {n : Nat} {m : Nat → Int32} (p1 p2 p3 p4 p5 : Int32) (ns : Int32) (nc tx : Nat → Int32) (ho hc s0 s1 s2 s3 : Int32) (c0 c1 c2 c3 : Nat → Int32) : ∃ q1 q2 q3 q4 q5 ns' nc', f_X9_read (nI n) m ns nc ho hc s0 c0 s1 c1 s2 c2 s3 c3 (nI 0) tx p1 p2 p3 p4 p5 = some (-100, nI n, m, ns', nc', ho, hc, s0, c0, s1, c1, s2, c2, s3, c3, q1, q2, q3, q4, q5) := by
  obtain ⟨w, hw1, hw2⟩ := fill_n (n := 7) (by omega) (by omega) ns nc
  have hA : f_X7_at (nI 0) tx (0 : Int32) = some (-1 : Int32) := at_chr (L := 0) (p := 0) (by omega) (by omega) tx
  have hT : f_X8_takeEntry (0 : Int32) (0 : Int32) (nI 0) tx = some (0, 0, 0) := by
    unfold f_X8_takeEntry
    rw [hA, bs, if_neg (by decide), bs, if_pos rfl, bs, hA, bs, show f_X8_isDigit (-1 : Int32) = some 0 from rfl, bs, if_pos rfl]
  have hL : lpN (f_X8_readInto_L1 (nI 7) (nI 0) tx) FU ((0 : Int32), (0 : Int32), (0 : Int32), (0 : Int32), (0 : Int32), (0 : Int32), w) = some (.inr (0, 0, 0, 0, 0, 0, nI 7, w)) := by
    refine lp_FUe ?_
    rw [f_X8_readInto_L1, if_neg (by decide), hT]
    rfl
  have hR : f_X8_readInto p1 p2 p3 p4 p5 ns nc (nI 0) tx = some (0, 0, 0, 0, 0, 0, nI 7, w) := by
    unfold f_X8_readInto f_X8_start
    simp only [pl_e, bs]
    rw [show (7 : Int32) = nI 7 from rfl, hw1]
    simp only [bs]
    rw [hL]
    rfl
  refine ⟨0, 0, 0, 0, 0, nI 7, w, ?_⟩
  unfold f_X9_read
  rw [hR, bs]
  rfl
