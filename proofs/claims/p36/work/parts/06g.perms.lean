/-! MATHEMATICS: permanents, determinants and their kin -/
theorem sums_eq (cell : Nat → Nat → Int64) (n k : Nat) : sL (fun R => if pc R = k then sL (fun C => if pc C = k then Bk (wt false) cell (fl (tb R) 7) (tb C) else 0) (2 ^ n) else 0) (2 ^ n) = sL (fun s => if pc s = k then Bs cell n (tb s) else 0) (2 ^ n) := by
  have hpc : ∀ R, (fl (tb R) 7).length = pc R := fun R => by rw [fl_len]; exact (pcN_cnt R 7).symm
  have e1 : sL (fun R => if pc R = k then sL (fun C => if pc C = k then Bk (wt false) cell (fl (tb R) 7) (tb C) else 0) (2 ^ n) else 0) (2 ^ n) = sL (fun R => sL (fun C => if pc C = k then Bk (wt false) cell (fl (tb R) 7) (tb C) else 0) (2 ^ n)) (2 ^ n) := by
    refine sL_congr (fun R _ => ?_)
    by_cases h : pc R = k
    · rw [if_pos h]
    · rw [if_neg h]
      have : (fun C => if pc C = k then Bk (wt false) cell (fl (tb R) 7) (tb C) else 0) = fun _ => 0 := by
        funext C
        by_cases hc : pc C = k
        · rw [if_pos hc, Bk_zero]
          rw [hpc R, ← fl_len, hpc C, hc]
          exact h
        · rw [if_neg hc]
      rw [this, sL_zero]
  rw [e1, sL_swap]
  refine sL_congr (fun C _ => ?_)
  by_cases h : pc C = k
  · rw [if_pos h]
    unfold Bs
    refine sL_congr (fun R _ => ?_)
    rw [if_pos h]
  · rw [if_neg h]
    have : (fun R => if pc C = k then Bk (wt false) cell (fl (tb R) 7) (tb C) else 0) = fun _ => 0 := by
      funext R
      rw [if_neg h]
    rw [this, sL_zero]
theorem Bk_cell (w : (Nat → Bool) → Nat → Int64) {cell cell' : Nat → Nat → Int64} : ∀ (rs : List Nat) (S : Nat → Bool), (∀ r ∈ rs, ∀ a, a < 7 → S a = true → cell r a = cell' r a) → Bk w cell rs S = Bk w cell' rs S := by
  intro rs
  induction rs with
  | nil => intro S _; rfl
  | cons r rs ih =>
    intro S h
    refine sL_congr (fun a ha => ?_)
    by_cases hS : S a = true
    · rw [if_pos hS, if_pos hS, h r List.mem_cons_self a ha hS, ih (dl S a) (fun r' hr' a' ha' hd => h r' (List.mem_cons_of_mem _ hr') a' ha' (by
        unfold dl at hd
        rw [Bool.and_eq_true] at hd
        exact hd.1))]
    · rw [if_neg hS, if_neg hS]
/-- a matrix of marks -/
theorem marks_n {n : Nat} (h1 : 1 ≤ n) (hn : n ≤ 7) (ts : Int32) (tc c : Nat → Int32) : ∃ tc', f_X4_markNotZero ts tc (nI n) c = some (nI n, tc') ∧ ∀ r a, r < n → a < n → tc' (7 * r + a) = if c (7 * r + a) = 0 then 0 else 1 := by
  unfold f_X4_markNotZero
  obtain ⟨t1, e1, e2⟩ := fill_n h1 hn ts tc
  rw [e1, bs]
  dsimp only
  obtain ⟨t2, e3, e4⟩ := lp_cntX (body := f_X4_markNotZero_L1 (nI n) (nI n) c) (fun j (a : Nat → Int32) => (nI j, a)) (fun j a => ∀ r q, r < j → q < n → a (7 * r + q) = if c (7 * r + q) = 0 then 0 else 1) n (fun a => ∀ r q, r < n → q < n → a (7 * r + q) = if c (7 * r + q) = 0 then 0 else 1) (fun j a hj hp => by
    rw [f_X4_markNotZero_L1, if_neg (by rw [nI_leI (by omega) (by omega)]; omega)]
    obtain ⟨t3, e5, e6⟩ := lp_cntX (body := f_X4_markNotZero_L2 (nI j) (nI n) (nI n) c) (fun i (a : Nat → Int32) => (nI i, a)) (fun i a => (∀ r q, r < j → q < n → a (7 * r + q) = if c (7 * r + q) = 0 then 0 else 1) ∧ ∀ q, q < i → a (7 * j + q) = if c (7 * j + q) = 0 then 0 else 1) n (fun a => ∀ r q, r < j + 1 → q < n → a (7 * r + q) = if c (7 * r + q) = 0 then 0 else 1) (fun i a hi hq => by
      rw [f_X4_markNotZero_L2, if_neg (by rw [nI_leI (by omega) (by omega)]; omega), at_n hj hi hn, bs]
      have e7 : (if c (7 * j + i) = 0 then some (0 : Int32) else some (1 : Int32)) = some (if c (7 * j + i) = 0 then 0 else 1) := by split <;> rfl
      rw [e7, bs, put_n hj hi hn, bs, pl_e, show nI i + (1 : Int32) = nI (i + 1) from nI_add _ _]
      refine ⟨_, rfl, ?_, ?_⟩
      · intro r q hr hq'
        unfold upd
        rw [if_neg (by omega)]
        exact hq.1 r q hr hq'
      · intro q hq'
        unfold upd
        by_cases e : q = i
        · subst e
          rw [if_pos rfl]
        · rw [if_neg (by omega)]
          exact hq.2 q (by omega)) (fun a hq => by
      rw [f_X4_markNotZero_L2, if_pos (by rw [nI_leI (by omega) (by omega)]; omega)]
      refine ⟨a, rfl, ?_⟩
      intro r q hr hq'
      by_cases e : r = j
      · subst e
        exact hq.2 q hq'
      · exact hq.1 r q (by omega) hq') (FU_lt (by omega)) (a := a) ⟨hp, fun q hq => absurd hq (by omega)⟩
    change lpN _ FU ((0 : Int32), a) = _ at e5
    rw [e5, bs, pl_e, show nI j + (1 : Int32) = nI (j + 1) from nI_add _ _]
    exact ⟨t3, rfl, e6⟩) (fun a hp => by
    rw [f_X4_markNotZero_L1, if_pos (by rw [nI_leI (by omega) (by omega)]; omega)]
    exact ⟨a, rfl, hp⟩) (FU_lt (by omega)) (a := t1) (fun r q hr => absurd hr (by omega))
  change lpN _ FU ((0 : Int32), t1) = _ at e3
  rw [e3, bs]
  exact ⟨t2, rfl, fun r a hr ha => e4 r a hr ha⟩
/-- sets of an n by n matrix -/
theorem fl_lt {n R : Nat} (hn : n ≤ 7) (hR : R < 2 ^ n) {v : Nat} (h : v ∈ fl (tb R) 7) : v < n := by
  obtain ⟨h1, h2⟩ := fl_mem.mp h
  exact Decidable.byContradiction fun hc => by
    rw [show tb R v = false from tb_lt n hn R hR v h1 (by omega)] at h2
    cases h2
theorem tb_in {n C a : Nat} (hn : n ≤ 7) (hC : C < 2 ^ n) (ha : a < 7) (h : tb C a = true) : a < n := fl_lt hn hC (fl_mem.mpr ⟨ha, h⟩)
theorem Bk_mat (w : (Nat → Bool) → Nat → Int64) {n R C : Nat} (hn : n ≤ 7) (hR : R < 2 ^ n) (hC : C < 2 ^ n) {cell cell' : Nat → Nat → Int64} (h : ∀ r a, r < n → a < n → cell r a = cell' r a) : Bk w cell (fl (tb R) 7) (tb C) = Bk w cell' (fl (tb R) 7) (tb C) :=
  Bk_cell w _ _ (fun r hr a ha hS => h r a (fl_lt hn hR hr) (tb_in hn hC ha hS))
theorem marks_cl {n : Nat} {tc c z : Nat → Int32} (hn : n ≤ 7) (hc : ∀ k, k < 49 → c k = z k) (h : ∀ r a, r < n → a < n → tc (7 * r + a) = if c (7 * r + a) = 0 then 0 else 1) : ∀ r a, r < n → a < n → cl tc r a = cm true z r a := by
  intro r a hr ha
  show (tc (7 * r + a)).toInt64 = mk z r a
  unfold mk
  rw [h r a hr ha, hc _ (by omega)]
  split <;> rfl
theorem full_lt (n : Nat) : 2 ^ n - 1 < 2 ^ n := by
  have : 0 < 2 ^ n := Nat.pow_pos (by omega)
  omega
theorem fl_full : ∀ n, n ≤ 7 → fl (tb (2 ^ n - 1)) 7 = List.range n := by decide
theorem pc_minor : ∀ n, n ≤ 7 → ∀ r, r < n → ∀ q, q < n → pc (2 ^ n - 1 - 2 ^ r) = pc (2 ^ n - 1 - 2 ^ q) := by decide +kernel
theorem full_bit : ∀ n, n ≤ 7 → ∀ a, a < n → (2 ^ n - 1).testBit a = true ∧ 2 ^ a ≤ 2 ^ n - 1 := by decide +kernel
theorem mask_in : ∀ n, n ≤ 7 → ∀ R, R < 2 ^ n → nI R &&& (nI (2 ^ n - 1) ^^^ (-1 : Int32)) = 0 := by decide +kernel
theorem nI_back (x : Int32) : x = nI x.toBitVec.toNat := Int32.toBitVec_inj.mp (by
  show x.toBitVec = BitVec.ofNat 32 x.toBitVec.toNat
  exact BitVec.eq_of_toNat_eq (by rw [BitVec.toNat_ofNat, Nat.mod_eq_of_lt x.toBitVec.isLt]))
theorem mask_out {n : Nat} (hn : n ≤ 7) {x : Int32} (h : x &&& (nI (2 ^ n - 1) ^^^ (-1 : Int32)) = 0) : ∃ R, R < 2 ^ n ∧ x = nI R := by
  have hp0 : 0 < 2 ^ n := Nat.pow_pos (by omega)
  have h7 : 2 ^ n ≤ 128 := two_pow_le hn
  have e1 : x &&& nI (2 ^ n - 1) = x := by
    refine Int32.toBitVec_inj.mp (BitVec.eq_of_getElem_eq (fun i hi => ?_))
    have e2 := congrArg (fun y : Int32 => y.toBitVec[i]) h
    simp only [Int32.toBitVec_and, Int32.toBitVec_xor, BitVec.getElem_and, BitVec.getElem_xor] at e2 ⊢
    have e3 : (-1 : Int32).toBitVec[i] = true := by
      have : ∀ i (hi : i < 32), (-1 : Int32).toBitVec[i] = true := by decide
      exact this i hi
    have e4 : (0 : Int32).toBitVec[i] = false := by
      have : ∀ i (hi : i < 32), (0 : Int32).toBitVec[i] = false := by decide
      exact this i hi
    rw [e3, e4] at e2
    cases hx : x.toBitVec[i] with
    | false => rfl
    | true =>
      rw [hx] at e2
      cases hm : (nI (2 ^ n - 1)).toBitVec[i] with
      | true => rfl
      | false =>
        rw [hm] at e2
        exact absurd e2 (by decide)
  refine ⟨x.toBitVec.toNat, ?_, nI_back x⟩
  have e2 := congrArg (fun y : Int32 => y.toBitVec.toNat) e1
  simp only [Int32.toBitVec_and, BitVec.toNat_and] at e2
  have e3 : (nI (2 ^ n - 1)).toBitVec.toNat = 2 ^ n - 1 := by
    show (BitVec.ofNat 32 (2 ^ n - 1)).toNat = _
    rw [BitVec.toNat_ofNat]
    exact Nat.mod_eq_of_lt (by omega)
  rw [e3] at e2
  have e4 : x.toBitVec.toNat &&& (2 ^ n - 1) ≤ 2 ^ n - 1 := Nat.and_le_right
  omega
