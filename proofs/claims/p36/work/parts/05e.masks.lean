/-! MATHEMATICS, part e: sets as bits, counts, symmetry, rows with too few columns, totals -/
theorem nI_or (a b : Nat) : nI a ||| nI b = nI (a ||| b) := Int32.toBitVec_inj.mp (by rw [Int32.toBitVec_or]; exact BitVec.ofNat_or.symm)
theorem sh1 : ∀ j, j < 7 → (1 : Int32) <<< (nI j &&& 31) = nI (2 ^ j) := by decide +kernel
def pcN (S : Nat) : Nat → Nat
  | 0 => 0
  | j + 1 => pcN S j + (if S.testBit j then 1 else 0)
def pc (S : Nat) : Nat := pcN S 7
set_option maxRecDepth 100000 in
theorem bitCount_n : ∀ S, S < 128 → f_J6_bitCount_0f7a4 (nI S) = some (nI (pc S)) := by decide +kernel
set_option maxRecDepth 100000 in
theorem bit_n : ∀ S, S < 128 → ∀ j, j < 7 → (nI S >>> (nI j &&& 31)) &&& (1 : Int32) = nI (if S.testBit j then 1 else 0) := by decide +kernel
set_option maxRecDepth 100000 in
theorem bitAnd_n : ∀ S, S < 128 → ∀ j, j < 7 → (nI S &&& nI (2 ^ j)) = nI (if S.testBit j then 2 ^ j else 0) := by decide +kernel
theorem pcN_le (S j : Nat) : pcN S j ≤ j := by
  induction j with
  | zero => exact Nat.le_refl _
  | succ j ih =>
    rw [pcN]
    split <;> omega
def rmask (P : Nat → Bool) : Nat → Nat
  | 0 => 0
  | j + 1 => if P j then rmask P j ||| 2 ^ j else rmask P j
theorem rmask_bit (P : Nat → Bool) (n i : Nat) : (rmask P n).testBit i = (decide (i < n) && P i) := by
  induction n with
  | zero => simp [rmask]
  | succ n ih =>
    rw [rmask]
    by_cases h : P n = true
    · rw [if_pos h, Nat.testBit_or, ih, Nat.testBit_two_pow]
      by_cases e : n = i
      · subst e; simp [h]
      · by_cases e2 : i < n
        · simp [e, e2, show i < n + 1 by omega]
        · simp [e, e2, show ¬ i < n + 1 by omega]
    · rw [if_neg h, ih]
      by_cases e : i = n
      · subst e; simp [h]
      · by_cases e2 : i < n
        · simp [e2, show i < n + 1 by omega]
        · simp [e2, show ¬ i < n + 1 by omega]
theorem rmask_lt (P : Nat → Bool) (n : Nat) : rmask P n < 2 ^ n := by
  induction n with
  | zero => exact Nat.one_pos
  | succ n ih =>
    rw [rmask]
    split
    · exact Nat.or_lt_two_pow (Nat.lt_of_lt_of_le ih (Nat.pow_le_pow_right (by omega) (by omega))) (Nat.pow_lt_pow_right (by omega) (by omega))
    · exact Nat.lt_of_lt_of_le ih (Nat.pow_le_pow_right (by omega) (by omega))
theorem lt128 {n m : Nat} (h : m < 2 ^ n) (hn : n ≤ 7) : m < 128 := Nat.lt_of_lt_of_le h (Nat.pow_le_pow_right (n := 2) (by omega) hn)
def cntB (P : Nat → Bool) : Nat → Nat
  | 0 => 0
  | j + 1 => cntB P j + (if P j then 1 else 0)
theorem cntB_congr {P R : Nat → Bool} {n : Nat} (h : ∀ k, k < n → P k = R k) : cntB P n = cntB R n := by
  induction n with
  | zero => rfl
  | succ n ih => rw [cntB, cntB, ih (fun k hk => h k (by omega)), h n (by omega)]
theorem cntB_false {P : Nat → Bool} {n : Nat} (h : ∀ k, k < n → P k = false) : cntB P n = 0 := by
  induction n with
  | zero => rfl
  | succ n ih => rw [cntB, ih (fun k hk => h k (by omega)), h n (by omega)]; rfl
theorem cntB_add (P : Nat → Bool) (a b : Nat) : cntB P (a + b) = cntB P a + cntB (fun k => P (a + k)) b := by
  induction b with
  | zero => rfl
  | succ b ih => rw [← Nat.add_assoc, cntB, ih, cntB, Nat.add_assoc]
theorem pcN_cnt (S j : Nat) : pcN S j = cntB (fun i => S.testBit i) j := by
  induction j with
  | zero => rfl
  | succ j ih => rw [pcN, cntB, ih]
theorem cntB_tail {P : Nat → Bool} {n m : Nat} (hnm : n ≤ m) (h : ∀ k, n ≤ k → k < m → P k = false) : cntB P m = cntB P n := by
  obtain ⟨d, rfl⟩ := Nat.exists_eq_add_of_le hnm
  rw [cntB_add, cntB_false (n := d) (fun k hk => h _ (by omega) (by omega)), Nat.add_zero]
theorem pc_rmask (P : Nat → Bool) {n : Nat} (hn : n ≤ 7) : pc (rmask P n) = cntB P n := by
  unfold pc
  rw [pcN_cnt, cntB_tail (n := n) hn (fun k hk _ => by rw [rmask_bit]; simp [show ¬ k < n by omega])]
  exact cntB_congr (fun k hk => by rw [rmask_bit]; simp [hk])
def nz (z : Nat → Int32) (k : Nat) : Bool := decide (¬ z k = 0)
theorem columnsOfRow_n {n r : Nat} (hr : r < n) (hn : n ≤ 7) (z : Nat → Int32) : f_X4_columnsOfRow (nI n) z (nI r) = some (nI (rmask (fun q => nz z (7 * r + q)) n)) := by
  unfold f_X4_columnsOfRow
  have h := lp_cnt (body := f_X4_columnsOfRow_L1 (nI r) (nI n) z) (fun j => nI (rmask (fun q => nz z (7 * r + q)) j)) n (nI (rmask (fun q => nz z (7 * r + q)) n)) (fun j hj => by
    rw [f_X4_columnsOfRow_L1]
    rw [at_n hr hj hn, sh1 j (by omega)]
    simp (disch := omega) only [bs]
    rw [rmask, if_neg (nI_ge hj (by omega))]
    by_cases e : z (7 * r + j) = 0
    · rw [if_pos e, if_neg (by simp [nz, e])]
      simp (disch := omega) only [lit32, bs, pl_e, gd_okI, nI_leI, nI_ltI, nI_eq, nI_add, pk_mul, pk_sub, nI_m1', nI_clamp, if_pos, if_neg, ↓reduceIte]
    · rw [if_neg e, if_pos (by simp [nz, e]), nI_or]
      simp (disch := omega) only [lit32, bs, pl_e, gd_okI, nI_leI, nI_ltI, nI_eq, nI_add, pk_mul, pk_sub, nI_m1', nI_clamp, if_pos, if_neg, ↓reduceIte]) (by
    rw [f_X4_columnsOfRow_L1]
    simp (disch := omega) only [lit32, bs, pl_e, gd_okI, nI_leI, nI_ltI, nI_eq, nI_add, pk_mul, pk_sub, nI_m1', nI_clamp, if_pos, if_neg, ↓reduceIte]) (by omega)
  show (lpN (f_X4_columnsOfRow_L1 (nI r) (nI n) z) FU (nI (rmask (fun q => nz z (7 * r + q)) 0), nI 0)).bind _ = _
  rw [h, bs]
def cnt2 (z : Nat → Int32) (n : Nat) : Nat → Nat
  | 0 => 0
  | r + 1 => cnt2 z n r + cntB (fun q => nz z (7 * r + q)) n
theorem countNotZero_n {n : Nat} (hn : n ≤ 7) (z : Nat → Int32) : f_X4_countNotZero (nI n) z = some (nI (cnt2 z n n)) := by
  unfold f_X4_countNotZero
  have h := lp_cnt (body := f_X4_countNotZero_L1 (nI n) z) (fun j => nI (cnt2 z n j)) n (nI (cnt2 z n n)) (fun j hj => by
    rw [f_X4_countNotZero_L1]
    rw [columnsOfRow_n hj hn, bs, bitCount_n _ (lt128 (rmask_lt _ _) hn), pc_rmask _ hn]
    simp (disch := omega) only [lit32, bs, pl_e, gd_okI, nI_leI, nI_ltI, nI_eq, nI_add, pk_mul, pk_sub, nI_m1', nI_clamp, if_pos, if_neg, ↓reduceIte]
    rfl) (by
    rw [f_X4_countNotZero_L1]
    simp (disch := omega) only [lit32, bs, pl_e, gd_okI, nI_leI, nI_ltI, nI_eq, nI_add, pk_mul, pk_sub, nI_m1', nI_clamp, if_pos, if_neg, ↓reduceIte]) (by omega)
  show (lpN (f_X4_countNotZero_L1 (nI n) z) FU (nI (cnt2 z n 0), nI 0)).bind _ = _
  rw [h, bs]
theorem cnt2_eq (z : Nat → Int32) (r : Nat) : cnt2 z 7 r = cntB (nz z) (7 * r) := by
  induction r with
  | zero => rfl
  | succ r ih => rw [cnt2, ih, Nat.mul_add, Nat.mul_one, cntB_add]
theorem cnt2_all {z : Nat → Int32} {n : Nat} (hn : n ≤ 7) (h0 : ∀ r q, r < 7 → q < 7 → (n ≤ r ∨ n ≤ q) → z (7 * r + q) = 0) : cnt2 z n n = cntB (nz z) 49 := by
  have h1 : ∀ r, r ≤ 7 → cnt2 z 7 r = cnt2 z n r := by
    intro r
    induction r with
    | zero => intro _; rfl
    | succ r ih =>
      intro hr
      rw [cnt2, cnt2, ih (by omega), cntB_tail hn (fun k h1 h2 => by simp [nz, h0 r k (by omega) h2 (Or.inr h1)])]
  have h2 : ∀ d, n + d ≤ 7 → cnt2 z n (n + d) = cnt2 z n n := by
    intro d
    induction d with
    | zero => intro _; rfl
    | succ d ih =>
      intro hd
      rw [← Nat.add_assoc, cnt2, ih (by omega), cntB_false (fun k hk => by simp [nz, h0 (n + d) k (by omega) (by omega) (Or.inl (by omega))]), Nat.add_zero]
  rw [← h2 (7 - n) (by omega), show n + (7 - n) = 7 by omega, ← h1 7 (by omega), cnt2_eq]
theorem sI_append (f : Nat → Int32) (a b : Nat) : sI f (a + b) = sI f a + sI (fun k => f (a + k)) b := by
  induction b with
  | zero => show sI f a = sI f a + 0; rw [Int32.add_zero]
  | succ b ih => rw [← Nat.add_assoc, sI, ih, sI, Int32.add_assoc]
theorem sI_zero' {f : Nat → Int32} {n : Nat} (h : ∀ k, k < n → f k = 0) : sI f n = 0 := by
  rw [sI_congr (g := fun _ => 0) h, sI_zero]
theorem sI_tail {f : Nat → Int32} {n m : Nat} (hnm : n ≤ m) (h : ∀ k, n ≤ k → k < m → f k = 0) : sI f m = sI f n := by
  obtain ⟨d, rfl⟩ := Nat.exists_eq_add_of_le hnm
  rw [sI_append, sI_zero' (n := d) (fun k hk => h _ (by omega) (by omega)), Int32.add_zero]
theorem sI_rows (z : Nat → Int32) (r : Nat) : sI z (7 * r) = sI (fun i => sI (fun q => z (7 * i + q)) 7) r := by
  induction r with
  | zero => rfl
  | succ r ih =>
    rw [Nat.mul_add, Nat.mul_one, sI_append, ih]
    rfl
theorem sumAll_eq {z : Nat → Int32} {n : Nat} (hn : n ≤ 7) (h0 : ∀ r q, r < 7 → q < 7 → (n ≤ r ∨ n ≤ q) → z (7 * r + q) = 0) : sI (fun r => rowSum z n r) n = sI z 49 := by
  show _ = sI z (7 * 7)
  rw [sI_rows, sI_tail hn (fun k h1 h2 => sI_zero' (fun q hq => h0 k q h2 hq (Or.inl h1)))]
  exact sI_congr (fun r hr => (sI_tail hn (fun q h1 h2 => h0 r q (by omega) h2 (Or.inr h1))).symm)
/-! symmetry -/
theorem isSymmetric_n {n : Nat} (h1 : 1 ≤ n) (hn : n ≤ 7) (z : Nat → Int32) : f_X4_isSymmetric (nI n) z = some (b2i (allB (fun r => allB (fun q => decide (z (7 * (r + 1) + q) = z (7 * q + (r + 1)))) (r + 1)) (n - 1))) := by
  unfold f_X4_isSymmetric
  have hin : ∀ r, r < n → lpN (f_X4_isSymmetric_L2 (nI r) (nI n) z) FU (0 : Int32) = some (if allB (fun q => decide (z (7 * r + q) = z (7 * q + r))) r then .inl () else .inr (nI 0)) := fun r hr => by
    exact lp_all (body := f_X4_isSymmetric_L2 (nI r) (nI n) z) (fun q => decide (z (7 * r + q) = z (7 * q + r))) r (.inr (nI 0)) (.inl ()) (fun q hq h => by
      simp only [decide_eq_true_eq] at h
      rw [f_X4_isSymmetric_L2]
      rw [at_n hr (by omega) hn, at_n (by omega) hr hn]
      simp (disch := omega) only [lit32, bs, pl_e, gd_okI, nI_leI, nI_ltI, nI_eq, nI_add, pk_mul, pk_sub, nI_m1', nI_clamp, if_pos, if_neg, ↓reduceIte, h]) (fun q hq h => by
      simp only [decide_eq_false_iff_not] at h
      rw [f_X4_isSymmetric_L2]
      rw [at_n hr (by omega) hn, at_n (by omega) hr hn]
      simp (disch := omega) only [lit32, bs, pl_e, gd_okI, nI_leI, nI_ltI, nI_eq, nI_add, pk_mul, pk_sub, nI_m1', nI_clamp, if_pos, if_neg, ↓reduceIte, h]) (by
      rw [f_X4_isSymmetric_L2]
      simp (disch := omega) only [lit32, bs, pl_e, gd_okI, nI_leI, nI_ltI, nI_eq, nI_add, pk_mul, pk_sub, nI_m1', nI_clamp, if_pos, if_neg, ↓reduceIte]) (by omega)
  have hout := lp_find (body := f_X4_isSymmetric_L1 (nI n) z) (fun j => nI (1 + j)) (fun j => allB (fun q => decide (z (7 * (j + 1) + q) = z (7 * q + (j + 1)))) (j + 1) = false) (n - 1) (fun _ => .inr (nI 0)) (.inl ()) (fun j hj h => by
    rw [f_X4_isSymmetric_L1]
    rw [Nat.add_comm 1 j, hin (j + 1) (by omega)]
    cases e : allB (fun q => decide (z (7 * (j + 1) + q) = z (7 * q + (j + 1)))) (j + 1) with
    | false => exact absurd e h
    | true =>
      simp (disch := omega) only [lit32, bs, pl_e, gd_okI, nI_leI, nI_ltI, nI_eq, nI_add, pk_mul, pk_sub, nI_m1', nI_clamp, if_pos, if_neg, ↓reduceIte]
      rw [show 1 + (j + 1) = j + 1 + 1 by omega]) (fun j hj h => by
    rw [f_X4_isSymmetric_L1]
    rw [Nat.add_comm 1 j, hin (j + 1) (by omega), h]
    simp (disch := omega) only [lit32, bs, pl_e, gd_okI, nI_leI, nI_ltI, nI_eq, nI_add, pk_mul, pk_sub, nI_m1', nI_clamp, if_pos, if_neg, ↓reduceIte]
    rfl) (by
    rw [f_X4_isSymmetric_L1]
    simp (disch := omega) only [lit32, bs, pl_e, gd_okI, nI_leI, nI_ltI, nI_eq, nI_add, pk_mul, pk_sub, nI_m1', nI_clamp, if_pos, if_neg, ↓reduceIte]) (fuel := FU) (FU_lt (by omega))
  rcases hout with ⟨h2, h3⟩ | ⟨k, h2, h3, -, h4⟩
  · have h3' : lpN (f_X4_isSymmetric_L1 (nI n) z) FU (1 : Int32) = some (.inl ()) := h3
    rw [h3', bs]
    rw [show allB (fun r => allB (fun q => decide (z (7 * (r + 1) + q) = z (7 * q + (r + 1)))) (r + 1)) (n - 1) = true from allB_t.mpr (fun k hk => by
      cases e : allB (fun q => decide (z (7 * (k + 1) + q) = z (7 * q + (k + 1)))) (k + 1) with
      | true => rfl
      | false => exact absurd e (h2 k hk))]
    rfl
  · have h4' : lpN (f_X4_isSymmetric_L1 (nI n) z) FU (1 : Int32) = some (.inr (nI 0)) := h4
    rw [h4', bs]
    rw [allB_f h2 h3]
    rfl
theorem symm_eq {z : Nat → Int32} {n : Nat} (hn : n ≤ 7) (h0 : ∀ r q, r < 7 → q < 7 → (n ≤ r ∨ n ≤ q) → z (7 * r + q) = 0) : allB (fun r => allB (fun q => decide (z (7 * (r + 1) + q) = z (7 * q + (r + 1)))) (r + 1)) (n - 1) = allB (fun k => decide (z k = z (k % 7 * 7 + k / 7))) 49 := by
  rw [Bool.eq_iff_iff, allB_t, allB_t]
  constructor
  · intro h k hk
    have hlow : ∀ r q, r < 7 → q < r → z (7 * r + q) = z (7 * q + r) := fun r q hr hq => by
      by_cases e : r < n
      · have := allB_t.mp (h (r - 1) (by omega)) q (by omega)
        rw [show r - 1 + 1 = r by omega] at this
        exact of_decide_eq_true this
      · rw [h0 r q hr (by omega) (Or.inl (by omega)), h0 q r (by omega) hr (Or.inr (by omega))]
    have e : k = 7 * (k / 7) + k % 7 := by omega
    have hd : k / 7 < 7 := by omega
    have hm : k % 7 < 7 := Nat.mod_lt _ (by omega)
    apply decide_eq_true
    rcases Nat.lt_trichotomy (k % 7) (k / 7) with h1 | h1 | h1
    · have := hlow (k / 7) (k % 7) hd h1
      rw [← e] at this
      rw [this]
      exact congrArg z (by omega)
    · exact congrArg z (by omega)
    · have := hlow (k % 7) (k / 7) hm h1
      rw [← e] at this
      rw [← this]
      exact congrArg z (by omega)
  · intro h r hr
    refine allB_t.mpr (fun q hq => decide_eq_true ?_)
    have := of_decide_eq_true (h (7 * (r + 1) + q) (by omega))
    rw [this]
    exact congrArg z (by omega)
