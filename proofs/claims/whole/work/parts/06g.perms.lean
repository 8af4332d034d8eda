/-! MATHEMATICS: permanents, determinants and their kin -/
theorem msumOfAll_n {z : Nat → Int32} {n k : Nat} (hz49 : z 49 = nI n) (hn : n ≤ 7) (hk : k ≤ 7) (hz : ∀ k, k < 49 → -20 ≤ (z k).toInt ∧ (z k).toInt ≤ 20) (b : Bool) (o rt ct : Nat → Int32) :
    ∃ o' rt' ct', f_X10_sumOfAll z o rt ct (nI k) (b2i b) = some (sL (fun R => if pc R = k then sL (fun C => if pc C = k then Bk (wt false) (cm b z) (fl (tb R) 7) (tb C) else 0) (2 ^ n) else 0) (2 ^ n), o', rt', ct') := by
  have h2 : 2 ^ n ≤ 128 := two_pow_le hn
  have hp0 : 0 < 2 ^ n := Nat.pow_pos (by omega)
  unfold f_X10_sumOfAll
  have inner : ∀ R, R < 2 ^ n → pc R = k → ∀ (x : Int64) (o rt ct : Nat → Int32), ∃ y : Int64 × (Nat → Int32) × (Nat → Int32) × (Nat → Int32), lpN (f_X10_sumOfAll_L2 (nI k) (b2i b) (nI R) z) FU (x, (0 : Int32), o, rt, ct) = some y ∧ y.1 = x + sL (fun C => if pc C = k then Bk (wt false) (cm b z) (fl (tb R) 7) (tb C) else 0) (2 ^ n) := by
    intro R hR hRk x o rt ct
    have hRp := pc_le R
    exact lp_cntX (body := f_X10_sumOfAll_L2 (nI k) (b2i b) (nI R) z) (fun j (a : Int64 × (Nat → Int32) × (Nat → Int32) × (Nat → Int32)) => (a.1, nI j, a.2.1, a.2.2.1, a.2.2.2)) (fun j a => a.1 = x + sL (fun C => if pc C = k then Bk (wt false) (cm b z) (fl (tb R) 7) (tb C) else 0) j) (2 ^ n) _ (fun j a hj hp => by
      have hCp := pc_le j
      rw [f_X10_sumOfAll_L2, mall_n hz49 hn, bs, if_neg (by rw [nI_ltI (by omega) (by omega)]; omega), bits_n (by omega), bs, if_pos (by rw [hRk]), bits_n (by omega), bs]
      by_cases hc : pc j = k
      · rw [if_pos (by rw [hc])]
        obtain ⟨o', rt', ct', h1⟩ := sumOfSets_n hz (R := R) (C := j) (by omega) (by omega) (by rw [hRk, hc]) b a.2.1 a.2.2.1 a.2.2.2
        rw [h1, bs]
        refine ⟨(a.1 + Bk (wt false) (cm b z) (fl (tb R) 7) (tb j), o', rt', ct'), ?_, ?_⟩
        · dsimp only
          rw [pl_e, pl_e, show nI j + (1 : Int32) = nI (j + 1) from nI_add _ _]
        · show a.1 + _ = _
          rw [sL, if_pos hc, hp]
          grind
      · rw [if_neg (by rw [nI_eq (by omega) (by omega)]; exact hc), pl_e, pl_e, show nI j + (1 : Int32) = nI (j + 1) from nI_add _ _]
        refine ⟨(a.1 + 0, a.2), rfl, ?_⟩
        show a.1 + 0 = _
        rw [sL, if_neg hc, hp]
        grind) (fun a hp => by
      rw [f_X10_sumOfAll_L2, mall_n hz49 hn, bs, if_pos (by rw [nI_ltI (by omega) (by omega)]; omega)]
      exact ⟨_, rfl, hp⟩) (FU_lt (by omega)) (a := (x, o, rt, ct)) (by show x = x + 0; grind)
  have innerNo : ∀ R, R < 2 ^ n → ¬ pc R = k → ∀ (x : Int64) (o rt ct : Nat → Int32), lpN (f_X10_sumOfAll_L2 (nI k) (b2i b) (nI R) z) FU (x, (0 : Int32), o, rt, ct) = some (x, o, rt, ct) := by
    intro R hR hRk x o rt ct
    have hRp := pc_le R
    refine lp_FUe ?_
    rw [f_X10_sumOfAll_L2, mall_n hz49 hn, bs, if_neg (by rw [show (0 : Int32) = nI 0 from rfl, nI_ltI (by omega) (by omega)]; omega), bits_n (by omega), bs, if_neg (by rw [nI_eq (by omega) (by omega)]; exact hRk)]
  obtain ⟨y, h1, h3⟩ := lp_cntX (body := f_X10_sumOfAll_L1 (nI k) (b2i b) z) (fun j (a : Int64 × (Nat → Int32) × (Nat → Int32) × (Nat → Int32)) => (a.1, nI j, a.2.1, a.2.2.1, a.2.2.2)) (fun j a => a.1 = sL (fun R => if pc R = k then sL (fun C => if pc C = k then Bk (wt false) (cm b z) (fl (tb R) 7) (tb C) else 0) (2 ^ n) else 0) j) (2 ^ n) (fun y => y.1 = sL (fun R => if pc R = k then sL (fun C => if pc C = k then Bk (wt false) (cm b z) (fl (tb R) 7) (tb C) else 0) (2 ^ n) else 0) (2 ^ n)) (fun j a hj hp => by
      rw [f_X10_sumOfAll_L1, mall_n hz49 hn, bs, if_neg (by rw [nI_ltI (by omega) (by omega)]; omega)]
      by_cases hc : pc j = k
      · obtain ⟨y, h1, h2⟩ := inner j hj hc a.1 a.2.1 a.2.2.1 a.2.2.2
        rw [h1, bs]
        refine ⟨y, ?_, ?_⟩
        · obtain ⟨y1, y2, y3, y4⟩ := y
          dsimp only
          rw [pl_e, show nI j + (1 : Int32) = nI (j + 1) from nI_add _ _]
        · rw [h2, sL, if_pos hc, hp]
      · rw [innerNo j hj hc, bs]
        refine ⟨a, ?_, ?_⟩
        · dsimp only
          rw [pl_e, show nI j + (1 : Int32) = nI (j + 1) from nI_add _ _]
        · rw [sL, if_neg hc, hp]
          grind) (fun a hp => by
      rw [f_X10_sumOfAll_L1, mall_n hz49 hn, bs, if_pos (by rw [nI_ltI (by omega) (by omega)]; omega)]
      exact ⟨_, rfl, hp⟩) (FU_lt (by omega)) (a := (0, o, rt, ct)) rfl
  change lpN _ FU ((0 : Int64), (0 : Int32), o, rt, ct) = _ at h1
  rw [h1, bs]
  obtain ⟨y1, y2, y3, y4⟩ := y
  dsimp only at h3 ⊢
  rw [h3]
  exact ⟨_, _, _, rfl⟩
theorem sums_eq (cell : Nat → Nat → Int64) (n k : Nat) : sL (fun R => if pc R = k then sL (fun C => if pc C = k then Bk (wt false) cell (fl (tb R) 7) (tb C) else 0) (2 ^ n) else 0) (2 ^ n) = sL (fun s => if pc s = k then Bs cell n (tb s) else 0) (2 ^ n) := by
  have hpc : ∀ R, (fl (tb R) 7).length = pc R := fun R => by rw [fl_len]; exact (pcN_cnt R 7).symm
  have e1 : sL (fun R => if pc R = k then sL (fun C => if pc C = k then Bk (wt false) cell (fl (tb R) 7) (tb C) else 0) (2 ^ n) else 0) (2 ^ n) = sL (fun R => sL (fun C => if pc C = k then Bk (wt false) cell (fl (tb R) 7) (tb C) else 0) (2 ^ n)) (2 ^ n) := by
    refine sL_congr (fun R _ => ?_)
    by_cases h : pc R = k
    · rw [if_pos h]
    · rw [if_neg h]
      have : (fun C => if pc C = k then Bk (wt false) cell (fl (tb R) 7) (tb C) else 0) = fun _ => 0 := by
        funext C
        by_cases hc : pc C = k
        · rw [if_pos hc, Bk_zero]
          rw [hpc R, ← fl_len, hpc C, hc]
          exact h
        · rw [if_neg hc]
      rw [this, sL_zero]
  rw [e1, sL_swap]
  refine sL_congr (fun C _ => ?_)
  by_cases h : pc C = k
  · rw [if_pos h]
    unfold Bs
    refine sL_congr (fun R _ => ?_)
    rw [if_pos h]
  · rw [if_neg h]
    have : (fun R => if pc C = k then Bk (wt false) cell (fl (tb R) 7) (tb C) else 0) = fun _ => 0 := by
      funext R
      rw [if_neg h]
    rw [this, sL_zero]
theorem Bk_cell (w : (Nat → Bool) → Nat → Int64) {cell cell' : Nat → Nat → Int64} : ∀ (rs : List Nat) (S : Nat → Bool), (∀ r ∈ rs, ∀ a, a < 7 → S a = true → cell r a = cell' r a) → Bk w cell rs S = Bk w cell' rs S := by
  intro rs
  induction rs with
  | nil => intro S _; rfl
  | cons r rs ih =>
    intro S h
    refine sL_congr (fun a ha => ?_)
    by_cases hS : S a = true
    · rw [if_pos hS, if_pos hS, h r List.mem_cons_self a ha hS, ih (dl S a) (fun r' hr' a' ha' hd => h r' (List.mem_cons_of_mem _ hr') a' ha' (by
        unfold dl at hd
        rw [Bool.and_eq_true] at hd
        exact hd.1))]
    · rw [if_neg hS, if_neg hS]
/-- a matrix of marks -/
theorem marks_n {n : Nat} (h1 : 1 ≤ n) (hn : n ≤ 7) (ts : Int32) (tc c : Nat → Int32) : ∃ tc', f_X4_markNotZero ts tc (nI n) c = some (nI n, tc') ∧ ∀ r a, r < n → a < n → tc' (7 * r + a) = if c (7 * r + a) = 0 then 0 else 1 := by
  unfold f_X4_markNotZero
  obtain ⟨t1, e1, e2⟩ := fill_n h1 hn ts tc
  rw [e1, bs]
  dsimp only
  obtain ⟨t2, e3, e4⟩ := lp_cntX (body := f_X4_markNotZero_L1 (nI n) (nI n) c) (fun j (a : Nat → Int32) => (nI j, a)) (fun j a => ∀ r q, r < j → q < n → a (7 * r + q) = if c (7 * r + q) = 0 then 0 else 1) n (fun a => ∀ r q, r < n → q < n → a (7 * r + q) = if c (7 * r + q) = 0 then 0 else 1) (fun j a hj hp => by
    rw [f_X4_markNotZero_L1, if_neg (by rw [nI_leI (by omega) (by omega)]; omega)]
    obtain ⟨t3, e5, e6⟩ := lp_cntX (body := f_X4_markNotZero_L2 (nI j) (nI n) (nI n) c) (fun i (a : Nat → Int32) => (nI i, a)) (fun i a => (∀ r q, r < j → q < n → a (7 * r + q) = if c (7 * r + q) = 0 then 0 else 1) ∧ ∀ q, q < i → a (7 * j + q) = if c (7 * j + q) = 0 then 0 else 1) n (fun a => ∀ r q, r < j + 1 → q < n → a (7 * r + q) = if c (7 * r + q) = 0 then 0 else 1) (fun i a hi hq => by
      rw [f_X4_markNotZero_L2, if_neg (by rw [nI_leI (by omega) (by omega)]; omega), at_n hj hi hn, bs]
      have e7 : (if c (7 * j + i) = 0 then some (0 : Int32) else some (1 : Int32)) = some (if c (7 * j + i) = 0 then 0 else 1) := by split <;> rfl
      rw [e7, bs, put_n hj hi hn, bs, pl_e, show nI i + (1 : Int32) = nI (i + 1) from nI_add _ _]
      refine ⟨_, rfl, ?_, ?_⟩
      · intro r q hr hq'
        unfold upd
        rw [if_neg (by omega)]
        exact hq.1 r q hr hq'
      · intro q hq'
        unfold upd
        by_cases e : q = i
        · subst e
          rw [if_pos rfl]
        · rw [if_neg (by omega)]
          exact hq.2 q (by omega)) (fun a hq => by
      rw [f_X4_markNotZero_L2, if_pos (by rw [nI_leI (by omega) (by omega)]; omega)]
      refine ⟨a, rfl, ?_⟩
      intro r q hr hq'
      by_cases e : r = j
      · subst e
        exact hq.2 q hq'
      · exact hq.1 r q (by omega) hq') (FU_lt (by omega)) (a := a) ⟨hp, fun q hq => absurd hq (by omega)⟩
    change lpN _ FU ((0 : Int32), a) = _ at e5
    rw [e5, bs, pl_e, show nI j + (1 : Int32) = nI (j + 1) from nI_add _ _]
    exact ⟨t3, rfl, e6⟩) (fun a hp => by
    rw [f_X4_markNotZero_L1, if_pos (by rw [nI_leI (by omega) (by omega)]; omega)]
    exact ⟨a, rfl, hp⟩) (FU_lt (by omega)) (a := t1) (fun r q hr => absurd hr (by omega))
  change lpN _ FU ((0 : Int32), t1) = _ at e3
  rw [e3, bs]
  exact ⟨t2, rfl, fun r a hr ha => e4 r a hr ha⟩
/-- sets of an n by n matrix -/
theorem fl_lt {n R : Nat} (hn : n ≤ 7) (hR : R < 2 ^ n) {v : Nat} (h : v ∈ fl (tb R) 7) : v < n := by
  obtain ⟨h1, h2⟩ := fl_mem.mp h
  exact Decidable.byContradiction fun hc => by
    rw [show tb R v = false from tb_lt n hn R hR v h1 (by omega)] at h2
    cases h2
theorem tb_in {n C a : Nat} (hn : n ≤ 7) (hC : C < 2 ^ n) (ha : a < 7) (h : tb C a = true) : a < n := fl_lt hn hC (fl_mem.mpr ⟨ha, h⟩)
theorem Bk_mat (w : (Nat → Bool) → Nat → Int64) {n R C : Nat} (hn : n ≤ 7) (hR : R < 2 ^ n) (hC : C < 2 ^ n) {cell cell' : Nat → Nat → Int64} (h : ∀ r a, r < n → a < n → cell r a = cell' r a) : Bk w cell (fl (tb R) 7) (tb C) = Bk w cell' (fl (tb R) 7) (tb C) :=
  Bk_cell w _ _ (fun r hr a ha hS => h r a (fl_lt hn hR hr) (tb_in hn hC ha hS))
theorem marks_cl {n : Nat} {tc c z : Nat → Int32} (hn : n ≤ 7) (hc : ∀ k, k < 49 → c k = z k) (h : ∀ r a, r < n → a < n → tc (7 * r + a) = if c (7 * r + a) = 0 then 0 else 1) : ∀ r a, r < n → a < n → cl tc r a = cm true z r a := by
  intro r a hr ha
  show (tc (7 * r + a)).toInt64 = mk z r a
  unfold mk
  rw [h r a hr ha, hc _ (by omega)]
  split <;> rfl
theorem full_lt (n : Nat) : 2 ^ n - 1 < 2 ^ n := by
  have : 0 < 2 ^ n := Nat.pow_pos (by omega)
  omega
theorem fl_full : ∀ n, n ≤ 7 → fl (tb (2 ^ n - 1)) 7 = List.range n := by decide
theorem exp_both {n R C : Nat} {c z : Nat → Int32} (h : Mx n c z) (hR : R < 2 ^ n) (hC : C < 2 ^ n) (he : pc R = pc C) (t : Nat → Int64) (o rt ct : Nat → Int32) : ∃ r t' o' rt' ct', f_X9_expand t (nI n) c (nI R) (nI C) = some (r, t') ∧ f_X10_sumOfSets z o rt ct (nI R) (nI C) 0 = some (r, o', rt', ct') := by
  obtain ⟨h1, hn, hc, hz49, h0, hz⟩ := h
  have h7 : 2 ^ n ≤ 128 := two_pow_le hn
  obtain ⟨t', e1⟩ := expand_n hn hR hC t c
  obtain ⟨o', rt', ct', e2⟩ := sumOfSets_n hz (R := R) (C := C) (by omega) (by omega) he false o rt ct
  rw [Bk_mat (wt false) hn hR hC (cell := cl c) (cell' := cm false z) (fun r a hr ha => by show (c (7 * r + a)).toInt64 = (z (7 * r + a)).toInt64; rw [hc _ (by omega)])] at e1
  exact ⟨_, t', o', rt', ct', e1, e2⟩
theorem st_permanent {n : Nat} {c z : Nat → Int32} (h : Mx n c z) (t : Nat → Int64) (o rt ct : Nat → Int32) : ∃ r t' o' rt' ct', f_X9_permanent (nI n) c t = some (r, t') ∧ f_X10_permanent z o rt ct = some (r, o', rt', ct') := by
  have hlt := full_lt n
  obtain ⟨r, t', o', rt', ct', e1, e2⟩ := exp_both h hlt hlt rfl t o rt ct
  obtain ⟨h1, hn, hc, hz49, h0, hz⟩ := h
  refine ⟨r, t', o', rt', ct', ?_, ?_⟩
  · unfold f_X9_permanent
    rw [allLines_n n hn, bs, bs, e1, bs]
  · unfold f_X10_permanent
    rw [mall_n hz49 hn, bs, bs, e2, bs]
theorem pc_minor : ∀ n, n ≤ 7 → ∀ r, r < n → ∀ q, q < n → pc (2 ^ n - 1 - 2 ^ r) = pc (2 ^ n - 1 - 2 ^ q) := by decide +kernel
theorem full_bit : ∀ n, n ≤ 7 → ∀ a, a < n → (2 ^ n - 1).testBit a = true ∧ 2 ^ a ≤ 2 ^ n - 1 := by decide +kernel
theorem st_minor {n : Nat} {c z : Nat → Int32} (h : Mx n c z) (t : Nat → Int64) (o rt ct : Nat → Int32) (a1 a2 : Int32) : ∃ r t' o' rt' ct', f_X9_minor (nI n) c t a1 a2 = some (r, t') ∧ f_X10_minor z o rt ct a1 a2 = some (r, o', rt', ct') := by
  have h' := h
  obtain ⟨h1, hn, hc, hz49, h0, hz⟩ := h
  have h7 : 2 ^ n ≤ 128 := two_pow_le hn
  have hp0 : 0 < 2 ^ n := Nat.pow_pos (by omega)
  unfold f_X9_minor f_X10_minor
  rcases line_cases n a1 with ⟨r, hr, rfl⟩ | hx
  · rw [has_n hr hn, mline_n hz49 hr hn, bs, bs, if_neg (by decide), if_neg (by decide)]
    rcases line_cases n a2 with ⟨q, hq, rfl⟩ | hy
    · rw [has_n hq hn, mline_n hz49 hq hn, bs, bs, if_neg (by decide), if_neg (by decide)]
      have b1 := full_bit n hn r hr
      have b2 := full_bit n hn q hq
      have l1 := Nat.sub_le (2 ^ n - 1) (2 ^ r)
      have l2 := Nat.sub_le (2 ^ n - 1) (2 ^ q)
      obtain ⟨v, t', o', rt', ct', e1, e2⟩ := exp_both h' (R := 2 ^ n - 1 - 2 ^ r) (C := 2 ^ n - 1 - 2 ^ q) (by omega) (by omega) (pc_minor n hn r hr q hq) t o rt ct
      refine ⟨v, t', o', rt', ct', ?_, ?_⟩
      · unfold f_X9_expandWithout
        rw [allLines_n n hn, bs, bs, rest_n _ (by omega) r (by omega), rest_n _ (by omega) q (by omega), if_pos b1.1, if_pos b2.1, e1, bs, bs]
      · rw [mall_n hz49 hn, bs, bs, sh1 r (by omega), sh1 q (by omega), show nI (2 ^ n - 1) - nI (2 ^ r) = nI (2 ^ n - 1 - 2 ^ r) from pk_sub b1.2, show nI (2 ^ n - 1) - nI (2 ^ q) = nI (2 ^ n - 1 - 2 ^ q) from pk_sub b2.2, e2, bs]
    · rw [has_no hy hn, mline_no hz49 h1 hy hn, bs, bs, if_pos rfl, if_pos rfl]
      exact ⟨_, _, _, _, _, rfl, rfl⟩
  · rw [has_no hx hn, mline_no hz49 h1 hx hn, bs, bs, if_pos rfl, if_pos rfl]
    exact ⟨_, _, _, _, _, rfl, rfl⟩
theorem mask_in : ∀ n, n ≤ 7 → ∀ R, R < 2 ^ n → nI R &&& (nI (2 ^ n - 1) ^^^ (-1 : Int32)) = 0 := by decide +kernel
theorem nI_back (x : Int32) : x = nI x.toBitVec.toNat := Int32.toBitVec_inj.mp (by
  show x.toBitVec = BitVec.ofNat 32 x.toBitVec.toNat
  exact BitVec.eq_of_toNat_eq (by rw [BitVec.toNat_ofNat, Nat.mod_eq_of_lt x.toBitVec.isLt]))
theorem mask_out {n : Nat} (hn : n ≤ 7) {x : Int32} (h : x &&& (nI (2 ^ n - 1) ^^^ (-1 : Int32)) = 0) : ∃ R, R < 2 ^ n ∧ x = nI R := by
  have hp0 : 0 < 2 ^ n := Nat.pow_pos (by omega)
  have h7 : 2 ^ n ≤ 128 := two_pow_le hn
  have e1 : x &&& nI (2 ^ n - 1) = x := by
    refine Int32.toBitVec_inj.mp (BitVec.eq_of_getElem_eq (fun i hi => ?_))
    have e2 := congrArg (fun y : Int32 => y.toBitVec[i]) h
    simp only [Int32.toBitVec_and, Int32.toBitVec_xor, BitVec.getElem_and, BitVec.getElem_xor] at e2 ⊢
    have e3 : (-1 : Int32).toBitVec[i] = true := by
      have : ∀ i (hi : i < 32), (-1 : Int32).toBitVec[i] = true := by decide
      exact this i hi
    have e4 : (0 : Int32).toBitVec[i] = false := by
      have : ∀ i (hi : i < 32), (0 : Int32).toBitVec[i] = false := by decide
      exact this i hi
    rw [e3, e4] at e2
    cases hx : x.toBitVec[i] with
    | false => rfl
    | true =>
      rw [hx] at e2
      cases hm : (nI (2 ^ n - 1)).toBitVec[i] with
      | true => rfl
      | false =>
        rw [hm] at e2
        exact absurd e2 (by decide)
  refine ⟨x.toBitVec.toNat, ?_, nI_back x⟩
  have e2 := congrArg (fun y : Int32 => y.toBitVec.toNat) e1
  simp only [Int32.toBitVec_and, BitVec.toNat_and] at e2
  have e3 : (nI (2 ^ n - 1)).toBitVec.toNat = 2 ^ n - 1 := by
    show (BitVec.ofNat 32 (2 ^ n - 1)).toNat = _
    rw [BitVec.toNat_ofNat]
    exact Nat.mod_eq_of_lt (by omega)
  rw [e3] at e2
  have e4 : x.toBitVec.toNat &&& (2 ^ n - 1) ≤ 2 ^ n - 1 := Nat.and_le_right
  omega
theorem in_cases {n : Nat} (hn : n ≤ 7) (x : Int32) : (∃ R, R < 2 ^ n ∧ x = nI R ∧ x &&& (nI (2 ^ n - 1) ^^^ (-1 : Int32)) = 0 ∧ f_X10_in x 0 (nI (2 ^ n - 1)) = some 1) ∨ (¬ x &&& (nI (2 ^ n - 1) ^^^ (-1 : Int32)) = 0 ∧ f_X10_in x 0 (nI (2 ^ n - 1)) = some 0) := by
  have hp0 : 0 < 2 ^ n := Nat.pow_pos (by omega)
  have h7 : 2 ^ n ≤ 128 := two_pow_le hn
  rw [min_n]
  by_cases h : x &&& (nI (2 ^ n - 1) ^^^ (-1 : Int32)) = 0
  · obtain ⟨R, hR, rfl⟩ := mask_out hn h
    left
    refine ⟨R, hR, rfl, h, ?_⟩
    rw [if_neg (by rw [show (0 : Int32) = nI 0 from rfl, nI_ltI (by omega) (by omega)]; omega), if_neg (by rw [nI_ltI (by omega) (by omega)]; omega)]
  · right
    refine ⟨h, ?_⟩
    by_cases hx : x < 0
    · rw [if_pos hx]
    · rw [if_neg hx]
      obtain ⟨j, hj, rfl⟩ := nI_of hx
      rw [if_pos]
      rw [nI_ltI (by omega) (by omega)]
      exact Decidable.byContradiction fun hc => h (mask_in n hn j (by omega))
theorem st_permanentOf {n : Nat} {c z : Nat → Int32} (h : Mx n c z) (t : Nat → Int64) (o rt ct : Nat → Int32) (a1 a2 : Int32) : ∃ r t' o' rt' ct', f_X9_permanentOf (nI n) c t a1 a2 = some (r, t') ∧ f_X10_permanentOf z o rt ct a1 a2 = some (r, o', rt', ct') := by
  have h' := h
  obtain ⟨h1, hn, hc, hz49, h0, hz⟩ := h
  have h7 : 2 ^ n ≤ 128 := two_pow_le hn
  unfold f_X9_permanentOf f_X10_permanentOf
  rw [allLines_n n hn, mall_n hz49 hn, bs, bs, pl_e]
  rcases in_cases hn a1 with ⟨R, hR, rfl, m1, m2⟩ | ⟨m1, m2⟩
  · rw [if_pos m1, m2, bs, if_neg (show ¬ (1 : Int32) = 0 by decide), bs]
    rcases in_cases hn a2 with ⟨C, hC, rfl, m3, m4⟩ | ⟨m3, m4⟩
    · rw [if_pos m3, m4, bs, if_neg (show ¬ (1 : Int32) = 0 by decide), bitCount_n R (by omega), bitCount_n C (by omega), bits_n (by omega), bits_n (by omega), bs, bs, bs, bs]
      have p1 := pc_le R
      have p2 := pc_le C
      by_cases he : pc R = pc C
      · rw [if_pos (by rw [he]), if_pos (by rw [he])]
        obtain ⟨v, t', o', rt', ct', e1, e2⟩ := exp_both h' hR hC he t o rt ct
        rw [e1, e2, bs, bs]
        exact ⟨_, _, _, _, _, rfl, rfl⟩
      · have hne : ¬ nI (pc R) = nI (pc C) := by rw [nI_eq (by omega) (by omega)]; exact he
        rw [if_neg hne, if_neg hne]
        exact ⟨_, _, _, _, _, rfl, rfl⟩
    · rw [if_neg m3, m4, bs, if_pos rfl]
      exact ⟨_, _, _, _, _, rfl, rfl⟩
  · rw [if_neg m1, m2, bs, if_pos rfl]
    exact ⟨_, _, _, _, _, rfl, rfl⟩
theorem size_cases {n : Nat} (hn : n ≤ 7) (x : Int32) : (∃ k, k ≤ n ∧ x = nI k ∧ ¬ x < 0 ∧ x ≤ nI n ∧ f_X10_in x 0 (nI n) = some 1) ∨ (x < 0 ∧ f_X10_in x 0 (nI n) = some 0) ∨ (¬ x < 0 ∧ ¬ x ≤ nI n ∧ f_X10_in x 0 (nI n) = some 0) := by
  rw [min_n]
  by_cases hx : x < 0
  · right; left
    exact ⟨hx, by rw [if_pos hx]⟩
  · obtain ⟨j, hj, rfl⟩ := nI_of hx
    by_cases h : j ≤ n
    · left
      refine ⟨j, h, rfl, hx, by rw [nI_leI (by omega) (by omega)]; exact h, ?_⟩
      rw [if_neg hx, if_neg (by rw [nI_ltI (by omega) (by omega)]; omega)]
    · right; right
      refine ⟨hx, by rw [nI_leI (by omega) (by omega)]; exact h, ?_⟩
      rw [if_neg hx, if_pos (by rw [nI_ltI (by omega) (by omega)]; omega)]
theorem st_sumOf {n : Nat} {c z : Nat → Int32} (h : Mx n c z) (t : Nat → Int64) (o rt ct : Nat → Int32) (a1 : Int32) : ∃ r t' o' rt' ct', f_X9_sumOf (nI n) c t a1 = some (r, t') ∧ f_X10_sumOf z o rt ct a1 = some (r, o', rt', ct') := by
  obtain ⟨h1, hn, hc, hz49, h0, hz⟩ := h
  unfold f_X9_sumOf f_X10_sumOf
  rw [gd_t (by decide), mz49 hz49, f_X4_size]
  rcases size_cases hn a1 with ⟨k, hk, rfl, m1, m2, m3⟩ | ⟨m1, m3⟩ | ⟨m1, m2, m3⟩
  · rw [if_neg m1, bs, if_pos m2, m3, bs, if_neg (by decide)]
    obtain ⟨t', e1⟩ := sumOfExpansions_n (n := n) (k := k) hn (by omega) t c
    obtain ⟨o', rt', ct', e2⟩ := msumOfAll_n hz49 hn (k := k) (by omega) hz false o rt ct
    change f_X10_sumOfAll z o rt ct (nI k) 0 = _ at e2
    rw [sums_eq] at e2
    have e3 : sL (fun s => if pc s = k then Bs (cl c) n (tb s) else 0) (2 ^ n) = sL (fun s => if pc s = k then Bs (cm false z) n (tb s) else 0) (2 ^ n) := by
      refine sL_congr (fun s hs => ?_)
      by_cases hp : pc s = k
      · rw [if_pos hp, if_pos hp]
        refine sL_congr (fun R hR => ?_)
        exact Bk_mat (wt false) hn hR hs (fun r a hr ha => by show (c (7 * r + a)).toInt64 = (z (7 * r + a)).toInt64; rw [hc _ (by omega)])
      · rw [if_neg hp, if_neg hp]
    rw [e3] at e1
    rw [e1, e2, bs, bs]
    exact ⟨_, _, _, _, _, rfl, rfl⟩
  · rw [if_pos m1, m3, bs, if_pos rfl]
    exact ⟨_, _, _, _, _, rfl, rfl⟩
  · rw [if_neg m1, bs, if_neg m2, m3, bs, if_pos rfl]
    exact ⟨_, _, _, _, _, rfl, rfl⟩
theorem st_rooks {n : Nat} {c z : Nat → Int32} (h : Mx n c z) (ms : Int32) (mc : Nat → Int32) (t : Nat → Int64) (o rt ct : Nat → Int32) (a1 : Int32) : ∃ r ms' mc' t' o' rt' ct', f_X9_rooks (nI n) c ms mc t a1 = some (r, ms', mc', t') ∧ f_X10_rooks z o rt ct a1 = some (r, o', rt', ct') := by
  obtain ⟨h1, hn, hc, hz49, h0, hz⟩ := h
  unfold f_X9_rooks f_X10_rooks
  rw [gd_t (by decide), mz49 hz49, f_X4_size]
  rcases size_cases hn a1 with ⟨k, hk, rfl, m1, m2, m3⟩ | ⟨m1, m3⟩ | ⟨m1, m2, m3⟩
  · rw [if_neg m1, bs, if_pos m2, m3, bs, if_neg (by decide)]
    obtain ⟨mc', e0, e00⟩ := marks_n h1 hn ms mc c
    rw [e0, bs]
    obtain ⟨t', e1⟩ := sumOfExpansions_n (n := n) (k := k) hn (by omega) t mc'
    obtain ⟨o', rt', ct', e2⟩ := msumOfAll_n hz49 hn (k := k) (by omega) hz true o rt ct
    change f_X10_sumOfAll z o rt ct (nI k) 1 = _ at e2
    rw [sums_eq] at e2
    have e3 : sL (fun s => if pc s = k then Bs (cl mc') n (tb s) else 0) (2 ^ n) = sL (fun s => if pc s = k then Bs (cm true z) n (tb s) else 0) (2 ^ n) := by
      refine sL_congr (fun s hs => ?_)
      by_cases hp : pc s = k
      · rw [if_pos hp, if_pos hp]
        refine sL_congr (fun R hR => ?_)
        exact Bk_mat (wt false) hn hR hs (marks_cl hn hc e00)
      · rw [if_neg hp, if_neg hp]
    rw [e3] at e1
    dsimp only
    rw [e1, e2, bs, bs]
    exact ⟨_, _, _, _, _, _, _, rfl, rfl⟩
  · rw [if_pos m1, m3, bs, if_pos rfl]
    exact ⟨_, _, _, _, _, _, _, rfl, rfl⟩
  · rw [if_neg m1, bs, if_neg m2, m3, bs, if_pos rfl]
    exact ⟨_, _, _, _, _, _, _, rfl, rfl⟩
