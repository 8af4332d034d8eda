/-! MATHEMATICS, part f: what there is (entry, total, lineSum), rows with too few columns -/
theorem rowSum_congr {c z : Nat → Int32} {n r : Nat} (h : ∀ k, k < 49 → c k = z k) (hr : r < 7) (hn : n ≤ 7) : rowSum c n r = rowSum z n r := sI_congr (fun k hk => h _ (by omega))
theorem colSum_congr {c z : Nat → Int32} {n r : Nat} (h : ∀ k, k < 49 → c k = z k) (hr : r < 7) (hn : n ≤ 7) : colSum c n r = colSum z n r := sI_congr (fun k hk => h _ (by omega))
theorem LSb_congr {c z : Nat → Int32} {n : Nat} (h : ∀ k, k < 49 → c k = z k) (hn : n ≤ 7) : LSb c n = LSb z n := allB_congr (fun k hk => by
  rw [rowSum_congr h (by omega) hn, rowSum_congr h (r := 0) (by omega) hn, colSum_congr h (by omega) hn])
theorem extA_congr {f : Int32 → Int32 → Int32} {c z : Nat → Int32} {n : Nat} (h : ∀ k, k < 49 → c k = z k) (hn : n ≤ 7) : ∀ j, j ≤ n * n → extA f c n j = extA f z n j := by
  intro j
  induction j with
  | zero => intro _; exact h 0 (by omega)
  | succ j ih =>
    intro hj
    have hd : j / n < 7 := Nat.lt_of_lt_of_le (Nat.div_lt_of_lt_mul hj) hn
    have h0 : 0 < n := by
      rcases Nat.eq_zero_or_pos n with e | e
      · subst e; omega
      · exact e
    have hm : j % n < 7 := Nat.lt_of_lt_of_le (Nat.mod_lt _ h0) hn
    rw [extA, extA, ih (by omega), h _ (by omega)]
/-! rows with too few columns -/
def cmask (z : Nat → Int32) (n R : Nat) : Nat → Nat
  | 0 => 0
  | j + 1 => if R.testBit j then cmask z n R j ||| rmask (fun q => nz z (7 * j + q)) n else cmask z n R j
theorem cmask_lt (z : Nat → Int32) (n R j : Nat) : cmask z n R j < 2 ^ n := by
  induction j with
  | zero => exact Nat.two_pow_pos n
  | succ j ih =>
    rw [cmask]
    split
    · exact Nat.or_lt_two_pow ih (rmask_lt _ _)
    · exact ih
theorem cmask_bit (z : Nat → Int32) (n R j i : Nat) : (cmask z n R j).testBit i = true ↔ ∃ r, r < j ∧ R.testBit r = true ∧ i < n ∧ nz z (7 * r + i) = true := by
  induction j with
  | zero => simp [cmask]
  | succ j ih =>
    rw [cmask]
    by_cases e : R.testBit j = true
    · rw [if_pos e, Nat.testBit_or, rmask_bit, Bool.or_eq_true, ih]
      constructor
      · rintro (⟨r, h1, h2, h3, h4⟩ | h)
        · exact ⟨r, by omega, h2, h3, h4⟩
        · simp only [Bool.and_eq_true, decide_eq_true_eq] at h
          exact ⟨j, by omega, e, h.1, h.2⟩
      · rintro ⟨r, h1, h2, h3, h4⟩
        by_cases er : r = j
        · subst er
          exact Or.inr (by simp [h3, h4])
        · exact Or.inl ⟨r, by omega, h2, h3, h4⟩
    · rw [if_neg e, ih]
      constructor
      · rintro ⟨r, h1, h2⟩
        exact ⟨r, by omega, h2⟩
      · rintro ⟨r, h1, h2, h3⟩
        refine ⟨r, ?_, h2, h3⟩
        rcases Nat.lt_or_ge r j with q | q
        · exact q
        · have : r = j := by omega
          subst this
          exact absurd h2 e
theorem columnsOf_n {n R : Nat} (hn : n ≤ 7) (hR : R < 128) (z : Nat → Int32) : f_X4_columnsOf (nI n) z (nI R) = some (nI (cmask z n R n)) := by
  unfold f_X4_columnsOf
  have h := lp_cnt (body := f_X4_columnsOf_L1 (nI R) (nI n) z) (fun j => nI (cmask z n R j)) n (nI (cmask z n R n)) (fun j hj => by
    rw [f_X4_columnsOf_L1]
    rw [sh1 j (by omega), bitAnd_n R hR j (by omega), columnsOfRow_n hj hn, cmask]
    rw [if_neg (nI_ge hj (by omega))]
    by_cases e : R.testBit j = true
    · rw [if_pos e, if_pos e, if_neg (nI_ne0 (Nat.two_pow_pos j) (by have := Nat.pow_le_pow_right (n := 2) (by omega) (show j ≤ 7 by omega); omega))]
      simp only [bs, pl_e, nI_or]
      rw [show nI j + (1 : Int32) = nI (j + 1) from nI_1 j]
    · rw [if_neg e, if_neg e, if_pos (show nI 0 = 0 from rfl)]
      simp only [pl_e]
      rw [show nI j + (1 : Int32) = nI (j + 1) from nI_1 j]) (by
    rw [f_X4_columnsOf_L1]
    simp (disch := omega) only [lit32, bs, pl_e, gd_okI, nI_leI, nI_ltI, nI_eq, nI_add, pk_mul, pk_sub, nI_m1', nI_clamp, if_pos, if_neg, ↓reduceIte]) (by omega)
  show (lpN (f_X4_columnsOf_L1 (nI R) (nI n) z) FU (nI (cmask z n R 0), nI 0)).bind _ = _
  rw [h, bs]
def mmask (z : Nat → Int32) (R : Nat) : Nat → Nat
  | 0 => 0
  | k + 1 => if R.testBit (k / 7) && nz z k then mmask z R k ||| 2 ^ (k % 7) else mmask z R k
theorem mmask_lt (z : Nat → Int32) (R k : Nat) : mmask z R k < 2 ^ 7 := by
  induction k with
  | zero => exact Nat.two_pow_pos 7
  | succ k ih =>
    rw [mmask]
    split
    · exact Nat.or_lt_two_pow ih (Nat.pow_lt_pow_right (by omega) (Nat.mod_lt _ (by omega)))
    · exact ih
theorem mmask_bit (z : Nat → Int32) (R k i : Nat) : (mmask z R k).testBit i = true ↔ ∃ j, j < k ∧ R.testBit (j / 7) = true ∧ nz z j = true ∧ j % 7 = i := by
  induction k with
  | zero => simp [mmask]
  | succ k ih =>
    rw [mmask]
    by_cases e : (R.testBit (k / 7) && nz z k) = true
    · rw [if_pos e, Nat.testBit_or, Nat.testBit_two_pow, Bool.or_eq_true, ih]
      rw [Bool.and_eq_true] at e
      constructor
      · rintro (⟨j, h1, h2⟩ | h)
        · exact ⟨j, by omega, h2⟩
        · exact ⟨k, by omega, e.1, e.2, of_decide_eq_true h⟩
      · rintro ⟨j, h1, h2, h3, h4⟩
        by_cases ej : j = k
        · subst ej
          exact Or.inr (decide_eq_true h4)
        · exact Or.inl ⟨j, by omega, h2, h3, h4⟩
    · rw [if_neg e, ih]
      constructor
      · rintro ⟨j, h1, h2⟩
        exact ⟨j, by omega, h2⟩
      · rintro ⟨j, h1, h2, h3, h4⟩
        refine ⟨j, ?_, h2, h3, h4⟩
        rcases Nat.lt_or_ge j k with q | q
        · exact q
        · have : j = k := by omega
          subst this
          exact absurd (by rw [h2, h3]; rfl) e
theorem masks_eq {z : Nat → Int32} {n R : Nat} (hn : n ≤ 7) (h0 : ∀ r q, r < 7 → q < 7 → (n ≤ r ∨ n ≤ q) → z (7 * r + q) = 0) : mmask z R 49 = cmask z n R n := by
  apply Nat.eq_of_testBit_eq
  intro i
  rw [Bool.eq_iff_iff, mmask_bit, cmask_bit]
  constructor
  · rintro ⟨j, h1, h2, h3, h4⟩
    have hd : j / 7 < 7 := by omega
    have hm : j % 7 < 7 := Nat.mod_lt _ (by omega)
    have e : j = 7 * (j / 7) + j % 7 := by omega
    have hlt : j / 7 < n ∧ j % 7 < n := by
      apply Decidable.byContradiction
      intro hc
      have := h0 (j / 7) (j % 7) hd hm (by omega)
      rw [← e] at this
      simp [nz, this] at h3
    exact ⟨j / 7, hlt.1, h2, by omega, by rw [← h4, ← e]; exact h3⟩
  · rintro ⟨r, h1, h2, h3, h4⟩
    exact ⟨7 * r + i, by omega, by rw [show (7 * r + i) / 7 = r by omega]; exact h2, h4, by omega⟩
theorem cmask_congr {c z : Nat → Int32} {n R : Nat} (h : ∀ k, k < 49 → c k = z k) (hn : n ≤ 7) : ∀ j, j ≤ 7 → cmask c n R j = cmask z n R j := by
  intro j
  induction j with
  | zero => intro _; rfl
  | succ j ih =>
    intro hj
    rw [cmask, cmask, ih (by omega)]
    have : rmask (fun q => nz c (7 * j + q)) n = rmask (fun q => nz z (7 * j + q)) n := by
      apply Nat.eq_of_testBit_eq
      intro i
      rw [rmask_bit, rmask_bit]
      by_cases e : i < n
      · simp only [nz, h (7 * j + i) (by omega)]
      · simp [e]
    rw [this]
/-- the best of the sets from lo to hi -/
def Bst (D : Nat → Prop) (lo hi : Nat) (o : Option Nat) : Prop := match o with
  | none => ∀ R, lo ≤ R → R ≤ hi → ¬ D R
  | some b => lo ≤ b ∧ b ≤ hi ∧ D b ∧ ∀ R, lo ≤ R → R ≤ hi → D R → pc b < pc R ∨ (pc b = pc R ∧ b ≤ R)
theorem Bst.uniq {D : Nat → Prop} {lo hi : Nat} {o o' : Option Nat} (h : Bst D lo hi o) (h' : Bst D lo hi o') : o = o' := by
  cases o with
  | none =>
    cases o' with
    | none => rfl
    | some b' => exact absurd h'.2.2.1 (h b' h'.1 h'.2.1)
  | some b =>
    cases o' with
    | none => exact absurd h.2.2.1 (h' b h.1 h.2.1)
    | some b' =>
      have h1 := h.2.2.2 b' h'.1 h'.2.1 h'.2.2.1
      have h2 := h'.2.2.2 b h.1 h.2.1 h.2.2.1
      congr 1
      omega
def oI (o : Option Nat) : Int32 := match o with
  | none => -2000000005
  | some b => nI b
def oM (o : Option Nat) : Nat := match o with
  | none => 8
  | some b => pc b
theorem pc_le (S : Nat) : pc S ≤ 7 := pcN_le S 7
theorem two_pow_le {n : Nat} (hn : n ≤ 7) : 2 ^ n ≤ 128 := Nat.pow_le_pow_right (n := 2) (by omega) hn
theorem allLines_n : ∀ n, n ≤ 7 → f_X4_allLines (nI n) = some (nI (2 ^ n - 1)) := by decide +kernel
theorem ctooFew_n {n : Nat} (h1 : 1 ≤ n) (hn : n ≤ 7) (z : Nat → Int32) : ∃ o, f_X9_tooFew (nI n) z = some (oI o) ∧ Bst (fun R => pc (cmask z n R n) < pc R) 1 (2 ^ n - 1) o := by
  have hp := two_pow_le hn
  have hp1 := Nat.two_pow_pos n
  have hk : ∀ x : Int32, (∃ r, lpN (f_X9_tooFew_L1 (nI n) z) FU ((-2000000005 : Int32), (8 : Int32), (1 : Int32)) = some r ∧ ∃ o, r = oI o ∧ Bst (fun R => pc (cmask z n R n) < pc R) 1 (2 ^ n - 1) o) := fun _ => by
    refine lp_inv (body := f_X9_tooFew_L1 (nI n) z) (fun s => ∃ o R, s = (oI o, nI (oM o), nI R) ∧ 1 ≤ R ∧ R ≤ 2 ^ n ∧ Bst (fun R => pc (cmask z n R n) < pc R) 1 (R - 1) o) (fun s => 200 - s.2.2.toNatClampNeg) (fun r => ∃ o, r = oI o ∧ Bst (fun R => pc (cmask z n R n) < pc R) 1 (2 ^ n - 1) o) ?_ FU _ ⟨none, 1, rfl, by omega, by omega, fun R h1 h2 => absurd h2 (by omega)⟩ (FU_lt (by
      show 200 - _ < 100000
      omega))
    rintro s ⟨o, R, rfl, hR1, hR2, hB⟩
    rw [f_X9_tooFew_L1]
    rw [allLines_n n hn, bs]
    by_cases e : R = 2 ^ n
    · right
      subst e
      rw [if_pos (nI_lt (by omega) (by omega))]
      exact ⟨_, rfl, o, rfl, hB⟩
    · left
      have hR : R < 128 := by omega
      have hoM : oM o ≤ 8 := by
        cases o with
        | none => exact Nat.le_refl _
        | some b => exact Nat.le_trans (pc_le b) (by omega)
      have hpR := pc_le R
      have hpC := pc_le (cmask z n R n)
      rw [if_neg (nI_nlt (by omega) (by omega)), bitCount_n R hR, columnsOf_n hn hR, bs]
      have hnext : nI R + (1 : Int32) = nI (R + 1) := nI_1 R
      have hmu : 200 - (nI (R + 1)).toNatClampNeg < 200 - (nI R).toNatClampNeg := by
        rw [nI_clamp (by omega), nI_clamp (by omega)]
        omega
      -- the set R is not better than what there is
      have keep : (pc (cmask z n R n) < pc R → ∃ b, o = some b ∧ pc b ≤ pc R) → Bst (fun R => pc (cmask z n R n) < pc R) 1 (R + 1 - 1) o := by
        intro hx
        cases o with
        | none =>
          intro R' h1' h2' hD
          by_cases eR : R' = R
          · subst eR
            obtain ⟨b, hb, -⟩ := hx hD
            cases hb
          · exact hB R' h1' (by omega) hD
        | some b =>
          refine ⟨hB.1, by have := hB.2.1; omega, hB.2.2.1, fun R' h1' h2' hD => ?_⟩
          by_cases eR : R' = R
          · subst eR
            obtain ⟨b', hb, hle⟩ := hx hD
            cases hb
            have := hB.2.1
            omega
          · exact hB.2.2.2 R' h1' (by omega) hD
      by_cases e2 : oM o ≤ pc R
      · rw [if_pos (nI_le e2 (by omega))]
        refine ⟨_, rfl, ⟨o, R + 1, by rw [hnext], by omega, by omega, keep (fun _ => ?_)⟩, by rw [hnext]; exact hmu⟩
        cases o with
        | none => exact absurd e2 (by show ¬ 8 ≤ pc R; omega)
        | some b => exact ⟨b, rfl, e2⟩
      · rw [if_neg (nI_ge (by omega) (by omega)), bs, bitCount_n _ (lt128 (cmask_lt _ _ _ _) hn), bs]
        by_cases e3 : pc R ≤ pc (cmask z n R n)
        · rw [if_pos (nI_le e3 (by omega))]
          exact ⟨_, rfl, ⟨o, R + 1, by rw [hnext], by omega, by omega, keep (fun hD => absurd hD (by omega))⟩, by rw [hnext]; exact hmu⟩
        · rw [if_neg (nI_ge (by omega) (by omega))]
          refine ⟨_, rfl, ⟨some R, R + 1, by rw [hnext]; rfl, by omega, by omega, by omega, by omega, by omega, fun R' h1' h2' hD => ?_⟩, by rw [hnext]; exact hmu⟩
          by_cases eR : R' = R
          · subst eR
            exact Or.inr ⟨rfl, Nat.le_refl _⟩
          · cases o with
            | none => exact absurd hD (hB R' h1' (by omega))
            | some b =>
              have := hB.2.2.2 R' h1' (by omega) hD
              have e4 : ¬ pc b ≤ pc R := e2
              omega
  obtain ⟨r, hr, o, rfl, hB⟩ := hk 0
  refine ⟨o, ?_, hB⟩
  unfold f_X9_tooFew
  rw [hr, bs]
