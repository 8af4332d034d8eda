/-! MATHEMATICS, part j: add, with diagonals as numbers -/
def dg (a i : Nat) : Nat := a / 10 ^ i % 10
theorem dg_lt (a i : Nat) : dg a i < 10 := Nat.mod_lt _ (by omega)
theorem dg_step (a i : Nat) : a / 10 ^ (i + 1) = a / 10 ^ i / 10 := by rw [Nat.pow_succ, Nat.div_div_eq_div_mul]
def um (a : Nat) : Nat → Nat
  | 0 => 0
  | i + 1 => um a i ||| 2 ^ dg a i
theorem um_bit (a i d : Nat) : (um a i).testBit d = true ↔ ∃ j, j < i ∧ dg a j = d := by
  induction i with
  | zero => simp [um]
  | succ i ih =>
    rw [um, Nat.testBit_or, Nat.testBit_two_pow, Bool.or_eq_true, ih]
    constructor
    · rintro (⟨j, h1, h2⟩ | h)
      · exact ⟨j, by omega, h2⟩
      · exact ⟨i, by omega, of_decide_eq_true h⟩
    · rintro ⟨j, h1, h2⟩
      by_cases e : j = i
      · subst e; exact Or.inr (decide_eq_true h2)
      · exact Or.inl ⟨j, by omega, h2⟩
theorem um_lt (a i : Nat) : um a i < 2 ^ 10 := by
  induction i with
  | zero => exact Nat.two_pow_pos 10
  | succ i ih =>
    rw [um]
    exact Nat.or_lt_two_pow ih (Nat.pow_lt_pow_right (by omega) (dg_lt a i))
theorem um_lt7 {a n : Nat} : ∀ i, (∀ j, j < i → dg a j < n) → um a i < 2 ^ n := by
  intro i
  induction i with
  | zero => intro _; exact Nat.two_pow_pos n
  | succ i ih =>
    intro h
    rw [um]
    exact Nat.or_lt_two_pow (ih (fun j hj => h j (by omega))) (Nat.pow_lt_pow_right (by omega) (h i (by omega)))
theorem cntB_set (P : Nat → Bool) (e N : Nat) : cntB (fun k => P k || decide (k = e)) N = cntB P N + if e < N then (if P e then 0 else 1) else 0 := by
  induction N with
  | zero => simp [cntB]
  | succ N ih =>
    rw [cntB, cntB, ih]
    by_cases h : e = N
    · subst h
      cases P e <;> simp
    · by_cases h2 : e < N
      · rw [if_pos h2, if_pos (show e < N + 1 by omega), show decide (N = e) = false from decide_eq_false (by omega), Bool.or_false]
        omega
      · rw [if_neg h2, if_neg (show ¬ e < N + 1 by omega), show decide (N = e) = false from decide_eq_false (by omega), Bool.or_false]
        omega
theorem um_cnt (a i : Nat) : cntB (fun d => (um a (i + 1)).testBit d) 10 = cntB (fun d => (um a i).testBit d) 10 + if (um a i).testBit (dg a i) then 0 else 1 := by
  have h := cntB_set (fun d => (um a i).testBit d) (dg a i) 10
  rw [if_pos (dg_lt a i)] at h
  rw [← h]
  exact cntB_congr (fun k _ => by
    rw [um, Nat.testBit_or, Nat.testBit_two_pow]
    congr 1
    exact decide_eq_decide.mpr ⟨fun h => h.symm, fun h => h.symm⟩)
theorem um_cnt_le (a i : Nat) : cntB (fun d => (um a i).testBit d) 10 ≤ i := by
  induction i with
  | zero => rw [cntB_false (fun k _ => by simp [um])]; exact Nat.le_refl _
  | succ i ih => rw [um_cnt]; split <;> omega
theorem um_cnt_eq {a : Nat} : ∀ i, cntB (fun d => (um a i).testBit d) 10 = i → ∀ j, j < i → (um a j).testBit (dg a j) = false := by
  intro i
  induction i with
  | zero => intro _ j hj; omega
  | succ i ih =>
    intro h j hj
    rw [um_cnt] at h
    have hle := um_cnt_le a i
    cases hb : (um a i).testBit (dg a i) with
    | true => rw [hb] at h; simp at h; omega
    | false =>
      rw [hb] at h
      by_cases e : j = i
      · subst e; exact hb
      · exact ih (by simp at h; omega) j (by omega)
theorem um_cnt_of {a : Nat} : ∀ i, (∀ j, j < i → (um a j).testBit (dg a j) = false) → cntB (fun d => (um a i).testBit d) 10 = i := by
  intro i
  induction i with
  | zero => intro _; rw [cntB_false (fun k _ => by simp [um])]
  | succ i ih =>
    intro h
    rw [um_cnt, ih (fun j hj => h j (by omega)), h i (by omega)]
    rfl
set_option maxRecDepth 100000 in
theorem full_cnt : ∀ n, n ≤ 7 → cntB (fun d => (2 ^ n - 1).testBit d) 10 = n := by decide +kernel
set_option maxRecDepth 100000 in
theorem cnt_full : ∀ n, n ≤ 7 → ∀ m, m < 2 ^ n → cntB (fun d => m.testBit d) 10 = n → m = 2 ^ n - 1 := by decide +kernel
/-- a number whose n digits are a diagonal -/
def VD (a n : Nat) : Prop := (∀ j, j < n → dg a j < n ∧ (um a j).testBit (dg a j) = false) ∧ a / 10 ^ n = 0
theorem VD_iff {a n : Nat} (hn : n ≤ 7) : VD a n ↔ a / 10 ^ n = 0 ∧ um a n = 2 ^ n - 1 := by
  constructor
  · rintro ⟨h1, h2⟩
    exact ⟨h2, cnt_full n hn _ (um_lt7 n (fun j hj => (h1 j hj).1)) (um_cnt_of n (fun j hj => (h1 j hj).2))⟩
  · rintro ⟨h1, h2⟩
    have hc : cntB (fun d => (um a n).testBit d) 10 = n := by rw [h2]; exact full_cnt n hn
    refine ⟨fun j hj => ⟨?_, um_cnt_eq n hc j hj⟩, h1⟩
    have hb : (um a n).testBit (dg a j) = true := (um_bit a n _).mpr ⟨j, hj, rfl⟩
    rw [h2] at hb
    apply Decidable.byContradiction
    intro hge
    rw [Nat.testBit_lt_two_pow (Nat.lt_of_lt_of_le (Nat.sub_lt (Nat.two_pow_pos n) (by omega)) (Nat.pow_le_pow_right (by omega) (by omega)))] at hb
    cases hb
theorem VD_dist {a n : Nat} (h : VD a n) {i j : Nat} (hi : i < n) (hj : j < n) (e : dg a i = dg a j) : i = j := by
  rcases Nat.lt_trichotomy i j with q | q | q
  · have := (h.1 j hj).2
    rw [(um_bit a j _).mpr ⟨i, q, e⟩] at this
    cases this
  · exact q
  · have := (h.1 i hi).2
    rw [(um_bit a i _).mpr ⟨j, q, e.symm⟩] at this
    cases this
/-- the row counter that goes down to -1 -/
def rdn (n i : Nat) : Int32 := if i < n then nI (n - 1 - i) else -1
theorem rdn_0 {n : Nat} (h : 1 ≤ n) : nI n - (1 : Int32) = rdn n 0 := by
  rw [rdn, if_pos (by omega)]
  exact pk_sub (b := 1) h
theorem rdn_s {n i : Nat} (h : i < n) (hn : n ≤ 7) : rdn n i + (-1 : Int32) = rdn n (i + 1) := by
  rw [rdn, if_pos h, rdn]
  by_cases e : i + 1 < n
  · rw [if_pos e, nI_m1 (by omega), show n - 1 - i - 1 = n - 1 - (i + 1) by omega]
  · rw [if_neg e, show n - 1 - i = 0 by omega]
    rfl
theorem rdn_lt {n i : Nat} (h : i < n) (hn : n ≤ 7) : ¬ rdn n i < 0 := by
  rw [rdn, if_pos h]
  exact nI_pos (by omega)
theorem rdn_end (n : Nat) : rdn n n < 0 := by
  rw [rdn, if_neg (Nat.lt_irrefl _)]
  decide
theorem dig_rem {a i : Nat} (ha : a < 2 ^ 31) : nI (a / 10 ^ i) - nI (a / 10 ^ i) / (10 : Int32) * (10 : Int32) = nI (dg a i) :=
  pk_rem (a := a / 10 ^ i) (d := 10) (Nat.lt_of_le_of_lt (Nat.div_le_self _ _) ha) (by omega) (by omega)
theorem dig_div {a i : Nat} (ha : a < 2 ^ 31) : nI (a / 10 ^ i) / (10 : Int32) = nI (a / 10 ^ (i + 1)) := by
  rw [dg_step]
  exact pk_div (a := a / 10 ^ i) (d := 10) (Nat.lt_of_le_of_lt (Nat.div_le_self _ _) ha) (by omega) (by omega)
theorem div_lt31 {a i : Nat} (ha : a < 2 ^ 31) : a / 10 ^ i < 2 ^ 31 := Nat.lt_of_le_of_lt (Nat.div_le_self _ _) ha
theorem hasDiagonal_n {a n : Nat} (ha : a < 2 ^ 31) (h1 : 1 ≤ n) (hn : n ≤ 7) : (VD a n ∧ f_X4_hasDiagonal (nI n) (nI a) = some 1) ∨ (¬ VD a n ∧ f_X4_hasDiagonal (nI n) (nI a) = some 0) := by
  have h := lp_inv (body := f_X4_hasDiagonal_L1 (nI n)) (fun s => ∃ i, s = (nI (um a i), nI (a / 10 ^ i), rdn n i) ∧ i ≤ n ∧ ∀ j, j < i → dg a j < n ∧ (um a j).testBit (dg a j) = false) (fun s => (s.2.2 + 1).toNatClampNeg) (fun r => (r = .inl (nI (a / 10 ^ n)) ∧ ∀ j, j < n → dg a j < n ∧ (um a j).testBit (dg a j) = false) ∨ (r = .inr 0 ∧ ¬ VD a n)) (by
    rintro s ⟨i, rfl, hi, hI⟩
    rw [f_X4_hasDiagonal_L1]
    by_cases e : i = n
    · subst e
      right
      rw [if_pos (rdn_end i)]
      exact ⟨_, rfl, Or.inl ⟨rfl, hI⟩⟩
    · have hin : i < n := by omega
      rw [if_neg (rdn_lt hin hn), pl_e, dig_rem ha]
      by_cases ed : dg a i < n
      · rw [has_n ed hn, bs, if_neg i10, sh1 _ (by omega), bitAnd_n _ (lt128 (um_lt7 i (fun j hj => (hI j hj).1)) hn) _ (by omega)]
        cases hb : (um a i).testBit (dg a i) with
        | true =>
          right
          rw [if_neg (show ¬ nI (if true = true then 2 ^ dg a i else 0) = 0 from nI_ne0 (Nat.two_pow_pos _) (Nat.lt_of_lt_of_le (lt128 (Nat.pow_lt_pow_right (by omega) ed) hn) (by omega)))]
          refine ⟨_, rfl, Or.inr ⟨rfl, fun hv => ?_⟩⟩
          rw [(hv.1 i hin).2] at hb
          cases hb
        | false =>
          left
          rw [if_pos (show nI (if false = true then 2 ^ dg a i else 0) = 0 from rfl), nI_or]
          simp only [pl_e]
          rw [dig_div ha, rdn_s hin hn]
          refine ⟨_, rfl, ⟨i + 1, rfl, by omega, fun j hj => ?_⟩, ?_⟩
          · by_cases ej : j = i
            · subst ej; exact ⟨ed, hb⟩
            · exact hI j (by omega)
          · show (rdn n (i + 1) + 1).toNatClampNeg < (rdn n i + 1).toNatClampNeg
            have e1 : rdn n i + 1 = nI (n - i) := by
              rw [rdn, if_pos hin, show nI (n - 1 - i) + (1 : Int32) = nI (n - 1 - i + 1) from nI_1 _, show n - 1 - i + 1 = n - i by omega]
            have e2 : rdn n (i + 1) + 1 = nI (n - (i + 1)) := by
              by_cases e3 : i + 1 < n
              · rw [rdn, if_pos e3, show nI (n - 1 - (i + 1)) + (1 : Int32) = nI (n - 1 - (i + 1) + 1) from nI_1 _, show n - 1 - (i + 1) + 1 = n - (i + 1) by omega]
              · rw [rdn, if_neg e3, show n - (i + 1) = 0 by omega]
                rfl
            rw [e1, e2, nI_clamp (by omega), nI_clamp (by omega)]
            omega
      · right
        rw [has_no (fun k hk hc => by
          have hd := dg_lt a i
          have := nI_inj (by omega) (by omega) hc
          omega) hn, bs, if_pos rfl]
        exact ⟨_, rfl, Or.inr ⟨rfl, fun hv => ed (hv.1 i hin).1⟩⟩) FU (nI (um a 0), nI (a / 10 ^ 0), rdn n 0) ⟨0, rfl, Nat.zero_le _, fun j hj => absurd hj (Nat.not_lt_zero _)⟩ (FU_lt (by
      show (rdn n 0 + 1).toNatClampNeg < 100000
      have e1 : rdn n 0 + 1 = nI n := by
        rw [rdn, if_pos (show 0 < n from h1), show nI (n - 1 - 0) + (1 : Int32) = nI (n - 1 - 0 + 1) from nI_1 _, show n - 1 - 0 + 1 = n by omega]
      rw [e1, nI_clamp (by omega)]
      omega))
  obtain ⟨r, hr, hq⟩ := h
  have hr' : lpN (f_X4_hasDiagonal_L1 (nI n)) FU ((0 : Int32), nI a, rdn n 0) = some r := by
    have e : a / 10 ^ 0 = a := by rw [Nat.pow_zero, Nat.div_one]
    rw [e] at hr
    exact hr
  unfold f_X4_hasDiagonal
  rw [if_pos (nI_pos' ha), pl_e, rdn_0 h1, hr', bs]
  rcases hq with ⟨rfl, hq⟩ | ⟨rfl, hq⟩
  · by_cases e : a / 10 ^ n = 0
    · left
      refine ⟨⟨hq, e⟩, ?_⟩
      simp only [e]
      rfl
    · right
      refine ⟨fun hv => e hv.2, ?_⟩
      have : ¬ nI (a / 10 ^ n) = 0 := nI_ne0 (Nat.pos_of_ne_zero e) (div_lt31 ha)
      simp only [this, ↓reduceIte]
  · exact Or.inr ⟨hq, rfl⟩
set_option maxRecDepth 100000 in
theorem sh10 : ∀ j, j < 10 → (1 : Int32) <<< (nI j &&& 31) = nI (2 ^ j) := by decide +kernel
theorem allM : ∀ n, n ≤ 7 → (1 : Int32) <<< (nI n &&& 31) - (1 : Int32) = nI (2 ^ n - 1) := by decide +kernel
/-- the loop over the digits from the last row on -/
theorem lp_dig {α ρ : Type} {a n : Nat} (ha : a < 2 ^ 31) (h1 : 1 ≤ n) (hn : n ≤ 7) {body : α × Int32 × Int32 → Option ((α × Int32 × Int32) ⊕ ρ)} (A : Nat → α) (r : ρ) (hs : ∀ i, i < n → body (A i, nI (a / 10 ^ i), nI (n - 1 - i)) = some (.inl (A (i + 1), nI (a / 10 ^ i) / (10 : Int32), nI (n - 1 - i) + (-1 : Int32)))) (he : ∀ d, body (A n, d, (-1 : Int32)) = some (.inr r)) : lpN body FU (A 0, nI a, nI n - (1 : Int32)) = some r := by
  have h := lp_run (body := body) (fun i => (A i, nI (a / 10 ^ i), rdn n i)) n r (fun i hi => by
    have er : rdn n i = nI (n - 1 - i) := by rw [rdn, if_pos hi]
    show body (A i, nI (a / 10 ^ i), rdn n i) = some (.inl (A (i + 1), nI (a / 10 ^ (i + 1)), rdn n (i + 1)))
    rw [er, hs i hi, dig_div ha, ← er, rdn_s hi hn]) (by
    show body (A n, nI (a / 10 ^ n), rdn n n) = _
    rw [rdn, if_neg (Nat.lt_irrefl _)]
    exact he _) (fuel := FU) (FU_lt (by omega))
  have h' : lpN body FU (A 0, nI (a / 10 ^ 0), rdn n 0) = some r := h
  rw [show a / 10 ^ 0 = a by rw [Nat.pow_zero, Nat.div_one], ← rdn_0 h1] at h'
  exact h'
def gmx (x : Nat → Int32) : Nat → Int32
  | 0 => -20
  | i + 1 => if gmx x i < x i then x i else gmx x i
theorem gmx_lt (x : Nat → Int32) (n : Nat) : gmx x n < (20 : Int32) ↔ ∀ i, i < n → x i < (20 : Int32) := by
  induction n with
  | zero => exact ⟨fun _ i hi => absurd hi (Nat.not_lt_zero _), fun _ => by show (-20 : Int32) < 20; decide⟩
  | succ n ih =>
    rw [gmx]
    by_cases e : gmx x n < x n
    · rw [if_pos e]
      constructor
      · intro h i hi
        by_cases ei : i = n
        · subst ei; exact h
        · refine ih.mp ?_ i (by omega)
          rw [Int32.lt_iff_toInt_lt] at e h ⊢
          omega
      · intro h; exact h n (by omega)
    · rw [if_neg e]
      constructor
      · intro h i hi
        by_cases ei : i = n
        · subst ei
          rw [Int32.lt_iff_toInt_lt] at e h ⊢
          omega
        · exact ih.mp h i (by omega)
      · intro h; exact ih.mpr (fun i hi => h i (by omega))
theorem greatestOn_n {a n : Nat} (ha : a < 2 ^ 31) (h1 : 1 ≤ n) (hn : n ≤ 7) (hv : VD a n) (z : Nat → Int32) : f_X4_greatestOn (nI n) z (nI a) = some (gmx (fun i => z (7 * (n - 1 - i) + dg a i)) n) := by
  unfold f_X4_greatestOn
  rw [pl_e, show (-20 : Int32) = gmx (fun i => z (7 * (n - 1 - i) + dg a i)) 0 from rfl, lp_dig ha h1 hn (gmx (fun i => z (7 * (n - 1 - i) + dg a i))) (gmx (fun i => z (7 * (n - 1 - i) + dg a i)) n) (fun i hi => by
    rw [f_X4_greatestOn_L1, if_neg (nI_pos (by omega)), dig_rem ha, at_n (by omega) (hv.1 i hi).1 hn, bs]
    rfl) (fun d => by
    rw [f_X4_greatestOn_L1, if_pos (by decide)]), bs]
theorem sumOn_n {a n : Nat} (ha : a < 2 ^ 31) (h1 : 1 ≤ n) (hn : n ≤ 7) (hv : VD a n) (z : Nat → Int32) : f_X4_sumOn (nI n) z (nI a) = some (sI (fun i => z (7 * (n - 1 - i) + dg a i)) n) := by
  unfold f_X4_sumOn
  rw [pl_e, show (0 : Int32) = sI (fun i => z (7 * (n - 1 - i) + dg a i)) 0 from rfl, lp_dig ha h1 hn (sI (fun i => z (7 * (n - 1 - i) + dg a i))) (sI (fun i => z (7 * (n - 1 - i) + dg a i)) n) (fun i hi => by
    rw [f_X4_sumOn_L1, if_neg (nI_pos (by omega)), dig_rem ha, at_n (by omega) (hv.1 i hi).1 hn, bs]
    rfl) (fun d => by
    rw [f_X4_sumOn_L1, if_pos (by decide)]), bs]
/-- each entry of a diagonal grows by x -/
theorem increaseOn_n {a n : Nat} (ha : a < 2 ^ 31) (h1 : 1 ≤ n) (hn : n ≤ 7) (hv : VD a n) (z : Nat → Int32) (x : Int32) : ∃ w, f_X4_increaseOn (nI n) z (nI a) x = some w ∧ ∀ r q, r < 7 → q < 7 → w (7 * r + q) = if r < n ∧ q = dg a (n - 1 - r) then z (7 * r + q) + x else z (7 * r + q) := by
  have h := lp_inv (body := f_X4_increaseOn_L1 x (nI n)) (fun s => ∃ i w, s = (nI (a / 10 ^ i), rdn n i, w) ∧ i ≤ n ∧ ∀ r q, r < 7 → q < 7 → w (7 * r + q) = if r < n ∧ n ≤ r + i ∧ q = dg a (n - 1 - r) then z (7 * r + q) + x else z (7 * r + q)) (fun s => (s.2.1 + 1).toNatClampNeg) (fun w => ∀ r q, r < 7 → q < 7 → w (7 * r + q) = if r < n ∧ q = dg a (n - 1 - r) then z (7 * r + q) + x else z (7 * r + q)) (by
    rintro s ⟨i, w, rfl, hi, hI⟩
    rw [f_X4_increaseOn_L1]
    by_cases e : i = n
    · subst e
      right
      rw [if_pos (rdn_end i)]
      refine ⟨w, rfl, fun r q hr hq => ?_⟩
      rw [hI r q hr hq]
      by_cases ec : r < i ∧ q = dg a (i - 1 - r)
      · rw [if_pos ec, if_pos ⟨ec.1, by omega, ec.2⟩]
      · rw [if_neg ec, if_neg (fun hc => ec ⟨hc.1, hc.2.2⟩)]
    · left
      have hin : i < n := by omega
      have hd := (hv.1 i hin).1
      have er : rdn n i = nI (n - 1 - i) := by rw [rdn, if_pos hin]
      have e1 : rdn n i + 1 = nI (n - i) := by
        rw [rdn, if_pos hin, show nI (n - 1 - i) + (1 : Int32) = nI (n - 1 - i + 1) from nI_1 _, show n - 1 - i + 1 = n - i by omega]
      have e2 : rdn n (i + 1) + 1 = nI (n - (i + 1)) := by
        by_cases e3 : i + 1 < n
        · rw [rdn, if_pos e3, show nI (n - 1 - (i + 1)) + (1 : Int32) = nI (n - 1 - (i + 1) + 1) from nI_1 _, show n - 1 - (i + 1) + 1 = n - (i + 1) by omega]
        · rw [rdn, if_neg e3, show n - (i + 1) = 0 by omega]
          rfl
      rw [if_neg (rdn_lt hin hn), dig_rem ha, pl_e, rdn_s hin hn, dig_div ha]
      simp only [er]
      rw [at_n (by omega) hd hn, bs, put_n (by omega) hd hn, bs, pl_e, pl_e]
      refine ⟨_, rfl, ⟨i + 1, _, rfl, by omega, fun r q hr hq => ?_⟩, ?_⟩
      · rw [upd_at, hI r q hr hq]
        by_cases ec : r = n - 1 - i ∧ q = dg a i
        · obtain ⟨e3, e4⟩ := ec
          rw [if_pos (by omega), ← e3, ← e4, hI r q hr hq, if_neg (by omega), if_pos ⟨by omega, by omega, by rw [show n - 1 - r = i by omega]; exact e4⟩]
        · rw [if_neg (by omega)]
          by_cases ec2 : r < n ∧ n ≤ r + i ∧ q = dg a (n - 1 - r)
          · rw [if_pos ec2, if_pos ⟨ec2.1, by omega, ec2.2.2⟩]
          · rw [if_neg ec2, if_neg (fun hc => by
              by_cases e5 : n ≤ r + i
              · exact ec2 ⟨hc.1, e5, hc.2.2⟩
              · have e6 : r = n - 1 - i := by omega
                refine ec ⟨e6, ?_⟩
                rw [hc.2.2, show n - 1 - r = i by omega])]
      · show (rdn n (i + 1) + 1).toNatClampNeg < (nI (n - 1 - i) + 1).toNatClampNeg
        rw [← er, e1, e2, nI_clamp (by omega), nI_clamp (by omega)]
        omega) FU (nI (a / 10 ^ 0), rdn n 0, z) ⟨0, z, rfl, Nat.zero_le _, fun r q hr hq => by rw [if_neg (by omega)]⟩ (FU_lt (by
      show (rdn n 0 + 1).toNatClampNeg < 100000
      have e1 : rdn n 0 + 1 = nI n := by
        rw [rdn, if_pos (show 0 < n from h1), show nI (n - 1 - 0) + (1 : Int32) = nI (n - 1 - 0 + 1) from nI_1 _, show n - 1 - 0 + 1 = n by omega]
      rw [e1, nI_clamp (by omega)]
      omega))
  obtain ⟨w, hr, hw⟩ := h
  have hr' : lpN (f_X4_increaseOn_L1 x (nI n)) FU (nI a, rdn n 0, z) = some w := by
    have e : a / 10 ^ 0 = a := by rw [Nat.pow_zero, Nat.div_one]
    rw [e] at hr
    exact hr
  unfold f_X4_increaseOn
  rw [pl_e, rdn_0 h1, hr', bs]
  exact ⟨w, rfl, hw⟩
theorem sI_cons (f : Nat → Int32) (n : Nat) : sI f (n + 1) = f 0 + sI (fun k => f (k + 1)) n := by
  induction n with
  | zero => show (0 : Int32) + f 0 = f 0 + 0; rw [Int32.add_comm]
  | succ n ih => rw [sI, ih, sI, Int32.add_assoc]
theorem sI_rev : ∀ (n : Nat) (f : Nat → Int32), sI (fun i => f (n - 1 - i)) n = sI f n := by
  intro n
  induction n with
  | zero => intro f; rfl
  | succ n ih =>
    intro f
    rw [sI_cons f n, ← ih (fun k => f (k + 1)), sI, Int32.add_comm]
    rw [show n + 1 - 1 - n = 0 by omega]
    congr 1
    exact sI_congr (fun k hk => congrArg f (by omega))
