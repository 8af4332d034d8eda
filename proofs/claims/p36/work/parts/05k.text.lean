/-! MATHEMATICS, part k: the text and its reading -/
/-- the character at a place, -1 behind the end -/
def chr (L : Nat) (t : Nat → Int32) (k : Nat) : Int32 := if k < L then t k else -1
def inr (c lo hi : Int32) : Bool := decide (¬ c < lo ∧ ¬ hi < c)
theorem at_chr {L p : Nat} (hL : L ≤ 100) (hp : p ≤ 200) (t : Nat → Int32) : f_X7_at (nI L) t (nI p) = some (chr L t p) := by
  unfold f_X7_at chr
  by_cases e : p < L
  · simp (disch := omega) only [lit32, bs, pl_e, gd_okI, nI_leI, nI_ltI, nI_eq, nI_add, pk_mul, pk_sub, nI_m1', nI_clamp, if_pos, if_neg, ↓reduceIte]
  · simp (disch := omega) only [lit32, bs, pl_e, gd_okI, nI_leI, nI_ltI, nI_eq, nI_add, pk_mul, pk_sub, nI_m1', nI_clamp, if_pos, if_neg, ↓reduceIte]
theorem isDigit_n (c : Int32) : f_X8_isDigit c = some (b2i (inr c 48 57)) := by
  unfold f_X8_isDigit inr
  by_cases h : c < 48
  · simp [h, b2i]
  · by_cases h2 : (57 : Int32) < c
    · simp [h, h2, b2i]
    · simp [h, h2, b2i]
/-- an entry of the text at p: whether there is one, where it ends or stops, its number -/
def en (L : Nat) (t : Nat → Int32) (p : Nat) : Bool × Nat × Int32 :=
  if chr L t p = 45 then
    if inr (chr L t (p + 1)) 49 57 then
      if inr (chr L t (p + 2)) 48 57 ∧ 10 * (chr L t (p + 1) - 48) + chr L t (p + 2) - 48 ≤ 20 then (true, p + 3, -(10 * (chr L t (p + 1) - 48) + chr L t (p + 2) - 48)) else (true, p + 2, -(chr L t (p + 1) - 48))
    else (false, p + 1, 0)
  else
    if inr (chr L t p) 48 57 then
      if 0 < chr L t p - 48 ∧ inr (chr L t (p + 1)) 48 57 ∧ 10 * (chr L t p - 48) + chr L t (p + 1) - 48 ≤ 20 then (true, p + 2, 10 * (chr L t p - 48) + chr L t (p + 1) - 48) else (true, p + 1, chr L t p - 48)
    else (false, p, 0)
theorem inr_lt {L p : Nat} {t : Nat → Int32} {lo hi : Int32} (hlo : (-1 : Int32) < lo) (h : inr (chr L t p) lo hi = true) : p < L := by
  apply Decidable.byContradiction
  intro hc
  unfold inr chr at h
  rw [if_neg hc] at h
  simp [hlo] at h
theorem digs {c : Int32} (h : inr c 48 57 = true) : ∃ d, d < 10 ∧ c - 48 = nI d ∧ c = nI (d + 48) := by
  unfold inr at h
  have h' := of_decide_eq_true h
  rw [Int32.lt_iff_toInt_lt, Int32.lt_iff_toInt_lt, show (48 : Int32).toInt = 48 by decide, show (57 : Int32).toInt = 57 by decide] at h'
  have h0 : ¬ c < 0 := by rw [Int32.lt_iff_toInt_lt, show (0 : Int32).toInt = 0 by decide]; omega
  obtain ⟨j, hj, rfl⟩ := nI_of h0
  rw [nI_toInt hj] at h'
  refine ⟨j - 48, by omega, pk_sub (b := 48) (by omega), by rw [show j - 48 + 48 = j by omega]⟩
theorem digs9 {c : Int32} (h : inr c 49 57 = true) : ∃ d, 1 ≤ d ∧ d < 10 ∧ c - 48 = nI d ∧ c = nI (d + 48) := by
  unfold inr at h
  have h' := of_decide_eq_true h
  rw [Int32.lt_iff_toInt_lt, Int32.lt_iff_toInt_lt, show (49 : Int32).toInt = 49 by decide, show (57 : Int32).toInt = 57 by decide] at h'
  have h0 : ¬ c < 0 := by rw [Int32.lt_iff_toInt_lt, show (0 : Int32).toInt = 0 by decide]; omega
  obtain ⟨j, hj, rfl⟩ := nI_of h0
  rw [nI_toInt hj] at h'
  refine ⟨j - 48, by omega, by omega, pk_sub (b := 48) (by omega), by rw [show j - 48 + 48 = j by omega]⟩
theorem inr_of_dig {d : Nat} (h : d < 10) : inr (nI (d + 48)) 48 57 = true := by
  have : ∀ d, d < 10 → inr (nI (d + 48)) 48 57 = true := by decide +kernel
  exact this d h
theorem inr9 {c : Int32} : inr c 49 57 = (inr c 48 57 && decide (¬ c = 48)) := by
  unfold inr
  rw [Bool.eq_iff_iff, Bool.and_eq_true, decide_eq_true_eq, decide_eq_true_eq, decide_eq_true_eq]
  rw [Int32.lt_iff_toInt_lt, Int32.lt_iff_toInt_lt, Int32.lt_iff_toInt_lt, show (49 : Int32).toInt = 49 by decide, show (48 : Int32).toInt = 48 by decide, show (57 : Int32).toInt = 57 by decide]
  constructor
  · rintro ⟨h1, h2⟩
    refine ⟨⟨by omega, h2⟩, fun hc => ?_⟩
    rw [hc] at h1
    exact absurd (show (48 : Int32).toInt < 49 by decide) h1
  · rintro ⟨⟨h1, h2⟩, h3⟩
    refine ⟨fun hc => h3 (Int32_eq_of ?_), h2⟩
    rw [show (48 : Int32).toInt = 48 by decide]
    omega
theorem en_le {L p : Nat} {t : Nat → Int32} (hp : p ≤ L) : (en L t p).2.1 ≤ L ∧ ((en L t p).1 = true → -20 ≤ (en L t p).2.2.toInt ∧ (en L t p).2.2.toInt ≤ 20) := by
  have h45 : chr L t p = 45 → p < L := fun h => by
    apply Decidable.byContradiction
    intro hc
    unfold chr at h
    rw [if_neg hc] at h
    exact absurd h (by decide)
  have small : ∀ v, v ≤ 20 → (nI v).toInt = v := fun v hv => nI_toInt (by omega)
  have smalln : ∀ v, v ≤ 20 → (-nI v).toInt = -(v : Int) := fun v hv => sb_negT (by omega)
  unfold en
  by_cases e : chr L t p = 45
  · have := h45 e
    rw [if_pos e]
    by_cases e1 : inr (chr L t (p + 1)) 49 57 = true
    · have l1 := inr_lt (by decide) e1
      rw [if_pos e1]
      obtain ⟨d, hd1, hd2, hd3, hd4⟩ := digs9 e1
      split
      · rename_i h
        have l2 := inr_lt (by decide) h.1
        obtain ⟨d2, hd5, hd6, hd7⟩ := digs h.1
        refine ⟨by show p + 3 ≤ L; omega, fun _ => ?_⟩
        have hx := h.2
        rw [hd3, hd7] at hx ⊢
        rw [show (10 : Int32) * nI d + nI (d2 + 48) - 48 = nI (10 * d + d2) from by
          show nI 10 * nI d + nI (d2 + 48) - nI 48 = _
          rw [pk_mul, nI_add, pk_sub (by omega)]
          congr 1] at hx ⊢
        have hle := (nI_leI (b := 20) (by omega) (by omega)).mp hx
        show -20 ≤ (-nI (10 * d + d2)).toInt ∧ (-nI (10 * d + d2)).toInt ≤ 20
        rw [smalln _ hle]
        omega
      · refine ⟨by show p + 2 ≤ L; omega, fun _ => ?_⟩
        rw [hd3]
        show -20 ≤ (-nI d).toInt ∧ (-nI d).toInt ≤ 20
        rw [smalln _ (by omega)]
        omega
    · rw [if_neg e1]
      exact ⟨by show p + 1 ≤ L; omega, fun h => by cases h⟩
  · rw [if_neg e]
    by_cases e1 : inr (chr L t p) 48 57 = true
    · have l1 := inr_lt (by decide) e1
      rw [if_pos e1]
      obtain ⟨d, hd2, hd3, hd4⟩ := digs e1
      split
      · rename_i h
        have l2 := inr_lt (by decide) h.2.1
        obtain ⟨d2, hd5, hd6, hd7⟩ := digs h.2.1
        refine ⟨by show p + 2 ≤ L; omega, fun _ => ?_⟩
        have hx := h.2.2
        rw [hd3, hd7] at hx ⊢
        rw [show (10 : Int32) * nI d + nI (d2 + 48) - 48 = nI (10 * d + d2) from by
          show nI 10 * nI d + nI (d2 + 48) - nI 48 = _
          rw [pk_mul, nI_add, pk_sub (by omega)]
          congr 1] at hx ⊢
        have hle := (nI_leI (b := 20) (by omega) (by omega)).mp hx
        show -20 ≤ (nI (10 * d + d2)).toInt ∧ (nI (10 * d + d2)).toInt ≤ 20
        rw [small _ hle]
        omega
      · refine ⟨by show p + 1 ≤ L; omega, fun _ => ?_⟩
        rw [hd3]
        show -20 ≤ (nI d).toInt ∧ (nI d).toInt ≤ 20
        rw [small _ (by omega)]
        omega
    · rw [if_neg e1]
      exact ⟨hp, fun h => by cases h⟩
theorem dlit10 (d e : Nat) : (10 : Int32) * nI d + nI (e + 48) - 48 = nI (10 * d + e) := by
  show nI 10 * nI d + nI (e + 48) - nI 48 = _
  rw [pk_mul, nI_add, pk_sub (by omega)]
  congr 1
