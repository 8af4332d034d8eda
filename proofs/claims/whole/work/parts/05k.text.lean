/-! MATHEMATICS, part k: the text and its reading -/
theorem st_type {L : Nat} {ch tx : Nat → Int32} (hL : L ≤ 100) (hc : ∀ k, k < L → ch k = tx k) (x : Int32) :
    ∃ r L' ch' tx', f_X9_type (nI L) ch (x.toUInt32 % 65536).toInt32 = some (r, nI L', ch') ∧ f_X10_type (nI L) tx (x.toUInt32 % 65536).toInt32 = some (r, nI L', tx') ∧ L' ≤ 100 ∧ ∀ k, k < L' → ch' k = tx' k := by
  unfold f_X9_type f_X10_type f_X7_isFull f_X7_append f_X7_length
  by_cases e : L = 100
  · subst e
    rw [if_neg (show ¬ nI 100 < (100 : Int32) by decide), if_pos (show nI 100 = (100 : Int32) from rfl)]
    exact ⟨-2000000003, 100, ch, tx, rfl, rfl, hL, hc⟩
  · rw [if_pos (show nI L < (100 : Int32) from nI_lt (b := 100) (by omega) (by omega)), if_neg (show ¬ nI L = (100 : Int32) from fun h => e (nI_inj (b := 100) (by omega) (by omega) h))]
    simp (disch := omega) only [lit32, bs, pl_e, gd_okI, nI_leI, nI_ltI, nI_eq, nI_add, pk_mul, pk_sub, nI_m1', nI_clamp, if_pos, if_neg, ↓reduceIte]
    refine ⟨nI (L + 1), L + 1, _, _, rfl, rfl, by omega, fun k hk => ?_⟩
    rw [upd_at, upd_at, pk_vc]
    split
    · rfl
    · exact hc k (by omega)
theorem st_clearText (L : Nat) : f_X9_clearText (nI L) = some (nI L, nI 0) ∧ f_X10_clearText (nI L) = some (nI L, nI 0) := ⟨rfl, rfl⟩
/-- the character at a place, -1 behind the end -/
def chr (L : Nat) (t : Nat → Int32) (k : Nat) : Int32 := if k < L then t k else -1
def inr (c lo hi : Int32) : Bool := decide (¬ c < lo ∧ ¬ hi < c)
theorem at_chr {L p : Nat} (hL : L ≤ 100) (hp : p ≤ 200) (t : Nat → Int32) : f_X7_at (nI L) t (nI p) = some (chr L t p) := by
  unfold f_X7_at chr
  by_cases e : p < L
  · simp (disch := omega) only [lit32, bs, pl_e, gd_okI, nI_leI, nI_ltI, nI_eq, nI_add, pk_mul, pk_sub, nI_m1', nI_clamp, if_pos, if_neg, ↓reduceIte]
  · simp (disch := omega) only [lit32, bs, pl_e, gd_okI, nI_leI, nI_ltI, nI_eq, nI_add, pk_mul, pk_sub, nI_m1', nI_clamp, if_pos, if_neg, ↓reduceIte]
theorem isDigit_n (c : Int32) : f_X8_isDigit c = some (b2i (inr c 48 57)) := by
  unfold f_X8_isDigit inr
  by_cases h : c < 48
  · simp [h, b2i]
  · by_cases h2 : (57 : Int32) < c
    · simp [h, h2, b2i]
    · simp [h, h2, b2i]
theorem sees_n {L p : Nat} {t : Nat → Int32} (hL : L ≤ 100) (hp : p ≤ 200) {lo hi : Int32} (hlo : (-1 : Int32) < lo) : f_X10_sees (nI L) (nI p) t lo hi = some (b2i (inr (chr L t p) lo hi)) := by
  unfold f_X10_sees chr
  by_cases e : p < L
  · simp (disch := omega) only [lit32, bs, pl_e, gd_okI, nI_leI, nI_ltI, nI_eq, nI_add, pk_mul, pk_sub, nI_m1', nI_clamp, if_pos, if_neg, ↓reduceIte]
    rw [min_n, bs]
    unfold inr b2i
    by_cases h : t p < lo
    · simp [h]; rfl
    · by_cases h2 : hi < t p
      · simp [h, h2]; rfl
      · simp [h, h2]; rfl
  · rw [if_neg e, if_pos (nI_le (by omega) (by omega))]
    unfold inr
    rw [decide_eq_false (fun h => h.1 hlo)]
    rfl
theorem takes_n {L p : Nat} {t : Nat → Int32} (hL : L ≤ 100) (hp : p ≤ 150) {c : Int32} (hc : (-1 : Int32) < c) : f_X10_takes (nI L) (nI p) t c = some (b2i (decide (chr L t p = c)), nI (if chr L t p = c then p + 1 else p)) := by
  unfold f_X10_takes
  rw [sees_n hL (by omega) hc, bs]
  have e : inr (chr L t p) c c = decide (chr L t p = c) := by
    unfold inr
    apply decide_eq_decide.mpr
    constructor
    · rintro ⟨h1, h2⟩
      apply Int32_eq_of
      rw [Int32.lt_iff_toInt_lt] at h1 h2
      omega
    · intro h
      rw [h]
      exact ⟨Int32.lt_irrefl, Int32.lt_irrefl⟩
  rw [e]
  by_cases h : chr L t p = c
  · rw [if_pos h, decide_eq_true h]
    show (if (1 : Int32) = 0 then _ else _) = _
    rw [if_neg i10, pl_e, gd_t (show b2i true = 0 ∨ b2i true = 1 from Or.inr rfl), show nI p + (1 : Int32) = nI (p + 1) from nI_1 p]
  · rw [if_neg h, decide_eq_false h]
    show (if (0 : Int32) = 0 then _ else _) = _
    rw [if_pos rfl, pl_e, gd_t (show b2i false = 0 ∨ b2i false = 1 from Or.inl rfl), Int32.add_zero]
/-- an entry of the text at p: whether there is one, where it ends or stops, its number -/
def en (L : Nat) (t : Nat → Int32) (p : Nat) : Bool × Nat × Int32 :=
  if chr L t p = 45 then
    if inr (chr L t (p + 1)) 49 57 then
      if inr (chr L t (p + 2)) 48 57 ∧ 10 * (chr L t (p + 1) - 48) + chr L t (p + 2) - 48 ≤ 20 then (true, p + 3, -(10 * (chr L t (p + 1) - 48) + chr L t (p + 2) - 48)) else (true, p + 2, -(chr L t (p + 1) - 48))
    else (false, p + 1, 0)
  else
    if inr (chr L t p) 48 57 then
      if 0 < chr L t p - 48 ∧ inr (chr L t (p + 1)) 48 57 ∧ 10 * (chr L t p - 48) + chr L t (p + 1) - 48 ≤ 20 then (true, p + 2, 10 * (chr L t p - 48) + chr L t (p + 1) - 48) else (true, p + 1, chr L t p - 48)
    else (false, p, 0)
theorem inr_lt {L p : Nat} {t : Nat → Int32} {lo hi : Int32} (hlo : (-1 : Int32) < lo) (h : inr (chr L t p) lo hi = true) : p < L := by
  apply Decidable.byContradiction
  intro hc
  unfold inr chr at h
  rw [if_neg hc] at h
  simp [hlo] at h
theorem digs {c : Int32} (h : inr c 48 57 = true) : ∃ d, d < 10 ∧ c - 48 = nI d ∧ c = nI (d + 48) := by
  unfold inr at h
  have h' := of_decide_eq_true h
  rw [Int32.lt_iff_toInt_lt, Int32.lt_iff_toInt_lt, show (48 : Int32).toInt = 48 by decide, show (57 : Int32).toInt = 57 by decide] at h'
  have h0 : ¬ c < 0 := by rw [Int32.lt_iff_toInt_lt, show (0 : Int32).toInt = 0 by decide]; omega
  obtain ⟨j, hj, rfl⟩ := nI_of h0
  rw [nI_toInt hj] at h'
  refine ⟨j - 48, by omega, pk_sub (b := 48) (by omega), by rw [show j - 48 + 48 = j by omega]⟩
theorem digs9 {c : Int32} (h : inr c 49 57 = true) : ∃ d, 1 ≤ d ∧ d < 10 ∧ c - 48 = nI d ∧ c = nI (d + 48) := by
  unfold inr at h
  have h' := of_decide_eq_true h
  rw [Int32.lt_iff_toInt_lt, Int32.lt_iff_toInt_lt, show (49 : Int32).toInt = 49 by decide, show (57 : Int32).toInt = 57 by decide] at h'
  have h0 : ¬ c < 0 := by rw [Int32.lt_iff_toInt_lt, show (0 : Int32).toInt = 0 by decide]; omega
  obtain ⟨j, hj, rfl⟩ := nI_of h0
  rw [nI_toInt hj] at h'
  refine ⟨j - 48, by omega, by omega, pk_sub (b := 48) (by omega), by rw [show j - 48 + 48 = j by omega]⟩
theorem inr_of_dig {d : Nat} (h : d < 10) : inr (nI (d + 48)) 48 57 = true := by
  have : ∀ d, d < 10 → inr (nI (d + 48)) 48 57 = true := by decide +kernel
  exact this d h
theorem inr9 {c : Int32} : inr c 49 57 = (inr c 48 57 && decide (¬ c = 48)) := by
  unfold inr
  rw [Bool.eq_iff_iff, Bool.and_eq_true, decide_eq_true_eq, decide_eq_true_eq, decide_eq_true_eq]
  rw [Int32.lt_iff_toInt_lt, Int32.lt_iff_toInt_lt, Int32.lt_iff_toInt_lt, show (49 : Int32).toInt = 49 by decide, show (48 : Int32).toInt = 48 by decide, show (57 : Int32).toInt = 57 by decide]
  constructor
  · rintro ⟨h1, h2⟩
    refine ⟨⟨by omega, h2⟩, fun hc => ?_⟩
    rw [hc] at h1
    exact absurd (show (48 : Int32).toInt < 49 by decide) h1
  · rintro ⟨⟨h1, h2⟩, h3⟩
    refine ⟨fun hc => h3 (Int32_eq_of ?_), h2⟩
    rw [show (48 : Int32).toInt = 48 by decide]
    omega
theorem en_le {L p : Nat} {t : Nat → Int32} (hp : p ≤ L) : (en L t p).2.1 ≤ L ∧ ((en L t p).1 = true → -20 ≤ (en L t p).2.2.toInt ∧ (en L t p).2.2.toInt ≤ 20) := by
  have h45 : chr L t p = 45 → p < L := fun h => by
    apply Decidable.byContradiction
    intro hc
    unfold chr at h
    rw [if_neg hc] at h
    exact absurd h (by decide)
  have small : ∀ v, v ≤ 20 → (nI v).toInt = v := fun v hv => nI_toInt (by omega)
  have smalln : ∀ v, v ≤ 20 → (-nI v).toInt = -(v : Int) := fun v hv => sb_negT (by omega)
  unfold en
  by_cases e : chr L t p = 45
  · have := h45 e
    rw [if_pos e]
    by_cases e1 : inr (chr L t (p + 1)) 49 57 = true
    · have l1 := inr_lt (by decide) e1
      rw [if_pos e1]
      obtain ⟨d, hd1, hd2, hd3, hd4⟩ := digs9 e1
      split
      · rename_i h
        have l2 := inr_lt (by decide) h.1
        obtain ⟨d2, hd5, hd6, hd7⟩ := digs h.1
        refine ⟨by show p + 3 ≤ L; omega, fun _ => ?_⟩
        have hx := h.2
        rw [hd3, hd7] at hx ⊢
        rw [show (10 : Int32) * nI d + nI (d2 + 48) - 48 = nI (10 * d + d2) from by
          show nI 10 * nI d + nI (d2 + 48) - nI 48 = _
          rw [pk_mul, nI_add, pk_sub (by omega)]
          congr 1] at hx ⊢
        have hle := (nI_leI (b := 20) (by omega) (by omega)).mp hx
        show -20 ≤ (-nI (10 * d + d2)).toInt ∧ (-nI (10 * d + d2)).toInt ≤ 20
        rw [smalln _ hle]
        omega
      · refine ⟨by show p + 2 ≤ L; omega, fun _ => ?_⟩
        rw [hd3]
        show -20 ≤ (-nI d).toInt ∧ (-nI d).toInt ≤ 20
        rw [smalln _ (by omega)]
        omega
    · rw [if_neg e1]
      exact ⟨by show p + 1 ≤ L; omega, fun h => by cases h⟩
  · rw [if_neg e]
    by_cases e1 : inr (chr L t p) 48 57 = true
    · have l1 := inr_lt (by decide) e1
      rw [if_pos e1]
      obtain ⟨d, hd2, hd3, hd4⟩ := digs e1
      split
      · rename_i h
        have l2 := inr_lt (by decide) h.2.1
        obtain ⟨d2, hd5, hd6, hd7⟩ := digs h.2.1
        refine ⟨by show p + 2 ≤ L; omega, fun _ => ?_⟩
        have hx := h.2.2
        rw [hd3, hd7] at hx ⊢
        rw [show (10 : Int32) * nI d + nI (d2 + 48) - 48 = nI (10 * d + d2) from by
          show nI 10 * nI d + nI (d2 + 48) - nI 48 = _
          rw [pk_mul, nI_add, pk_sub (by omega)]
          congr 1] at hx ⊢
        have hle := (nI_leI (b := 20) (by omega) (by omega)).mp hx
        show -20 ≤ (nI (10 * d + d2)).toInt ∧ (nI (10 * d + d2)).toInt ≤ 20
        rw [small _ hle]
        omega
      · refine ⟨by show p + 1 ≤ L; omega, fun _ => ?_⟩
        rw [hd3]
        show -20 ≤ (nI d).toInt ∧ (nI d).toInt ≤ 20
        rw [small _ (by omega)]
        omega
    · rw [if_neg e1]
      exact ⟨hp, fun h => by cases h⟩
theorem dlit10 (d e : Nat) : (10 : Int32) * nI d + nI (e + 48) - 48 = nI (10 * d + e) := by
  show nI 10 * nI d + nI (e + 48) - nI 48 = _
  rw [pk_mul, nI_add, pk_sub (by omega)]
  congr 1
theorem readEntry_n {L p : Nat} {t told : Nat → Int32} (hL : L ≤ 100) (hp : p ≤ L) {k : Nat} (hk : k < 49) : ∃ w, f_X10_readEntry (nI L) (nI p) t told (nI k) = some (b2i (en L t p).1, nI (en L t p).2.1, w) ∧ ((en L t p).1 = true → w = upd told k (en L t p).2.2) := by
  unfold f_X10_readEntry
  rw [takes_n hL (by omega) (by decide)]
  simp only [bs]
  unfold en
  by_cases e : chr L t p = 45
  · rw [if_pos e, if_pos e, decide_eq_true e]
    rw [show b2i true = 1 from rfl, if_neg i10, bs, sees_n hL (by omega) (by decide), bs]
    by_cases e1 : inr (chr L t (p + 1)) 49 57 = true
    · have l1 := inr_lt (by decide) e1
      obtain ⟨d, hd1, hd2, hd3, hd4⟩ := digs9 e1
      rw [e1, if_pos rfl, show b2i true = 1 from rfl, if_neg i10, gd_t (okI_n (by omega) (by omega)), nI_clamp (by omega)]
      have ht : t (p + 1) = chr L t (p + 1) := by unfold chr; rw [if_pos l1]
      rw [ht, hd3, pl_e, pl_e, show nI (p + 1) + (1 : Int32) = nI (p + 2) from nI_1 (p + 1), if_neg (nI_nle (by omega) (by omega)), sees_n hL (by omega) (by decide), bs]
      by_cases e2 : inr (chr L t (p + 2)) 48 57 = true
      · have l2 := inr_lt (by decide) e2
        obtain ⟨d2, hd5, hd6, hd7⟩ := digs e2
        have ht2 : t (p + 2) = chr L t (p + 2) := by unfold chr; rw [if_pos l2]
        rw [e2, show b2i true = 1 from rfl, if_neg i10, gd_t (okI_n (by omega) (by omega))]
        simp only [nI_clamp (show p + 2 < 2 ^ 31 by omega), ht2, hd7, dlit10]
        by_cases e3 : 10 * d + d2 ≤ 20
        · rw [if_neg (show ¬ (20 : Int32) < nI (10 * d + d2) from nI_nlt (a := 20) e3 (by omega)), gd_t (okI_n (by omega) (by omega)), pl_e, pl_e, bs]
          rw [if_pos (show True ∧ nI (10 * d + d2) ≤ (20 : Int32) from ⟨trivial, nI_le (b := 20) e3 (by omega)⟩)]
          simp only []
          rw [if_neg i10, gd_t (okI_n hk (by omega)), pl_e, nI_clamp (by omega)]
          exact ⟨upd told k (-nI (10 * d + d2)), by rw [show nI (p + 2) + (1 : Int32) = nI (p + 3) from nI_1 (p + 2)]; rfl, fun _ => rfl⟩
        · rw [if_pos (show (20 : Int32) < nI (10 * d + d2) from nI_lt (a := 20) (by omega) (by omega)), bs]
          rw [if_neg (show ¬ (True ∧ nI (10 * d + d2) ≤ (20 : Int32)) from fun h => e3 ((nI_leI (b := 20) (by omega) (by omega)).mp h.2))]
          simp only []
          rw [if_neg i10, gd_t (okI_n hk (by omega)), pl_e, nI_clamp (by omega)]
          exact ⟨_, rfl, fun _ => rfl⟩
      · have e2' : inr (chr L t (p + 2)) 48 57 = false := by
          cases h : inr (chr L t (p + 2)) 48 57 with
          | true => exact absurd h e2
          | false => rfl
        rw [e2', show b2i false = 0 from rfl, if_pos rfl, bs]
        rw [if_neg (show ¬ (false = true ∧ (10 * nI d + chr L t (p + 2) - 48) ≤ (20 : Int32)) from fun h => by cases h.1)]
        simp only []
        rw [if_neg i10, gd_t (okI_n hk (by omega)), pl_e, nI_clamp (by omega)]
        exact ⟨_, rfl, fun _ => rfl⟩
    · have e1' : inr (chr L t (p + 1)) 49 57 = false := by
        cases h : inr (chr L t (p + 1)) 49 57 with
        | true => exact absurd h e1
        | false => rfl
      rw [e1', show b2i false = 0 from rfl, if_pos rfl, if_neg (by decide)]
      exact ⟨told, rfl, fun h => by cases h⟩
  · rw [if_neg e, if_neg e, decide_eq_false e]
    rw [show b2i false = 0 from rfl, if_pos rfl, bs, sees_n hL (by omega) (by decide), bs]
    by_cases e1 : inr (chr L t p) 48 57 = true
    · have l1 := inr_lt (by decide) e1
      obtain ⟨d, hd2, hd3, hd4⟩ := digs e1
      rw [e1, if_pos rfl, show b2i true = 1 from rfl, if_neg i10, gd_t (okI_n (by omega) (by omega)), nI_clamp (by omega)]
      have ht : t p = chr L t p := by unfold chr; rw [if_pos l1]
      rw [ht, hd3, pl_e, pl_e, show nI p + (1 : Int32) = nI (p + 1) from nI_1 p]
      by_cases e0 : d = 0
      · subst e0
        rw [if_pos (show nI 0 ≤ 0 by decide), bs, if_neg (show ¬ (0 < nI 0 ∧ inr (chr L t (p + 1)) 48 57 = true ∧ 10 * nI 0 + chr L t (p + 1) - 48 ≤ (20 : Int32)) from fun h => absurd h.1 (by decide))]
        simp only []
        rw [if_pos trivial, gd_t (okI_n hk (by omega)), pl_e, nI_clamp (by omega)]
        exact ⟨_, rfl, fun _ => rfl⟩
      have hpos : (0 : Int32) < nI d := nI_lt (a := 0) (by omega) (by omega)
      rw [if_neg (nI_nle (by omega) (by omega)), sees_n hL (by omega) (by decide), bs]
      by_cases e2 : inr (chr L t (p + 1)) 48 57 = true
      · have l2 := inr_lt (by decide) e2
        obtain ⟨d2, hd5, hd6, hd7⟩ := digs e2
        have ht2 : t (p + 1) = chr L t (p + 1) := by unfold chr; rw [if_pos l2]
        rw [e2, show b2i true = 1 from rfl, if_neg i10, gd_t (okI_n (by omega) (by omega))]
        simp only [nI_clamp (show p + 1 < 2 ^ 31 by omega), ht2, hd7, dlit10]
        by_cases e3 : 10 * d + d2 ≤ 20
        · rw [if_neg (show ¬ (20 : Int32) < nI (10 * d + d2) from nI_nlt (a := 20) e3 (by omega)), gd_t (okI_n (by omega) (by omega)), pl_e, pl_e, bs]
          rw [if_pos (show 0 < nI d ∧ True ∧ nI (10 * d + d2) ≤ (20 : Int32) from ⟨hpos, trivial, nI_le (b := 20) e3 (by omega)⟩)]
          simp only []
          rw [if_pos trivial, gd_t (okI_n hk (by omega)), pl_e, nI_clamp (by omega)]
          exact ⟨upd told k (nI (10 * d + d2)), by rw [show nI (p + 1) + (1 : Int32) = nI (p + 2) from nI_1 (p + 1)]; rfl, fun _ => rfl⟩
        · rw [if_pos (show (20 : Int32) < nI (10 * d + d2) from nI_lt (a := 20) (by omega) (by omega)), bs]
          rw [if_neg (show ¬ (0 < nI d ∧ True ∧ nI (10 * d + d2) ≤ (20 : Int32)) from fun h => e3 ((nI_leI (b := 20) (by omega) (by omega)).mp h.2.2))]
          simp only []
          rw [if_pos trivial, gd_t (okI_n hk (by omega)), pl_e, nI_clamp (by omega)]
          exact ⟨_, rfl, fun _ => rfl⟩
      · have e2' : inr (chr L t (p + 1)) 48 57 = false := by
          cases h : inr (chr L t (p + 1)) 48 57 with
          | true => exact absurd h e2
          | false => rfl
        rw [e2', show b2i false = 0 from rfl, if_pos rfl, bs]
        rw [if_neg (show ¬ (0 < nI d ∧ false = true ∧ (10 * nI d + chr L t (p + 1) - 48) ≤ (20 : Int32)) from fun h => by cases h.2.1)]
        simp only []
        rw [if_pos trivial, gd_t (okI_n hk (by omega)), pl_e, nI_clamp (by omega)]
        exact ⟨_, rfl, fun _ => rfl⟩
    · have e1' : inr (chr L t p) 48 57 = false := by
        cases h : inr (chr L t p) 48 57 with
        | true => exact absurd h e1
        | false => rfl
      rw [e1', show b2i false = 0 from rfl, if_pos rfl, if_neg (by decide)]
      exact ⟨told, rfl, fun h => by cases h⟩
